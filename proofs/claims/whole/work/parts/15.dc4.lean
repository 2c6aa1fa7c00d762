theorem d_Dc_scale_0 : decode b_Dc_scaleByPowerOfTwo 0 = .ok (.iload_n 1, 1) := by decide +kernel
theorem d_Dc_scale_1 : decode b_Dc_scaleByPowerOfTwo 1 = .ok (.istore_n 2, 1) := by decide +kernel
theorem d_Dc_scale_2 : decode b_Dc_scaleByPowerOfTwo 2 = .ok (.iload_n 2, 1) := by decide +kernel
theorem d_Dc_scale_3 : decode b_Dc_scaleByPowerOfTwo 3 = .ok (.ifCond .le (19), 3) := by decide +kernel
theorem d_Dc_scale_6 : decode b_Dc_scaleByPowerOfTwo 6 = .ok (.aload_n 0, 1) := by decide +kernel
theorem d_Dc_scale_7 : decode b_Dc_scaleByPowerOfTwo 7 = .ok (.iload_n 2, 1) := by decide +kernel
theorem d_Dc_scale_8 : decode b_Dc_scaleByPowerOfTwo 8 = .ok (.bipush (29), 2) := by decide +kernel
theorem d_Dc_scale_10 : decode b_Dc_scaleByPowerOfTwo 10 = .ok (.invokestatic 28, 3) := by decide +kernel
theorem d_Dc_scale_13 : decode b_Dc_scaleByPowerOfTwo 13 = .ok (.invokevirtual 34, 3) := by decide +kernel
theorem d_Dc_scale_16 : decode b_Dc_scaleByPowerOfTwo 16 = .ok (.iinc 2 (-29), 3) := by decide +kernel
theorem d_Dc_scale_19 : decode b_Dc_scaleByPowerOfTwo 19 = .ok (.goto (-17), 3) := by decide +kernel
theorem d_Dc_scale_22 : decode b_Dc_scaleByPowerOfTwo 22 = .ok (.iload_n 1, 1) := by decide +kernel
theorem d_Dc_scale_23 : decode b_Dc_scaleByPowerOfTwo 23 = .ok (.ineg, 1) := by decide +kernel
theorem d_Dc_scale_24 : decode b_Dc_scaleByPowerOfTwo 24 = .ok (.istore_n 2, 1) := by decide +kernel
theorem d_Dc_scale_25 : decode b_Dc_scaleByPowerOfTwo 25 = .ok (.iload_n 2, 1) := by decide +kernel
theorem d_Dc_scale_26 : decode b_Dc_scaleByPowerOfTwo 26 = .ok (.ifCond .le (19), 3) := by decide +kernel
theorem d_Dc_scale_29 : decode b_Dc_scaleByPowerOfTwo 29 = .ok (.aload_n 0, 1) := by decide +kernel
theorem d_Dc_scale_30 : decode b_Dc_scaleByPowerOfTwo 30 = .ok (.iload_n 2, 1) := by decide +kernel
theorem d_Dc_scale_31 : decode b_Dc_scaleByPowerOfTwo 31 = .ok (.bipush (27), 2) := by decide +kernel
theorem d_Dc_scale_33 : decode b_Dc_scaleByPowerOfTwo 33 = .ok (.invokestatic 28, 3) := by decide +kernel
theorem d_Dc_scale_36 : decode b_Dc_scaleByPowerOfTwo 36 = .ok (.invokevirtual 37, 3) := by decide +kernel
theorem d_Dc_scale_39 : decode b_Dc_scaleByPowerOfTwo 39 = .ok (.iinc 2 (-27), 3) := by decide +kernel
theorem d_Dc_scale_42 : decode b_Dc_scaleByPowerOfTwo 42 = .ok (.goto (-17), 3) := by decide +kernel
theorem d_Dc_scale_45 : decode b_Dc_scaleByPowerOfTwo 45 = .ok (.return_, 1) := by decide +kernel
set_option maxHeartbeats 4000000 in
set_option maxRecDepth 100000 in
theorem c_Dc_scale (l : Launch) (D : va_G) (cI cB : ClassId) (x d la t ba tt : Nat) (ad : Nat → Nat) (V : Int) (tx : List Int) (q : Int) (Wv : Int) (hq : -1074 ≤ q ∧ q ≤ 971) (hW0 : 0 ≤ Wv) (hVW : V * 2 ^ q.toNat = Wv * 2 ^ (-q).toNat) (hWb : 0 ≤ q → Wv < 1000000000 ^ 155) : Ct l y_Dc_scaleByPowerOfTwo (ws_Dc_scaleByPowerOfTwo) 2 (AX x d la t ba) [.ref d, .int (iz q)] (XL D cI cB x d la t ba tt ad V 34 tx) (zR none (XW D cI cB x d la t ba tt ad Wv tx)) := by
  refine z_body zSt_XL (by decide +kernel) rfl (Nat.le_of_ble_eq_true rfl) ?_
  intro p e s m args below meth c ls hx hb hml hr hlk hts0 hown hpre0 H locs hpre hS hl
  have hts : ∀ w ∈ TBL, w.before args s = true := fun w hw => hts0 w (List.mem_cons_of_mem _ hw)
  have hl : lv_has ls 3 [(0, .ref d), (1, .int (iz q))] := hl
  have hw := hpre
  have hst0 := hpre0.st
  have L25 : ∀ (N25 : Nat) (left : Int) (V2 : Int) (lt : Int) (H : Heap) (locs : List Loc) (ls : Array Slot), XL D cI cB x d la t ba tt ad V2 lt tx s H → va_S (AX x d la t ba) s.heap H locs → lv_has ls 3 [(0, .ref d), (1, .int (iz q)), (2, .int (iz left))] → (left ≤ 1074 ∧ -1000 ≤ left) → (lt + 3 * ((left + 26) / 27) ≤ 154 ∧ lt ≤ 154) → (V2 = Wv * 2 ^ left.toNat) → left.toNat < N25 → W p l e (zrm 2) s m args below meth c H locs 0 0 (MQ below (zQ (AX x d la t ba) (zR none (XW D cI cB x d la t ba tt ad Wv tx))) args s 0 0 (AX x d la t ba)) (F0 m 25 ls []) := by
    intro N25
    induction N25 with
    | zero => intro left V2 lt H locs ls hw hS hl hle hlt hv2 hN25; exact absurd hN25 (Nat.not_lt_zero _)
    | succ N25 ih25 =>
      intro left V2 lt H locs ls hw hS hl hle hlt hv2 hN25
      refine lv_iload_n hx hb d_Dc_scale_25 rfl (lv_at hl 2 rfl) ?_
      refine z_if_le (tgt := 45) hx hb d_Dc_scale_26 rfl ⟨by omega, by omega⟩ (fun hc26 => ?_) (fun hc26 => ?_)
      · exact z_vret hx hb hr hlk hS (zR_st zSt_XW) ⟨rfl, _, by rw [show left.toNat = 0 by omega, Int.pow_zero, Int.mul_one] at hv2; rw [← hv2]; exact hw⟩ d_Dc_scale_45
      · refine lv_aload_n hx hb d_Dc_scale_29 rfl (lv_at hl 0 rfl) ?_
        refine lv_iload_n hx hb d_Dc_scale_30 rfl (lv_at hl 2 rfl) ?_
        refine lv_bipush (v := iz 27) hx hb d_Dc_scale_31 (by decide) ?_
        refine z_mmin hx hb (hml.trans hl.1.symm) hown (hts _ tw_260) (hts _ tw_261) (hts _ tw_16) (hts _ twm_min) (Nat.le_of_ble_eq_true rfl) (Nat.le_of_ble_eq_true rfl) (Nat.zero_le _) (Nat.zero_le _) ⟨by omega, by omega⟩ ⟨by omega, by omega⟩ d_Dc_scale_33 ?_
        refine z_ri (b := ((min left 27).toNat : Int)) (by omega) ?_
        have hct := c_Dc_div l D cI cB x d la t ba tt ad V2 tx lt (min left 27).toNat (2 ^ (min left 27).toNat) (Wv * 2 ^ (left - 27).toNat) ⟨by omega, by omega⟩ rfl (scale_dn hc26 hv2) (by omega)
        refine z_go (va_runV (As := [.int (iz ((min left 27).toNat : Int))]) (rest := []) ⟨hx, hb, hml, hown, hts⟩ hct.2 (z_cwV hts w_Dc_divideByPowerOfTwo tw_267 (by decide)) (z_preV hct.1 (hw.recv) hw) rfl rfl hl.1 rfl (lv_room (Nat.le_of_ble_eq_true rfl)) d_Dc_scale_36 ⟨Nat.zero_le _, Nat.zero_le _⟩) hS (fun _ h9 => h9) (fun v9 t9 H locs hv9 hp9 hz9 hk9 hS => ?_)
        obtain ⟨rfl, hw⟩ := hp9
        have hw := XL.moved hv9.symm hw
        refine W.eq (g2 := F0 m 39 ls []) rfl ?_
        refine lv_iinc (k := 2) (v := (iz (left - 27))) hx hb d_Dc_scale_39 hl rfl (by show iz _ + iz (-27) = _; rw [← iz_add]; try rfl) (by decide) rfl (fun ls hl => ?_)
        have hl : lv_has ls 3 [(2, .int (iz (left - 27))), (0, .ref d), (1, .int (iz q))] := hl
        refine lv_goto (tgt := 25) hx hb d_Dc_scale_42 rfl ?_
        exact ih25 (left - 27) (Wv * 2 ^ (left - 27).toNat) (lt + (((min left 27).toNat + 8) / 9 : Nat)) _ _ _ hw hS (lv_sub hl [1, 2, 0] rfl) ⟨by omega, by omega⟩ ⟨by omega, by omega⟩ rfl (by omega)
  have L2 : ∀ (N2 : Nat) (left : Int) (V2 : Int) (H : Heap) (locs : List Loc) (ls : Array Slot), XL D cI cB x d la t ba tt ad V2 34 tx s H → va_S (AX x d la t ba) s.heap H locs → lv_has ls 3 [(0, .ref d), (1, .int (iz q)), (2, .int (iz left))] → (left ≤ q ∧ -1074 ≤ left ∧ (q ≤ 0 → left = q)) → (V2 * 2 ^ left.toNat = Wv * 2 ^ (-q).toNat) → left.toNat < N2 → W p l e (zrm 2) s m args below meth c H locs 0 0 (MQ below (zQ (AX x d la t ba) (zR none (XW D cI cB x d la t ba tt ad Wv tx))) args s 0 0 (AX x d la t ba)) (F0 m 2 ls []) := by
    intro N2
    induction N2 with
    | zero => intro left V2 H locs ls hw hS hl hle hv2 hN2; exact absurd hN2 (Nat.not_lt_zero _)
    | succ N2 ih2 =>
      intro left V2 H locs ls hw hS hl hle hv2 hN2
      refine lv_iload_n hx hb d_Dc_scale_2 rfl (lv_at hl 2 rfl) ?_
      refine z_if_le (tgt := 22) hx hb d_Dc_scale_3 rfl ⟨by omega, by omega⟩ (fun hc3 => ?_) (fun hc3 => ?_)
      · refine lv_iload_n hx hb d_Dc_scale_22 rfl (lv_at hl 1 rfl) ?_
        refine z_ineg hx hb d_Dc_scale_23 ?_
        refine lv_istore_n hx hb d_Dc_scale_24 rfl hl (by decide) rfl (fun ls hl => ?_)
        have hl : lv_has ls 3 [(2, .int (iz (-q))), (0, .ref d), (1, .int (iz q))] := hl
        exact L25 _ (-q) V2 34 _ _ _ hw hS (lv_sub hl [1, 2, 0] rfl) ⟨by omega, by omega⟩ ⟨by omega, by omega⟩ (by rw [show left.toNat = 0 by omega, Int.pow_zero, Int.mul_one] at hv2; exact hv2) (Nat.lt_succ_self _)
      · refine lv_aload_n hx hb d_Dc_scale_6 rfl (lv_at hl 0 rfl) ?_
        refine lv_iload_n hx hb d_Dc_scale_7 rfl (lv_at hl 2 rfl) ?_
        refine lv_bipush (v := iz 29) hx hb d_Dc_scale_8 (by decide) ?_
        refine z_mmin hx hb (hml.trans hl.1.symm) hown (hts _ tw_260) (hts _ tw_261) (hts _ tw_16) (hts _ twm_min) (Nat.le_of_ble_eq_true rfl) (Nat.le_of_ble_eq_true rfl) (Nat.zero_le _) (Nat.zero_le _) ⟨by omega, by omega⟩ ⟨by omega, by omega⟩ d_Dc_scale_10 ?_
        refine z_ri (b := ((min left 29).toNat : Int)) (by omega) ?_
        have hct := c_Dc_mul l D cI cB x d la t ba tt ad V2 tx 34 (min left 29).toNat (2 ^ (min left 29).toNat) ⟨by omega, by omega⟩ rfl (scale_lt hc3 hle.2.2 hv2 hWb hW0)
        refine z_go (va_runV (As := [.int (iz ((min left 29).toNat : Int))]) (rest := []) ⟨hx, hb, hml, hown, hts⟩ hct.2 (z_cwV hts w_Dc_multiplyByPowerOfTwo tw_263 (by decide)) (z_preV hct.1 (hw.recv) hw) rfl rfl hl.1 rfl (lv_room (Nat.le_of_ble_eq_true rfl)) d_Dc_scale_13 ⟨Nat.zero_le _, Nat.zero_le _⟩) hS (fun _ h9 => h9) (fun v9 t9 H locs hv9 hp9 hz9 hk9 hS => ?_)
        obtain ⟨rfl, hw⟩ := hp9
        have hw := XL.moved hv9.symm hw
        refine W.eq (g2 := F0 m 16 ls []) rfl ?_
        refine lv_iinc (k := 2) (v := (iz (left - 29))) hx hb d_Dc_scale_16 hl rfl (by show iz _ + iz (-29) = _; rw [← iz_add]; try rfl) (by decide) rfl (fun ls hl => ?_)
        have hl : lv_has ls 3 [(2, .int (iz (left - 29))), (0, .ref d), (1, .int (iz q))] := hl
        refine lv_goto (tgt := 2) hx hb d_Dc_scale_19 rfl ?_
        exact ih2 (left - 29) (2 ^ (min left 29).toNat * V2) _ _ _ hw hS (lv_sub hl [1, 2, 0] rfl) ⟨by omega, by omega, fun h => absurd h (by omega)⟩ (scale_up hc3 hv2) (by omega)
  refine lv_iload_n hx hb d_Dc_scale_0 rfl (lv_at hl 1 rfl) ?_
  refine lv_istore_n hx hb d_Dc_scale_1 rfl hl (by decide) rfl (fun ls hl => ?_)
  have hl : lv_has ls 3 [(2, .int (iz q)), (0, .ref d), (1, .int (iz q))] := hl
  exact L2 _ q V _ _ _ hw hS (lv_sub hl [1, 2, 0] rfl) ⟨by omega, by omega, fun _ => rfl⟩ hVW (Nat.lt_succ_self _)
theorem d_Dc_whole_0 : decode b_Dc_assignWhole 0 = .ok (.aload_n 0, 1) := by decide +kernel
theorem d_Dc_whole_1 : decode b_Dc_assignWhole 1 = .ok (.getfield 9, 3) := by decide +kernel
theorem d_Dc_whole_4 : decode b_Dc_assignWhole 4 = .ok (.iconst 0, 1) := by decide +kernel
theorem d_Dc_whole_5 : decode b_Dc_assignWhole 5 = .ok (.invokestatic 40, 3) := by decide +kernel
theorem d_Dc_whole_8 : decode b_Dc_assignWhole 8 = .ok (.aload_n 0, 1) := by decide +kernel
theorem d_Dc_whole_9 : decode b_Dc_assignWhole 9 = .ok (.getfield 9, 3) := by decide +kernel
theorem d_Dc_whole_12 : decode b_Dc_assignWhole 12 = .ok (.bipush (34), 2) := by decide +kernel
theorem d_Dc_whole_14 : decode b_Dc_assignWhole 14 = .ok (.lload_n 1, 1) := by decide +kernel
theorem d_Dc_whole_15 : decode b_Dc_assignWhole 15 = .ok (.ldc2_w 46, 3) := by decide +kernel
theorem d_Dc_whole_18 : decode b_Dc_assignWhole 18 = .ok (.lrem, 1) := by decide +kernel
theorem d_Dc_whole_19 : decode b_Dc_assignWhole 19 = .ok (.l2i, 1) := by decide +kernel
theorem d_Dc_whole_20 : decode b_Dc_assignWhole 20 = .ok (.iastore, 1) := by decide +kernel
theorem d_Dc_whole_21 : decode b_Dc_assignWhole 21 = .ok (.aload_n 0, 1) := by decide +kernel
theorem d_Dc_whole_22 : decode b_Dc_assignWhole 22 = .ok (.getfield 9, 3) := by decide +kernel
theorem d_Dc_whole_25 : decode b_Dc_assignWhole 25 = .ok (.bipush (33), 2) := by decide +kernel
theorem d_Dc_whole_27 : decode b_Dc_assignWhole 27 = .ok (.lload_n 1, 1) := by decide +kernel
theorem d_Dc_whole_28 : decode b_Dc_assignWhole 28 = .ok (.ldc2_w 46, 3) := by decide +kernel
theorem d_Dc_whole_31 : decode b_Dc_assignWhole 31 = .ok (.ldiv, 1) := by decide +kernel
theorem d_Dc_whole_32 : decode b_Dc_assignWhole 32 = .ok (.l2i, 1) := by decide +kernel
theorem d_Dc_whole_33 : decode b_Dc_assignWhole 33 = .ok (.iastore, 1) := by decide +kernel
theorem d_Dc_whole_34 : decode b_Dc_assignWhole 34 = .ok (.aload_n 0, 1) := by decide +kernel
theorem d_Dc_whole_35 : decode b_Dc_assignWhole 35 = .ok (.bipush (33), 2) := by decide +kernel
theorem d_Dc_whole_37 : decode b_Dc_assignWhole 37 = .ok (.putfield 13, 3) := by decide +kernel
theorem d_Dc_whole_40 : decode b_Dc_assignWhole 40 = .ok (.aload_n 0, 1) := by decide +kernel
theorem d_Dc_whole_41 : decode b_Dc_assignWhole 41 = .ok (.bipush (34), 2) := by decide +kernel
theorem d_Dc_whole_43 : decode b_Dc_assignWhole 43 = .ok (.putfield 17, 3) := by decide +kernel
theorem d_Dc_whole_46 : decode b_Dc_assignWhole 46 = .ok (.return_, 1) := by decide +kernel
set_option maxHeartbeats 4000000 in
set_option maxRecDepth 100000 in
theorem c_Dc_whole (l : Launch) (D : va_G) (cI cB : ClassId) (x d la t ba tt : Nat) (ad : Nat → Nat) (V : Int) (tx : List Int) (wc : Int) (hwc : 0 ≤ wc ∧ wc ≤ 18014398509481983) : Ct l y_Dc_assignWhole (ws_Dc_assignWhole) 1 (AX x d la t ba) [.ref d, .long (lz wc)] (XW D cI cB x d la t ba tt ad V tx) (zR none (XL D cI cB x d la t ba tt ad (wc * 10 ^ 1080) 34 tx)) := by
  refine z_body zSt_XW (by decide +kernel) rfl (Nat.le_of_ble_eq_true rfl) ?_
  intro p e s m args below meth c ls hx hb hml hr hlk hts0 hown hpre0 H locs hpre hS hl
  have hts : ∀ w ∈ TBL, w.before args s = true := fun w hw => hts0 w (List.mem_cons_of_mem _ hw)
  have hl : lv_has ls 3 [(0, .ref d), (1, .long (lz wc))] := hl
  have hw := hpre
  have hst0 := hpre0.st
  have hw9 := hw
  obtain ⟨lt, f, fi, g, n, ⟨hK, hP, hD⟩, hdec, htx, -⟩ := hw9
  have hdr := hdec.1
  have htn := htx.1
  have htl := htx.2.1
  refine lv_aload_n hx hb d_Dc_whole_0 rfl (lv_at hl 0 rfl) ?_
  refine va_get (D := D) (ci := 1) (v := .ref la) (C := R_1) (T := T_1) (N := 3) hx hb hts in_1 hown hK hP 1 rfl rfl 0 (by decide) (hts _ tw_33) (fun _ h9 => h9) rfl d_Dc_whole_1 ?_
  refine lv_iconst (v := iz 0) hx hb d_Dc_whole_4 rfl ?_
  have hct := c_fill l D cI cB x d la t ba fi lt f g n
  refine z_go (va_runS (As := [.ref la, .int (iz 0)]) (rest := []) ⟨hx, hb, hml, hown, hts⟩ hct.2 (z_cwS hts w_Ar_fill tw_252 (by decide)) (z_preS hct.1 ⟨hK, hP, hD⟩) rfl rfl hl.1 rfl (lv_room (Nat.le_of_ble_eq_true rfl)) d_Dc_whole_5 ⟨Nat.zero_le _, Nat.zero_le _⟩) hS (fun _ h9 => h9) (fun v9 t9 H locs hv9 hp9 hz9 hk9 hS => ?_)
  obtain ⟨rfl, hK, hP, hD⟩ := hp9
  have hK := va_K.moved hv9.symm hK
  have hP : va_P D vwCl [(x, .inr (0, [.ref d, .ref t])), (d, .inr (1, [.ref la, .int (iz fi), .int (iz lt)])), (la, .inl (cI, 155, .inl (az (fun _ => 0)))), (t, .inr (2, [.ref ba, .int (iz n)])), (ba, .inl (cB, 1612, .inl (az g)))] H := hP
  have hD : va_D (AX x d la t ba) [(x, .inr (0, [.ref d, .ref t])), (d, .inr (1, [.ref la, .int (iz fi), .int (iz lt)])), (la, .inl (cI, 155, .inl (az (fun _ => 0)))), (t, .inr (2, [.ref ba, .int (iz n)])), (ba, .inl (cB, 1612, .inl (az g)))] := hD
  refine W.eq (g2 := F0 m 8 ls []) rfl ?_
  refine lv_aload_n hx hb d_Dc_whole_8 rfl (lv_at hl 0 rfl) ?_
  refine va_get (D := D) (ci := 1) (v := .ref la) (C := R_1) (T := T_1) (N := 3) hx hb hts in_1 hown hK hP 1 rfl rfl 0 (by decide) (hts _ tw_33) (fun _ h9 => h9) rfl d_Dc_whole_9 ?_
  refine lv_bipush (v := iz 34) hx hb d_Dc_whole_12 (by decide) ?_
  refine lv_lload_n hx hb d_Dc_whole_14 rfl (lv_at hl 1 rfl) ?_
  refine lv_ldc2 (v := (1000000000 : Int64)) hx hb hown (hts _ tw_255) d_Dc_whole_15 ?_
  refine z_topl (y := lz (1000000000)) (by decide) ?_
  refine z_lrem hx hb d_Dc_whole_18 ⟨by omega, by omega⟩ ⟨by omega, by omega⟩ ?_
  refine z_l2i hx hb d_Dc_whole_19 ?_
  refine z_iast hx hb hK hP hD hS 2 0 rfl rfl (by omega) (by omega) (by decide) d_Dc_whole_20 (fun H locs hP hD hS => ?_)
  have hP : va_P D vwCl [(x, .inr (0, [.ref d, .ref t])), (d, .inr (1, [.ref la, .int (iz fi), .int (iz lt)])), (la, .inl (cI, 155, .inl (az (up (fun _ => 0) 34 (wc % 1000000000))))), (t, .inr (2, [.ref ba, .int (iz n)])), (ba, .inl (cB, 1612, .inl (az g)))] H := hP
  have hD : va_D (AX x d la t ba) [(x, .inr (0, [.ref d, .ref t])), (d, .inr (1, [.ref la, .int (iz fi), .int (iz lt)])), (la, .inl (cI, 155, .inl (az (up (fun _ => 0) 34 (wc % 1000000000))))), (t, .inr (2, [.ref ba, .int (iz n)])), (ba, .inl (cB, 1612, .inl (az g)))] := hD
  refine lv_aload_n hx hb d_Dc_whole_21 rfl (lv_at hl 0 rfl) ?_
  refine va_get (D := D) (ci := 1) (v := .ref la) (C := R_1) (T := T_1) (N := 3) hx hb hts in_1 hown hK hP 1 rfl rfl 0 (by decide) (hts _ tw_33) (fun _ h9 => h9) rfl d_Dc_whole_22 ?_
  refine lv_bipush (v := iz 33) hx hb d_Dc_whole_25 (by decide) ?_
  refine lv_lload_n hx hb d_Dc_whole_27 rfl (lv_at hl 1 rfl) ?_
  refine lv_ldc2 (v := (1000000000 : Int64)) hx hb hown (hts _ tw_255) d_Dc_whole_28 ?_
  refine z_topl (y := lz (1000000000)) (by decide) ?_
  refine z_ldiv hx hb d_Dc_whole_31 ⟨by omega, by omega⟩ ⟨by omega, by omega⟩ ?_
  refine z_l2i hx hb d_Dc_whole_32 ?_
  refine z_iast hx hb hK hP hD hS 2 0 rfl rfl (by omega) (by omega) (by decide) d_Dc_whole_33 (fun H locs hP hD hS => ?_)
  have hP : va_P D vwCl [(x, .inr (0, [.ref d, .ref t])), (d, .inr (1, [.ref la, .int (iz fi), .int (iz lt)])), (la, .inl (cI, 155, .inl (az (up (up (fun _ => 0) 34 (wc % 1000000000)) 33 (wc / 1000000000))))), (t, .inr (2, [.ref ba, .int (iz n)])), (ba, .inl (cB, 1612, .inl (az g)))] H := hP
  have hD : va_D (AX x d la t ba) [(x, .inr (0, [.ref d, .ref t])), (d, .inr (1, [.ref la, .int (iz fi), .int (iz lt)])), (la, .inl (cI, 155, .inl (az (up (up (fun _ => 0) 34 (wc % 1000000000)) 33 (wc / 1000000000))))), (t, .inr (2, [.ref ba, .int (iz n)])), (ba, .inl (cB, 1612, .inl (az g)))] := hD
  refine lv_aload_n hx hb d_Dc_whole_34 rfl (lv_at hl 0 rfl) ?_
  refine lv_bipush (v := iz 33) hx hb d_Dc_whole_35 (by decide) ?_
  refine va_put (D := D) (ci := 1) (v := .int (iz 33)) (ty := .int) (C := R_1) (T := T_1) (N := 3) hx hb hts in_1 ty_1 tyok_1 nm_1 hown hK hP hD hS 1 rfl rfl 1 (by decide) (hts _ tw_34) (fun _ h9 => h9) rfl (by decide +kernel) rfl rfl (Nat.le_of_ble_eq_true rfl) d_Dc_whole_37 (fun H locs hP hD hS => ?_)
  have hP : va_P D vwCl [(x, .inr (0, [.ref d, .ref t])), (d, .inr (1, [.ref la, .int (iz 33), .int (iz lt)])), (la, .inl (cI, 155, .inl (az (up (up (fun _ => 0) 34 (wc % 1000000000)) 33 (wc / 1000000000))))), (t, .inr (2, [.ref ba, .int (iz n)])), (ba, .inl (cB, 1612, .inl (az g)))] H := hP
  have hD : va_D (AX x d la t ba) [(x, .inr (0, [.ref d, .ref t])), (d, .inr (1, [.ref la, .int (iz 33), .int (iz lt)])), (la, .inl (cI, 155, .inl (az (up (up (fun _ => 0) 34 (wc % 1000000000)) 33 (wc / 1000000000))))), (t, .inr (2, [.ref ba, .int (iz n)])), (ba, .inl (cB, 1612, .inl (az g)))] := hD
  refine lv_aload_n hx hb d_Dc_whole_40 rfl (lv_at hl 0 rfl) ?_
  refine lv_bipush (v := iz 34) hx hb d_Dc_whole_41 (by decide) ?_
  refine va_put (D := D) (ci := 1) (v := .int (iz 34)) (ty := .int) (C := R_1) (T := T_1) (N := 3) hx hb hts in_1 ty_1 tyok_1 nm_1 hown hK hP hD hS 1 rfl rfl 2 (by decide) (hts _ tw_35) (fun _ h9 => h9) rfl (by decide +kernel) rfl rfl (Nat.le_of_ble_eq_true rfl) d_Dc_whole_43 (fun H locs hP hD hS => ?_)
  have hP : va_P D vwCl [(x, .inr (0, [.ref d, .ref t])), (d, .inr (1, [.ref la, .int (iz 33), .int (iz 34)])), (la, .inl (cI, 155, .inl (az (up (up (fun _ => 0) 34 (wc % 1000000000)) 33 (wc / 1000000000))))), (t, .inr (2, [.ref ba, .int (iz n)])), (ba, .inl (cB, 1612, .inl (az g)))] H := hP
  have hD : va_D (AX x d la t ba) [(x, .inr (0, [.ref d, .ref t])), (d, .inr (1, [.ref la, .int (iz 33), .int (iz 34)])), (la, .inl (cI, 155, .inl (az (up (up (fun _ => 0) 34 (wc % 1000000000)) 33 (wc / 1000000000))))), (t, .inr (2, [.ref ba, .int (iz n)])), (ba, .inl (cB, 1612, .inl (az g)))] := hD
  exact z_vret hx hb hr hlk hS (zR_st zSt_XL) ⟨rfl, _, _, _, _, ⟨hK, hP, hD⟩, (whole_ok hwc), htx, hst0.kept hS.2.1⟩ d_Dc_whole_46
theorem d_Dc_assign_0 : decode b_Dc_assign 0 = .ok (.aload_n 0, 1) := by decide +kernel
theorem d_Dc_assign_1 : decode b_Dc_assign 1 = .ok (.lload_n 1, 1) := by decide +kernel
theorem d_Dc_assign_2 : decode b_Dc_assign 2 = .ok (.invokevirtual 20, 3) := by decide +kernel
theorem d_Dc_assign_5 : decode b_Dc_assign 5 = .ok (.lload_n 1, 1) := by decide +kernel
theorem d_Dc_assign_6 : decode b_Dc_assign 6 = .ok (.lconst 0, 1) := by decide +kernel
theorem d_Dc_assign_7 : decode b_Dc_assign 7 = .ok (.lcmp, 1) := by decide +kernel
theorem d_Dc_assign_8 : decode b_Dc_assign 8 = .ok (.ifCond .eq (8), 3) := by decide +kernel
theorem d_Dc_assign_11 : decode b_Dc_assign 11 = .ok (.aload_n 0, 1) := by decide +kernel
theorem d_Dc_assign_12 : decode b_Dc_assign 12 = .ok (.iload_n 3, 1) := by decide +kernel
theorem d_Dc_assign_13 : decode b_Dc_assign 13 = .ok (.invokevirtual 24, 3) := by decide +kernel
theorem d_Dc_assign_16 : decode b_Dc_assign 16 = .ok (.return_, 1) := by decide +kernel
set_option maxHeartbeats 4000000 in
set_option maxRecDepth 100000 in
theorem c_Dc_assign (l : Launch) (D : va_G) (cI cB : ClassId) (x d la t ba tt : Nat) (ad : Nat → Nat) (V : Int) (tx : List Int) (wc q Wv : Int) (hwc : 0 ≤ wc ∧ wc ≤ 18014398509481983) (hq : -1074 ≤ q ∧ q ≤ 971) (hW0 : 0 ≤ Wv) (hVW : wc * 10 ^ 1080 * 2 ^ q.toNat = Wv * 2 ^ (-q).toNat) (hWb : 0 ≤ q → Wv < 1000000000 ^ 155) : Ct l y_Dc_assign (ws_Dc_assign) 3 (AX x d la t ba) [.ref d, .long (lz wc), .int (iz q)] (XW D cI cB x d la t ba tt ad V tx) (zR none (XW D cI cB x d la t ba tt ad Wv tx)) := by
  refine z_body zSt_XW (by decide +kernel) rfl (Nat.le_of_ble_eq_true rfl) ?_
  intro p e s m args below meth c ls hx hb hml hr hlk hts0 hown hpre0 H locs hpre hS hl
  have hts : ∀ w ∈ TBL, w.before args s = true := fun w hw => hts0 w (List.mem_cons_of_mem _ hw)
  have hl : lv_has ls 4 [(0, .ref d), (1, .long (lz wc)), (3, .int (iz q))] := hl
  have hw := hpre
  have hst0 := hpre0.st
  refine lv_aload_n hx hb d_Dc_assign_0 rfl (lv_at hl 0 rfl) ?_
  refine lv_lload_n hx hb d_Dc_assign_1 rfl (lv_at hl 1 rfl) ?_
  have hct := c_Dc_whole l D cI cB x d la t ba tt ad V tx wc hwc
  have hw9 := hw
  obtain ⟨lt, f, fi, g, n, ⟨hK, hP, hD⟩, hdec, htx, -⟩ := hw9
  have hdr := hdec.1
  have htn := htx.1
  have htl := htx.2.1
  have hP : va_P D vwCl [(x, .inr (0, [.ref d, .ref t])), (d, .inr (1, [.ref la, .int (iz fi), .int (iz lt)])), (la, .inl (cI, 155, .inl (az f))), (t, .inr (2, [.ref ba, .int (iz n)])), (ba, .inl (cB, 1612, .inl (az g)))] H := hP
  have hD : va_D (AX x d la t ba) [(x, .inr (0, [.ref d, .ref t])), (d, .inr (1, [.ref la, .int (iz fi), .int (iz lt)])), (la, .inl (cI, 155, .inl (az f))), (t, .inr (2, [.ref ba, .int (iz n)])), (ba, .inl (cB, 1612, .inl (az g)))] := hD
  refine z_go (va_runV (As := [.long (lz wc)]) (rest := []) ⟨hx, hb, hml, hown, hts⟩ hct.2 (z_cwV hts w_Dc_assignWhole tw_248 (by decide)) (z_preV hct.1 (va_recv hK hP (ci := 1) (q0 := 1) rfl rfl) hw) rfl rfl hl.1 rfl (lv_room (Nat.le_of_ble_eq_true rfl)) d_Dc_assign_2 ⟨Nat.zero_le _, Nat.zero_le _⟩) hS (fun _ h9 => h9) (fun v9 t9 H locs hv9 hp9 hz9 hk9 hS => ?_)
  obtain ⟨rfl, hw⟩ := hp9
  have hw := XL.moved hv9.symm hw
  refine W.eq (g2 := F0 m 5 ls []) rfl ?_
  refine lv_lload_n hx hb d_Dc_assign_5 rfl (lv_at hl 1 rfl) ?_
  refine lv_lconst (v := lz 0) hx hb d_Dc_assign_6 (by decide) ?_
  refine z_lif_eq (tgt := 16) hx hb d_Dc_assign_7 d_Dc_assign_8 rfl ⟨by omega, by omega⟩ ⟨by omega, by omega⟩ (fun hc7 => ?_) (fun hc7 => ?_)
  · exact z_vret hx hb hr hlk hS (zR_st zSt_XW) ⟨rfl, by
        first
          | exact hw
          | exact ⟨_, by rw [assign_0 hc7 hVW]; rw [hc7, Int.zero_mul] at hw; exact hw⟩⟩ d_Dc_assign_16
  · refine lv_aload_n hx hb d_Dc_assign_11 rfl (lv_at hl 0 rfl) ?_
    refine lv_iload_n hx hb d_Dc_assign_12 rfl (lv_at hl 2 rfl) ?_
    have hct := c_Dc_scale l D cI cB x d la t ba tt ad (wc * 10 ^ 1080) tx q Wv hq hW0 hVW hWb
    refine z_go (va_runV (As := [.int (iz q)]) (rest := []) ⟨hx, hb, hml, hown, hts⟩ hct.2 (z_cwV hts w_Dc_scaleByPowerOfTwo tw_256 (by decide)) (z_preV hct.1 (hw.recv) hw) rfl rfl hl.1 rfl (lv_room (Nat.le_of_ble_eq_true rfl)) d_Dc_assign_13 ⟨Nat.zero_le _, Nat.zero_le _⟩) hS (fun _ h9 => h9) (fun v9 t9 H locs hv9 hp9 hz9 hk9 hS => ?_)
    obtain ⟨rfl, hw⟩ := hp9
    have hw := XW.moved hv9.symm hw
    refine W.eq (g2 := F0 m 16 ls []) rfl ?_
    exact z_vret hx hb hr hlk hS (zR_st zSt_XW) ⟨rfl, by
        first
          | exact hw
          | exact ⟨_, by rw [assign_0 hc7 hVW]; rw [hc7, Int.zero_mul] at hw; exact hw⟩⟩ d_Dc_assign_16
