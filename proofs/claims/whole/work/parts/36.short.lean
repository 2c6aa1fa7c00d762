theorem d_EN_short_0 : decode b_EN_writeShorter 0 = .ok (.aload_n 0, 1) := by decide +kernel
theorem d_EN_short_1 : decode b_EN_writeShorter 1 = .ok (.getfield 10, 3) := by decide +kernel
theorem d_EN_short_4 : decode b_EN_writeShorter 4 = .ok (.aload_n 0, 1) := by decide +kernel
theorem d_EN_short_5 : decode b_EN_writeShorter 5 = .ok (.getfield 10, 3) := by decide +kernel
theorem d_EN_short_8 : decode b_EN_writeShorter 8 = .ok (.invokevirtual 91, 3) := by decide +kernel
theorem d_EN_short_11 : decode b_EN_writeShorter 11 = .ok (.iload_n 1, 1) := by decide +kernel
theorem d_EN_short_12 : decode b_EN_writeShorter 12 = .ok (.isub, 1) := by decide +kernel
theorem d_EN_short_13 : decode b_EN_writeShorter 13 = .ok (.iconst 1, 1) := by decide +kernel
theorem d_EN_short_14 : decode b_EN_writeShorter 14 = .ok (.iadd, 1) := by decide +kernel
theorem d_EN_short_15 : decode b_EN_writeShorter 15 = .ok (.invokevirtual 94, 3) := by decide +kernel
theorem d_EN_short_18 : decode b_EN_writeShorter 18 = .ok (.aload_n 0, 1) := by decide +kernel
theorem d_EN_short_19 : decode b_EN_writeShorter 19 = .ok (.getfield 10, 3) := by decide +kernel
theorem d_EN_short_22 : decode b_EN_writeShorter 22 = .ok (.invokevirtual 91, 3) := by decide +kernel
theorem d_EN_short_25 : decode b_EN_writeShorter 25 = .ok (.istore_n 3, 1) := by decide +kernel
theorem d_EN_short_26 : decode b_EN_writeShorter 26 = .ok (.iload_n 3, 1) := by decide +kernel
theorem d_EN_short_27 : decode b_EN_writeShorter 27 = .ok (.bipush (-4), 2) := by decide +kernel
theorem d_EN_short_29 : decode b_EN_writeShorter 29 = .ok (.if_icmp .lt (22), 3) := by decide +kernel
theorem d_EN_short_32 : decode b_EN_writeShorter 32 = .ok (.iload_n 3, 1) := by decide +kernel
theorem d_EN_short_33 : decode b_EN_writeShorter 33 = .ok (.iload_n 1, 1) := by decide +kernel
theorem d_EN_short_34 : decode b_EN_writeShorter 34 = .ok (.if_icmp .ge (17), 3) := by decide +kernel
theorem d_EN_short_37 : decode b_EN_writeShorter 37 = .ok (.aload_n 0, 1) := by decide +kernel
theorem d_EN_short_38 : decode b_EN_writeShorter 38 = .ok (.iload_n 1, 1) := by decide +kernel
theorem d_EN_short_39 : decode b_EN_writeShorter 39 = .ok (.iconst 1, 1) := by decide +kernel
theorem d_EN_short_40 : decode b_EN_writeShorter 40 = .ok (.isub, 1) := by decide +kernel
theorem d_EN_short_41 : decode b_EN_writeShorter 41 = .ok (.iload_n 3, 1) := by decide +kernel
theorem d_EN_short_42 : decode b_EN_writeShorter 42 = .ok (.isub, 1) := by decide +kernel
theorem d_EN_short_43 : decode b_EN_writeShorter 43 = .ok (.iload_n 2, 1) := by decide +kernel
theorem d_EN_short_44 : decode b_EN_writeShorter 44 = .ok (.iconst 0, 1) := by decide +kernel
theorem d_EN_short_45 : decode b_EN_writeShorter 45 = .ok (.invokevirtual 102, 3) := by decide +kernel
theorem d_EN_short_48 : decode b_EN_writeShorter 48 = .ok (.goto (11), 3) := by decide +kernel
theorem d_EN_short_51 : decode b_EN_writeShorter 51 = .ok (.aload_n 0, 1) := by decide +kernel
theorem d_EN_short_52 : decode b_EN_writeShorter 52 = .ok (.iload_n 1, 1) := by decide +kernel
theorem d_EN_short_53 : decode b_EN_writeShorter 53 = .ok (.iconst 1, 1) := by decide +kernel
theorem d_EN_short_54 : decode b_EN_writeShorter 54 = .ok (.isub, 1) := by decide +kernel
theorem d_EN_short_55 : decode b_EN_writeShorter 55 = .ok (.iconst 0, 1) := by decide +kernel
theorem d_EN_short_56 : decode b_EN_writeShorter 56 = .ok (.invokevirtual 98, 3) := by decide +kernel
theorem d_EN_short_59 : decode b_EN_writeShorter 59 = .ok (.return_, 1) := by decide +kernel
set_option maxHeartbeats 4000000 in
set_option maxRecDepth 100000 in
theorem c_EN_short (l : Launch) (D : va_G) (cI cB : ClassId) (x d la t ba tt : Nat) (ad : Nat → Nat) (V : Int) (tx : List Int) (dn : Nat) (gr : Int) (hdn : 1 ≤ dn ∧ dn ≤ 1200) (hgr : gr = 0 ∨ gr = 1) (hV0 : 0 ≤ V) (hV : V < 10 ^ 1389) (hb0 : -1100 ≤ lead V ∧ lead V ≤ 308) (hb : -999 ≤ lead (rup V (lead V + 1 - (dn : Int))) ∧ lead (rup V (lead V + 1 - (dn : Int))) ≤ 308) (hlen : tx.length = 0) : Ct l y_EN_writeShorter (ws_EN_writeShorter) 5 (AX x d la t ba) [.ref x, .int (iz (dn : Int)), .int (iz gr)] (XW D cI cB x d la t ba tt ad V tx) (zR none (XW D cI cB x d la t ba tt ad (rup V (lead V + 1 - (dn : Int))) (tx ++ genL (rnd V (lead V + 1 - (dn : Int))) dn gr))) := by
  refine z_body zSt_XW (by decide +kernel) rfl (Nat.le_of_ble_eq_true rfl) ?_
  intro p e s m args below meth c ls hx hb hml hr hlk hts0 hown hpre0 H locs hpre hS hl
  have hts : ∀ w ∈ TBL, w.before args s = true := fun w hw => hts0 w (List.mem_cons_of_mem _ hw)
  have hl : lv_has ls 4 [(0, .ref x), (1, .int (iz (dn : Int))), (2, .int (iz gr))] := hl
  have hw := hpre
  have hst0 := hpre0.st
  have hls : lead (rnd V (lead V + 1 - (dn : Int))) = lead (rup V (lead V + 1 - (dn : Int))) ∧ lead V + 1 - (dn : Int) ≤ lead (rup V (lead V + 1 - (dn : Int))) - ((dn : Int) - 1) := short_lead hV0 hdn.1
  refine lv_aload_n hx hb d_EN_short_0 rfl (lv_at hl 0 rfl) ?_
  have hw9 := hw
  obtain ⟨lt, f, fi, g, n, ⟨hK, hP, hD⟩, hdec, htx, -⟩ := hw9
  have hdr := hdec.1
  have htn := htx.1
  have htl := htx.2.1
  have hP : va_P D vwCl [(x, .inr (0, [.ref d, .ref t])), (d, .inr (1, [.ref la, .int (iz fi), .int (iz lt)])), (la, .inl (cI, 155, .inl (az f))), (t, .inr (2, [.ref ba, .int (iz n)])), (ba, .inl (cB, 1612, .inl (az g)))] H := hP
  have hD : va_D (AX x d la t ba) [(x, .inr (0, [.ref d, .ref t])), (d, .inr (1, [.ref la, .int (iz fi), .int (iz lt)])), (la, .inl (cI, 155, .inl (az f))), (t, .inr (2, [.ref ba, .int (iz n)])), (ba, .inl (cB, 1612, .inl (az g)))] := hD
  refine va_get (D := D) (ci := 0) (v := .ref d) (C := R_0) (T := T_0) (N := 2) hx hb hts in_0 hown hK hP 0 rfl rfl 0 (by decide) (hts _ tw_58) (fun _ h9 => h9) rfl d_EN_short_1 ?_
  refine lv_aload_n hx hb d_EN_short_4 rfl (lv_at hl 0 rfl) ?_
  refine va_get (D := D) (ci := 0) (v := .ref d) (C := R_0) (T := T_0) (N := 2) hx hb hts in_0 hown hK hP 0 rfl rfl 0 (by decide) (hts _ tw_58) (fun _ h9 => h9) rfl d_EN_short_5 ?_
  have hct := c_Dc_lead l D cI cB x d la t ba tt ad V tx (lead V) (lead_is hV0)
  refine z_go (va_runV (As := []) (rest := [.ref d]) ⟨hx, hb, hml, hown, hts⟩ hct.2 (z_cwV hts w_Dc_leadingPlace tw_271 (by decide)) (z_preV hct.1 (va_recv hK hP (ci := 1) (q0 := 1) rfl rfl) hw) rfl rfl hl.1 rfl (lv_room (Nat.le_of_ble_eq_true rfl)) d_EN_short_8 ⟨Nat.zero_le _, Nat.zero_le _⟩) hS (fun _ h9 => h9) (fun v9 t9 H locs hv9 hp9 hz9 hk9 hS => ?_)
  obtain ⟨rfl, hw⟩ := hp9
  have hw := XW.moved hv9.symm hw
  refine W.eq (g2 := F0 m 11 ls [.int (iz (lead V)), .ref d]) rfl ?_
  refine lv_iload_n hx hb d_EN_short_11 rfl (lv_at hl 1 rfl) ?_
  refine z_isub hx hb d_EN_short_12 ?_
  refine lv_iconst (v := iz 1) hx hb d_EN_short_13 rfl ?_
  refine z_iadd hx hb d_EN_short_14 ?_
  refine z_ri (b := lead V + 1 - (dn : Int)) (by omega) ?_
  have hct := c_Dc_roundAt l D cI cB x d la t ba tt ad V tx (lead V + 1 - (dn : Int)) ⟨by omega, by omega⟩ hV0 hV
  have hw9 := hw
  obtain ⟨lt, f, fi, g, n, ⟨hK, hP, hD⟩, hdec, htx, -⟩ := hw9
  have hdr := hdec.1
  have htn := htx.1
  have htl := htx.2.1
  have hP : va_P D vwCl [(x, .inr (0, [.ref d, .ref t])), (d, .inr (1, [.ref la, .int (iz fi), .int (iz lt)])), (la, .inl (cI, 155, .inl (az f))), (t, .inr (2, [.ref ba, .int (iz n)])), (ba, .inl (cB, 1612, .inl (az g)))] H := hP
  have hD : va_D (AX x d la t ba) [(x, .inr (0, [.ref d, .ref t])), (d, .inr (1, [.ref la, .int (iz fi), .int (iz lt)])), (la, .inl (cI, 155, .inl (az f))), (t, .inr (2, [.ref ba, .int (iz n)])), (ba, .inl (cB, 1612, .inl (az g)))] := hD
  refine z_go (va_runV (As := [.int (iz (lead V + 1 - (dn : Int)))]) (rest := []) ⟨hx, hb, hml, hown, hts⟩ hct.2 (z_cwV hts w_Dc_roundAt tw_277 (by decide)) (z_preV hct.1 (va_recv hK hP (ci := 1) (q0 := 1) rfl rfl) hw) rfl rfl hl.1 rfl (lv_room (Nat.le_of_ble_eq_true rfl)) d_EN_short_15 ⟨Nat.zero_le _, Nat.zero_le _⟩) hS (fun _ h9 => h9) (fun v9 t9 H locs hv9 hp9 hz9 hk9 hS => ?_)
  obtain ⟨rfl, hw⟩ := hp9
  have hw := XW.moved hv9.symm hw
  refine W.eq (g2 := F0 m 18 ls []) rfl ?_
  refine lv_aload_n hx hb d_EN_short_18 rfl (lv_at hl 0 rfl) ?_
  have hw9 := hw
  obtain ⟨lt, f, fi, g, n, ⟨hK, hP, hD⟩, hdec, htx, -⟩ := hw9
  have hdr := hdec.1
  have htn := htx.1
  have htl := htx.2.1
  have hP : va_P D vwCl [(x, .inr (0, [.ref d, .ref t])), (d, .inr (1, [.ref la, .int (iz fi), .int (iz lt)])), (la, .inl (cI, 155, .inl (az f))), (t, .inr (2, [.ref ba, .int (iz n)])), (ba, .inl (cB, 1612, .inl (az g)))] H := hP
  have hD : va_D (AX x d la t ba) [(x, .inr (0, [.ref d, .ref t])), (d, .inr (1, [.ref la, .int (iz fi), .int (iz lt)])), (la, .inl (cI, 155, .inl (az f))), (t, .inr (2, [.ref ba, .int (iz n)])), (ba, .inl (cB, 1612, .inl (az g)))] := hD
  refine va_get (D := D) (ci := 0) (v := .ref d) (C := R_0) (T := T_0) (N := 2) hx hb hts in_0 hown hK hP 0 rfl rfl 0 (by decide) (hts _ tw_58) (fun _ h9 => h9) rfl d_EN_short_19 ?_
  have hct := c_Dc_lead l D cI cB x d la t ba tt ad (rup V (lead V + 1 - (dn : Int))) tx (lead (rup V (lead V + 1 - (dn : Int)))) (lead_is (rup_nn hV0))
  refine z_go (va_runV (As := []) (rest := []) ⟨hx, hb, hml, hown, hts⟩ hct.2 (z_cwV hts w_Dc_leadingPlace tw_271 (by decide)) (z_preV hct.1 (va_recv hK hP (ci := 1) (q0 := 1) rfl rfl) hw) rfl rfl hl.1 rfl (lv_room (Nat.le_of_ble_eq_true rfl)) d_EN_short_22 ⟨Nat.zero_le _, Nat.zero_le _⟩) hS (fun _ h9 => h9) (fun v9 t9 H locs hv9 hp9 hz9 hk9 hS => ?_)
  obtain ⟨rfl, hw⟩ := hp9
  have hw := XW.moved hv9.symm hw
  refine W.eq (g2 := F0 m 25 ls [.int (iz (lead (rup V (lead V + 1 - (dn : Int)))))]) rfl ?_
  refine lv_istore_n hx hb d_EN_short_25 rfl hl (by decide) rfl (fun ls hl => ?_)
  have hl : lv_has ls 4 [(3, .int (iz (lead (rup V (lead V + 1 - (dn : Int)))))), (0, .ref x), (1, .int (iz (dn : Int))), (2, .int (iz gr))] := hl
  refine lv_iload_n hx hb d_EN_short_26 rfl (lv_at hl 0 rfl) ?_
  refine lv_bipush (v := iz (-4)) hx hb d_EN_short_27 (by decide) ?_
  refine z_icmp_lt (tgt := 51) hx hb d_EN_short_29 rfl ⟨by omega, by omega⟩ ⟨by omega, by omega⟩ (fun hc29 => ?_) (fun hc29 => ?_)
  · refine lv_aload_n hx hb d_EN_short_51 rfl (lv_at hl 1 rfl) ?_
    refine lv_iload_n hx hb d_EN_short_52 rfl (lv_at hl 2 rfl) ?_
    refine lv_iconst (v := iz 1) hx hb d_EN_short_53 rfl ?_
    refine z_isub hx hb d_EN_short_54 ?_
    refine z_ri (b := ((dn - 1 : Nat) : Int)) (by omega) ?_
    refine lv_iconst (v := iz 0) hx hb d_EN_short_55 rfl ?_
    have hct := c_EN_sci l D cI cB x d la t ba tt ad (rup V (lead V + 1 - (dn : Int))) tx (lead (rup V (lead V + 1 - (dn : Int)))) (dn - 1) 0 (lead_is (rup_nn hV0)) ⟨by omega, by omega⟩ (by omega) (by omega) (by omega)
    have hw9 := hw
    obtain ⟨lt, f, fi, g, n, ⟨hK, hP, hD⟩, hdec, htx, -⟩ := hw9
    have hdr := hdec.1
    have htn := htx.1
    have htl := htx.2.1
    have hP : va_P D vwCl [(x, .inr (0, [.ref d, .ref t])), (d, .inr (1, [.ref la, .int (iz fi), .int (iz lt)])), (la, .inl (cI, 155, .inl (az f))), (t, .inr (2, [.ref ba, .int (iz n)])), (ba, .inl (cB, 1612, .inl (az g)))] H := hP
    have hD : va_D (AX x d la t ba) [(x, .inr (0, [.ref d, .ref t])), (d, .inr (1, [.ref la, .int (iz fi), .int (iz lt)])), (la, .inl (cI, 155, .inl (az f))), (t, .inr (2, [.ref ba, .int (iz n)])), (ba, .inl (cB, 1612, .inl (az g)))] := hD
    refine z_go (va_runV (As := [.int (iz ((dn - 1 : Nat) : Int)), .int (iz 0)]) (rest := []) ⟨hx, hb, hml, hown, hts⟩ hct.2 (z_cwV hts w_EN_writeScientific tw_302 (by decide)) (z_preV hct.1 (va_recv hK hP (ci := 0) (q0 := 0) rfl rfl) hw) rfl rfl hl.1 rfl (lv_room (Nat.le_of_ble_eq_true rfl)) d_EN_short_56 ⟨Nat.zero_le _, Nat.zero_le _⟩) hS (fun _ h9 => h9) (fun v9 t9 H locs hv9 hp9 hz9 hk9 hS => ?_)
    obtain ⟨rfl, hw⟩ := hp9
    have hw := XW.moved hv9.symm hw
    refine W.eq (g2 := F0 m 59 ls []) rfl ?_
    exact z_vret hx hb hr hlk hS (zR_st zSt_XW) ⟨rfl, by
        unfold genL
        rw [hls.1, if_neg (by omega), ← sci_same' hV0 (by omega) hls.1]
        exact hw⟩ d_EN_short_59
  · refine lv_iload_n hx hb d_EN_short_32 rfl (lv_at hl 0 rfl) ?_
    refine lv_iload_n hx hb d_EN_short_33 rfl (lv_at hl 2 rfl) ?_
    refine z_icmp_ge (tgt := 51) hx hb d_EN_short_34 rfl ⟨by omega, by omega⟩ ⟨by omega, by omega⟩ (fun hc34 => ?_) (fun hc34 => ?_)
    · refine lv_aload_n hx hb d_EN_short_51 rfl (lv_at hl 1 rfl) ?_
      refine lv_iload_n hx hb d_EN_short_52 rfl (lv_at hl 2 rfl) ?_
      refine lv_iconst (v := iz 1) hx hb d_EN_short_53 rfl ?_
      refine z_isub hx hb d_EN_short_54 ?_
      refine z_ri (b := ((dn - 1 : Nat) : Int)) (by omega) ?_
      refine lv_iconst (v := iz 0) hx hb d_EN_short_55 rfl ?_
      have hct := c_EN_sci l D cI cB x d la t ba tt ad (rup V (lead V + 1 - (dn : Int))) tx (lead (rup V (lead V + 1 - (dn : Int)))) (dn - 1) 0 (lead_is (rup_nn hV0)) ⟨by omega, by omega⟩ (by omega) (by omega) (by omega)
      have hw9 := hw
      obtain ⟨lt, f, fi, g, n, ⟨hK, hP, hD⟩, hdec, htx, -⟩ := hw9
      have hdr := hdec.1
      have htn := htx.1
      have htl := htx.2.1
      have hP : va_P D vwCl [(x, .inr (0, [.ref d, .ref t])), (d, .inr (1, [.ref la, .int (iz fi), .int (iz lt)])), (la, .inl (cI, 155, .inl (az f))), (t, .inr (2, [.ref ba, .int (iz n)])), (ba, .inl (cB, 1612, .inl (az g)))] H := hP
      have hD : va_D (AX x d la t ba) [(x, .inr (0, [.ref d, .ref t])), (d, .inr (1, [.ref la, .int (iz fi), .int (iz lt)])), (la, .inl (cI, 155, .inl (az f))), (t, .inr (2, [.ref ba, .int (iz n)])), (ba, .inl (cB, 1612, .inl (az g)))] := hD
      refine z_go (va_runV (As := [.int (iz ((dn - 1 : Nat) : Int)), .int (iz 0)]) (rest := []) ⟨hx, hb, hml, hown, hts⟩ hct.2 (z_cwV hts w_EN_writeScientific tw_302 (by decide)) (z_preV hct.1 (va_recv hK hP (ci := 0) (q0 := 0) rfl rfl) hw) rfl rfl hl.1 rfl (lv_room (Nat.le_of_ble_eq_true rfl)) d_EN_short_56 ⟨Nat.zero_le _, Nat.zero_le _⟩) hS (fun _ h9 => h9) (fun v9 t9 H locs hv9 hp9 hz9 hk9 hS => ?_)
      obtain ⟨rfl, hw⟩ := hp9
      have hw := XW.moved hv9.symm hw
      refine W.eq (g2 := F0 m 59 ls []) rfl ?_
      exact z_vret hx hb hr hlk hS (zR_st zSt_XW) ⟨rfl, by
          unfold genL
          rw [hls.1, if_neg (by omega), ← sci_same' hV0 (by omega) hls.1]
          exact hw⟩ d_EN_short_59
    · refine lv_aload_n hx hb d_EN_short_37 rfl (lv_at hl 1 rfl) ?_
      refine lv_iload_n hx hb d_EN_short_38 rfl (lv_at hl 2 rfl) ?_
      refine lv_iconst (v := iz 1) hx hb d_EN_short_39 rfl ?_
      refine z_isub hx hb d_EN_short_40 ?_
      refine lv_iload_n hx hb d_EN_short_41 rfl (lv_at hl 0 rfl) ?_
      refine z_isub hx hb d_EN_short_42 ?_
      refine z_ri (b := (((dn : Int) - 1 - lead (rup V (lead V + 1 - (dn : Int)))).toNat : Int)) (by omega) ?_
      refine lv_iload_n hx hb d_EN_short_43 rfl (lv_at hl 3 rfl) ?_
      refine lv_iconst (v := iz 0) hx hb d_EN_short_44 rfl ?_
      have hct := c_EN_fix l D cI cB x d la t ba tt ad (rup V (lead V + 1 - (dn : Int))) tx (lead (rup V (lead V + 1 - (dn : Int)))) ((dn : Int) - 1 - lead (rup V (lead V + 1 - (dn : Int)))).toNat gr 0 (lead_is (rup_nn hV0)) ⟨by omega, by omega⟩ (by omega) hgr (by omega) (by have h8 := ipR_len (rup V (lead V + 1 - (dn : Int))) gr (k := max (lead (rup V (lead V + 1 - (dn : Int)))) 0) (by omega); omega)
      have hw9 := hw
      obtain ⟨lt, f, fi, g, n, ⟨hK, hP, hD⟩, hdec, htx, -⟩ := hw9
      have hdr := hdec.1
      have htn := htx.1
      have htl := htx.2.1
      have hP : va_P D vwCl [(x, .inr (0, [.ref d, .ref t])), (d, .inr (1, [.ref la, .int (iz fi), .int (iz lt)])), (la, .inl (cI, 155, .inl (az f))), (t, .inr (2, [.ref ba, .int (iz n)])), (ba, .inl (cB, 1612, .inl (az g)))] H := hP
      have hD : va_D (AX x d la t ba) [(x, .inr (0, [.ref d, .ref t])), (d, .inr (1, [.ref la, .int (iz fi), .int (iz lt)])), (la, .inl (cI, 155, .inl (az f))), (t, .inr (2, [.ref ba, .int (iz n)])), (ba, .inl (cB, 1612, .inl (az g)))] := hD
      refine z_go (va_runV (As := [.int (iz (((dn : Int) - 1 - lead (rup V (lead V + 1 - (dn : Int)))).toNat : Int)), .int (iz gr), .int (iz 0)]) (rest := []) ⟨hx, hb, hml, hown, hts⟩ hct.2 (z_cwV hts w_EN_writeFixed tw_323 (by decide)) (z_preV hct.1 (va_recv hK hP (ci := 0) (q0 := 0) rfl rfl) hw) rfl rfl hl.1 rfl (lv_room (Nat.le_of_ble_eq_true rfl)) d_EN_short_45 ⟨Nat.zero_le _, Nat.zero_le _⟩) hS (fun _ h9 => h9) (fun v9 t9 H locs hv9 hp9 hz9 hk9 hS => ?_)
      obtain ⟨rfl, hw⟩ := hp9
      have hw := XW.moved hv9.symm hw
      refine W.eq (g2 := F0 m 48 ls []) rfl ?_
      refine lv_goto (tgt := 59) hx hb d_EN_short_48 rfl ?_
      exact z_vret hx hb hr hlk hS (zR_st zSt_XW) ⟨rfl, by
          unfold genL
          rw [hls.1, if_pos ⟨by omega, by omega⟩, ← fix_same' hV0 (by omega) hls.1]
          exact hw⟩ d_EN_short_59
