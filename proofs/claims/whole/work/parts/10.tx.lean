theorem d_Tx_length_0 : decode b_Tx_length 0 = .ok (.aload_n 0, 1) := by decide +kernel
theorem d_Tx_length_1 : decode b_Tx_length 1 = .ok (.getfield 15, 3) := by decide +kernel
theorem d_Tx_length_4 : decode b_Tx_length 4 = .ok (.ireturn, 1) := by decide +kernel
set_option maxHeartbeats 4000000 in
set_option maxRecDepth 100000 in
theorem c_Tx_length (l : Launch) (D : va_G) (cI cB : ClassId) (x d la t ba tt : Nat) (ad : Nat → Nat) (V : Int) (tx : List Int)  : Ct l y_Tx_length (ws_Tx_length) 0 (AX x d la t ba) [.ref t] (XW D cI cB x d la t ba tt ad V tx) (zR (some (.int (iz (tx.length : Int)))) (XW D cI cB x d la t ba tt ad V tx)) := by
  refine z_body zSt_XW (by decide +kernel) rfl (Nat.le_of_ble_eq_true rfl) ?_
  intro p e s m args below meth c ls hx hb hml hr hlk hts0 hown hpre0 H locs hpre hS hl
  have hts : ∀ w ∈ TBL, w.before args s = true := fun w hw => hts0 w (List.mem_cons_of_mem _ hw)
  have hl : lv_has ls 1 [(0, .ref t)] := hl
  have hw := hpre
  have hst0 := hpre0.st
  refine lv_aload_n hx hb d_Tx_length_0 rfl (lv_at hl 0 rfl) ?_
  have hw9 := hw
  obtain ⟨lt, f, fi, g, n, ⟨hK, hP, hD⟩, hdec, htx, -⟩ := hw9
  have hdr := hdec.1
  have htn := htx.1
  have htl := htx.2.1
  have hP : va_P D vwCl [(x, .inr (0, [.ref d, .ref t])), (d, .inr (1, [.ref la, .int (iz fi), .int (iz lt)])), (la, .inl (cI, 155, .inl (az f))), (t, .inr (2, [.ref ba, .int (iz n)])), (ba, .inl (cB, 1612, .inl (az g)))] H := hP
  have hD : va_D (AX x d la t ba) [(x, .inr (0, [.ref d, .ref t])), (d, .inr (1, [.ref la, .int (iz fi), .int (iz lt)])), (la, .inl (cI, 155, .inl (az f))), (t, .inr (2, [.ref ba, .int (iz n)])), (ba, .inl (cB, 1612, .inl (az g)))] := hD
  refine va_get (D := D) (ci := 2) (v := .int (iz n)) (C := R_2) (T := T_2) (N := 2) hx hb hts in_2 hown hK hP 3 rfl rfl 1 (by decide) (hts _ tw_51) (fun _ h9 => h9) rfl d_Tx_length_1 ?_
  exact z_iret hx hb hr hlk hS (zR_st zSt_XW) ⟨by rw [htn], hw⟩ d_Tx_length_4
theorem d_Tx_clear_0 : decode b_Tx_clear 0 = .ok (.aload_n 0, 1) := by decide +kernel
theorem d_Tx_clear_1 : decode b_Tx_clear 1 = .ok (.iconst 0, 1) := by decide +kernel
theorem d_Tx_clear_2 : decode b_Tx_clear 2 = .ok (.putfield 15, 3) := by decide +kernel
theorem d_Tx_clear_5 : decode b_Tx_clear 5 = .ok (.return_, 1) := by decide +kernel
set_option maxHeartbeats 4000000 in
set_option maxRecDepth 100000 in
theorem c_Tx_clear (l : Launch) (D : va_G) (cI cB : ClassId) (x d la t ba tt : Nat) (ad : Nat → Nat) (V : Int) (tx : List Int)  : Ct l y_Tx_clear (ws_Tx_clear) 0 (AX x d la t ba) [.ref t] (XW D cI cB x d la t ba tt ad V tx) (zR none (XW D cI cB x d la t ba tt ad V ([]))) := by
  refine z_body zSt_XW (by decide +kernel) rfl (Nat.le_of_ble_eq_true rfl) ?_
  intro p e s m args below meth c ls hx hb hml hr hlk hts0 hown hpre0 H locs hpre hS hl
  have hts : ∀ w ∈ TBL, w.before args s = true := fun w hw => hts0 w (List.mem_cons_of_mem _ hw)
  have hl : lv_has ls 1 [(0, .ref t)] := hl
  have hw := hpre
  have hst0 := hpre0.st
  refine lv_aload_n hx hb d_Tx_clear_0 rfl (lv_at hl 0 rfl) ?_
  refine lv_iconst (v := iz 0) hx hb d_Tx_clear_1 rfl ?_
  have hw9 := hw
  obtain ⟨lt, f, fi, g, n, ⟨hK, hP, hD⟩, hdec, htx, -⟩ := hw9
  have hdr := hdec.1
  have htn := htx.1
  have htl := htx.2.1
  have hP : va_P D vwCl [(x, .inr (0, [.ref d, .ref t])), (d, .inr (1, [.ref la, .int (iz fi), .int (iz lt)])), (la, .inl (cI, 155, .inl (az f))), (t, .inr (2, [.ref ba, .int (iz n)])), (ba, .inl (cB, 1612, .inl (az g)))] H := hP
  have hD : va_D (AX x d la t ba) [(x, .inr (0, [.ref d, .ref t])), (d, .inr (1, [.ref la, .int (iz fi), .int (iz lt)])), (la, .inl (cI, 155, .inl (az f))), (t, .inr (2, [.ref ba, .int (iz n)])), (ba, .inl (cB, 1612, .inl (az g)))] := hD
  refine va_put (D := D) (ci := 2) (v := .int (iz 0)) (ty := .int) (C := R_2) (T := T_2) (N := 2) hx hb hts in_2 ty_2 tyok_2 nm_2 hown hK hP hD hS 3 rfl rfl 1 (by decide) (hts _ tw_51) (fun _ h9 => h9) rfl (by decide +kernel) rfl rfl (Nat.le_of_ble_eq_true rfl) d_Tx_clear_2 (fun H locs hP hD hS => ?_)
  have hP : va_P D vwCl [(x, .inr (0, [.ref d, .ref t])), (d, .inr (1, [.ref la, .int (iz fi), .int (iz lt)])), (la, .inl (cI, 155, .inl (az f))), (t, .inr (2, [.ref ba, .int (iz 0)])), (ba, .inl (cB, 1612, .inl (az g)))] H := hP
  have hD : va_D (AX x d la t ba) [(x, .inr (0, [.ref d, .ref t])), (d, .inr (1, [.ref la, .int (iz fi), .int (iz lt)])), (la, .inl (cI, 155, .inl (az f))), (t, .inr (2, [.ref ba, .int (iz 0)])), (ba, .inl (cB, 1612, .inl (az g)))] := hD
  exact z_vret hx hb hr hlk hS (zR_st zSt_XW) ⟨rfl, _, _, _, _, _, ⟨hK, hP, hD⟩, hdec, TxOK_nil, hst0.kept hS.2.1⟩ d_Tx_clear_5
theorem d_Tx_add_0 : decode b_Tx_add 0 = .ok (.aload_n 0, 1) := by decide +kernel
theorem d_Tx_add_1 : decode b_Tx_add 1 = .ok (.getfield 15, 3) := by decide +kernel
theorem d_Tx_add_4 : decode b_Tx_add 4 = .ok (.aload_n 0, 1) := by decide +kernel
theorem d_Tx_add_5 : decode b_Tx_add 5 = .ok (.getfield 11, 3) := by decide +kernel
theorem d_Tx_add_8 : decode b_Tx_add 8 = .ok (.arraylength, 1) := by decide +kernel
theorem d_Tx_add_9 : decode b_Tx_add 9 = .ok (.if_icmp .ge (24), 3) := by decide +kernel
theorem d_Tx_add_12 : decode b_Tx_add 12 = .ok (.aload_n 0, 1) := by decide +kernel
theorem d_Tx_add_13 : decode b_Tx_add 13 = .ok (.getfield 11, 3) := by decide +kernel
theorem d_Tx_add_16 : decode b_Tx_add 16 = .ok (.aload_n 0, 1) := by decide +kernel
theorem d_Tx_add_17 : decode b_Tx_add 17 = .ok (.getfield 15, 3) := by decide +kernel
theorem d_Tx_add_20 : decode b_Tx_add 20 = .ok (.iload_n 1, 1) := by decide +kernel
theorem d_Tx_add_21 : decode b_Tx_add 21 = .ok (.i2b, 1) := by decide +kernel
theorem d_Tx_add_22 : decode b_Tx_add 22 = .ok (.bastore, 1) := by decide +kernel
theorem d_Tx_add_23 : decode b_Tx_add 23 = .ok (.aload_n 0, 1) := by decide +kernel
theorem d_Tx_add_24 : decode b_Tx_add 24 = .ok (.dup, 1) := by decide +kernel
theorem d_Tx_add_25 : decode b_Tx_add 25 = .ok (.getfield 15, 3) := by decide +kernel
theorem d_Tx_add_28 : decode b_Tx_add 28 = .ok (.iconst 1, 1) := by decide +kernel
theorem d_Tx_add_29 : decode b_Tx_add 29 = .ok (.iadd, 1) := by decide +kernel
theorem d_Tx_add_30 : decode b_Tx_add 30 = .ok (.putfield 15, 3) := by decide +kernel
theorem d_Tx_add_33 : decode b_Tx_add 33 = .ok (.return_, 1) := by decide +kernel
set_option maxHeartbeats 4000000 in
set_option maxRecDepth 100000 in
theorem c_Tx_add (l : Launch) (D : va_G) (cI cB : ClassId) (x d la t ba tt : Nat) (ad : Nat → Nat) (V : Int) (tx : List Int) (ch : Int) (hch : 0 ≤ ch ∧ ch < 128) (hlen : tx.length < 1612) : Ct l y_Tx_add (ws_Tx_add) 0 (AX x d la t ba) [.ref t, .int (iz ch)] (XW D cI cB x d la t ba tt ad V tx) (zR none (XW D cI cB x d la t ba tt ad V (tx ++ [ch]))) := by
  refine z_body zSt_XW (by decide +kernel) rfl (Nat.le_of_ble_eq_true rfl) ?_
  intro p e s m args below meth c ls hx hb hml hr hlk hts0 hown hpre0 H locs hpre hS hl
  have hts : ∀ w ∈ TBL, w.before args s = true := fun w hw => hts0 w (List.mem_cons_of_mem _ hw)
  have hl : lv_has ls 2 [(0, .ref t), (1, .int (iz ch))] := hl
  have hw := hpre
  have hst0 := hpre0.st
  refine lv_aload_n hx hb d_Tx_add_0 rfl (lv_at hl 0 rfl) ?_
  have hw9 := hw
  obtain ⟨lt, f, fi, g, n, ⟨hK, hP, hD⟩, hdec, htx, -⟩ := hw9
  have hdr := hdec.1
  have htn := htx.1
  have htl := htx.2.1
  have hP : va_P D vwCl [(x, .inr (0, [.ref d, .ref t])), (d, .inr (1, [.ref la, .int (iz fi), .int (iz lt)])), (la, .inl (cI, 155, .inl (az f))), (t, .inr (2, [.ref ba, .int (iz n)])), (ba, .inl (cB, 1612, .inl (az g)))] H := hP
  have hD : va_D (AX x d la t ba) [(x, .inr (0, [.ref d, .ref t])), (d, .inr (1, [.ref la, .int (iz fi), .int (iz lt)])), (la, .inl (cI, 155, .inl (az f))), (t, .inr (2, [.ref ba, .int (iz n)])), (ba, .inl (cB, 1612, .inl (az g)))] := hD
  refine va_get (D := D) (ci := 2) (v := .int (iz n)) (C := R_2) (T := T_2) (N := 2) hx hb hts in_2 hown hK hP 3 rfl rfl 1 (by decide) (hts _ tw_51) (fun _ h9 => h9) rfl d_Tx_add_1 ?_
  refine lv_aload_n hx hb d_Tx_add_4 rfl (lv_at hl 0 rfl) ?_
  refine va_get (D := D) (ci := 2) (v := .ref ba) (C := R_2) (T := T_2) (N := 2) hx hb hts in_2 hown hK hP 3 rfl rfl 0 (by decide) (hts _ tw_50) (fun _ h9 => h9) rfl d_Tx_add_5 ?_
  refine z_alen hx hb hK hP 4 1 1612 rfl rfl rfl d_Tx_add_8 ?_
  refine z_icmp_ge (tgt := 33) hx hb d_Tx_add_9 rfl ⟨by omega, by omega⟩ ⟨by omega, by omega⟩ (fun hc9 => ?_) (fun hc9 => ?_)
  · exfalso
    omega
  · refine lv_aload_n hx hb d_Tx_add_12 rfl (lv_at hl 0 rfl) ?_
    refine va_get (D := D) (ci := 2) (v := .ref ba) (C := R_2) (T := T_2) (N := 2) hx hb hts in_2 hown hK hP 3 rfl rfl 0 (by decide) (hts _ tw_50) (fun _ h9 => h9) rfl d_Tx_add_13 ?_
    refine lv_aload_n hx hb d_Tx_add_16 rfl (lv_at hl 0 rfl) ?_
    refine va_get (D := D) (ci := 2) (v := .int (iz n)) (C := R_2) (T := T_2) (N := 2) hx hb hts in_2 hown hK hP 3 rfl rfl 1 (by decide) (hts _ tw_51) (fun _ h9 => h9) rfl d_Tx_add_17 ?_
    refine lv_iload_n hx hb d_Tx_add_20 rfl (lv_at hl 1 rfl) ?_
    refine z_i2b hx hb d_Tx_add_21 ⟨by omega, by omega⟩ ?_
    refine z_bast hx hb hK hP hD hS 4 1 rfl rfl (by omega) (by omega) (by decide) ⟨by omega, by omega⟩ d_Tx_add_22 (fun H locs hP hD hS => ?_)
    have hP : va_P D vwCl [(x, .inr (0, [.ref d, .ref t])), (d, .inr (1, [.ref la, .int (iz fi), .int (iz lt)])), (la, .inl (cI, 155, .inl (az f))), (t, .inr (2, [.ref ba, .int (iz n)])), (ba, .inl (cB, 1612, .inl (az (up g n ch))))] H := hP
    have hD : va_D (AX x d la t ba) [(x, .inr (0, [.ref d, .ref t])), (d, .inr (1, [.ref la, .int (iz fi), .int (iz lt)])), (la, .inl (cI, 155, .inl (az f))), (t, .inr (2, [.ref ba, .int (iz n)])), (ba, .inl (cB, 1612, .inl (az (up g n ch))))] := hD
    refine lv_aload_n hx hb d_Tx_add_23 rfl (lv_at hl 0 rfl) ?_
    refine lv_dup hx hb d_Tx_add_24 rfl ?_
    refine va_get (D := D) (ci := 2) (v := .int (iz n)) (C := R_2) (T := T_2) (N := 2) hx hb hts in_2 hown hK hP 3 rfl rfl 1 (by decide) (hts _ tw_51) (fun _ h9 => h9) rfl d_Tx_add_25 ?_
    refine lv_iconst (v := iz 1) hx hb d_Tx_add_28 rfl ?_
    refine z_iadd hx hb d_Tx_add_29 ?_
    refine va_put (D := D) (ci := 2) (v := .int (iz (n + 1))) (ty := .int) (C := R_2) (T := T_2) (N := 2) hx hb hts in_2 ty_2 tyok_2 nm_2 hown hK hP hD hS 3 rfl rfl 1 (by decide) (hts _ tw_51) (fun _ h9 => h9) rfl (by decide +kernel) rfl rfl (Nat.le_of_ble_eq_true rfl) d_Tx_add_30 (fun H locs hP hD hS => ?_)
    have hP : va_P D vwCl [(x, .inr (0, [.ref d, .ref t])), (d, .inr (1, [.ref la, .int (iz fi), .int (iz lt)])), (la, .inl (cI, 155, .inl (az f))), (t, .inr (2, [.ref ba, .int (iz (n + 1))])), (ba, .inl (cB, 1612, .inl (az (up g n ch))))] H := hP
    have hD : va_D (AX x d la t ba) [(x, .inr (0, [.ref d, .ref t])), (d, .inr (1, [.ref la, .int (iz fi), .int (iz lt)])), (la, .inl (cI, 155, .inl (az f))), (t, .inr (2, [.ref ba, .int (iz (n + 1))])), (ba, .inl (cB, 1612, .inl (az (up g n ch))))] := hD
    exact z_vret hx hb hr hlk hS (zR_st zSt_XW) ⟨rfl, _, _, _, _, _, ⟨hK, hP, hD⟩, hdec, (TxOK_add htx hlen hch), hst0.kept hS.2.1⟩ d_Tx_add_33
theorem d_Tx_eight_0 : decode b_Tx_eightFrom 0 = .ok (.lconst 0, 1) := by decide +kernel
theorem d_Tx_eight_1 : decode b_Tx_eightFrom 1 = .ok (.lstore_n 2, 1) := by decide +kernel
theorem d_Tx_eight_2 : decode b_Tx_eightFrom 2 = .ok (.iload_n 1, 1) := by decide +kernel
theorem d_Tx_eight_3 : decode b_Tx_eightFrom 3 = .ok (.istore 4, 2) := by decide +kernel
theorem d_Tx_eight_5 : decode b_Tx_eightFrom 5 = .ok (.iload 4, 2) := by decide +kernel
theorem d_Tx_eight_7 : decode b_Tx_eightFrom 7 = .ok (.iload_n 1, 1) := by decide +kernel
theorem d_Tx_eight_8 : decode b_Tx_eightFrom 8 = .ok (.bipush (8), 2) := by decide +kernel
theorem d_Tx_eight_10 : decode b_Tx_eightFrom 10 = .ok (.iadd, 1) := by decide +kernel
theorem d_Tx_eight_11 : decode b_Tx_eightFrom 11 = .ok (.if_icmp .ge (45), 3) := by decide +kernel
theorem d_Tx_eight_14 : decode b_Tx_eightFrom 14 = .ok (.iload 4, 2) := by decide +kernel
theorem d_Tx_eight_16 : decode b_Tx_eightFrom 16 = .ok (.ifCond .lt (22), 3) := by decide +kernel
theorem d_Tx_eight_19 : decode b_Tx_eightFrom 19 = .ok (.iload 4, 2) := by decide +kernel
theorem d_Tx_eight_21 : decode b_Tx_eightFrom 21 = .ok (.aload_n 0, 1) := by decide +kernel
theorem d_Tx_eight_22 : decode b_Tx_eightFrom 22 = .ok (.getfield 15, 3) := by decide +kernel
theorem d_Tx_eight_25 : decode b_Tx_eightFrom 25 = .ok (.if_icmp .ge (13), 3) := by decide +kernel
theorem d_Tx_eight_28 : decode b_Tx_eightFrom 28 = .ok (.aload_n 0, 1) := by decide +kernel
theorem d_Tx_eight_29 : decode b_Tx_eightFrom 29 = .ok (.getfield 11, 3) := by decide +kernel
theorem d_Tx_eight_32 : decode b_Tx_eightFrom 32 = .ok (.iload 4, 2) := by decide +kernel
theorem d_Tx_eight_34 : decode b_Tx_eightFrom 34 = .ok (.baload, 1) := by decide +kernel
theorem d_Tx_eight_35 : decode b_Tx_eightFrom 35 = .ok (.goto (4), 3) := by decide +kernel
theorem d_Tx_eight_38 : decode b_Tx_eightFrom 38 = .ok (.iconst 0, 1) := by decide +kernel
theorem d_Tx_eight_39 : decode b_Tx_eightFrom 39 = .ok (.istore 5, 2) := by decide +kernel
theorem d_Tx_eight_41 : decode b_Tx_eightFrom 41 = .ok (.lload_n 2, 1) := by decide +kernel
theorem d_Tx_eight_42 : decode b_Tx_eightFrom 42 = .ok (.bipush (8), 2) := by decide +kernel
theorem d_Tx_eight_44 : decode b_Tx_eightFrom 44 = .ok (.lshl, 1) := by decide +kernel
theorem d_Tx_eight_45 : decode b_Tx_eightFrom 45 = .ok (.iload 5, 2) := by decide +kernel
theorem d_Tx_eight_47 : decode b_Tx_eightFrom 47 = .ok (.i2l, 1) := by decide +kernel
theorem d_Tx_eight_48 : decode b_Tx_eightFrom 48 = .ok (.lor, 1) := by decide +kernel
theorem d_Tx_eight_49 : decode b_Tx_eightFrom 49 = .ok (.lstore_n 2, 1) := by decide +kernel
theorem d_Tx_eight_50 : decode b_Tx_eightFrom 50 = .ok (.iinc 4 (1), 3) := by decide +kernel
theorem d_Tx_eight_53 : decode b_Tx_eightFrom 53 = .ok (.goto (-48), 3) := by decide +kernel
theorem d_Tx_eight_56 : decode b_Tx_eightFrom 56 = .ok (.lload_n 2, 1) := by decide +kernel
theorem d_Tx_eight_57 : decode b_Tx_eightFrom 57 = .ok (.lreturn, 1) := by decide +kernel
set_option maxHeartbeats 4000000 in
set_option maxRecDepth 100000 in
theorem c_Tx_eight (l : Launch) (D : va_G) (cI cB : ClassId) (x d la t ba tt : Nat) (ad : Nat → Nat) (V : Int) (tx : List Int) (st : Nat) (hst : st < tx.length) : Ct l y_Tx_eightFrom (ws_Tx_eightFrom) 0 (AX x d la t ba) [.ref t, .int (iz (st : Int))] (XW D cI cB x d la t ba tt ad V tx) (zR (some (.long (lz (w8 tx st 8)))) (XW D cI cB x d la t ba tt ad V tx)) := by
  refine z_body zSt_XW (by decide +kernel) rfl (Nat.le_of_ble_eq_true rfl) ?_
  intro p e s m args below meth c ls hx hb hml hr hlk hts0 hown hpre0 H locs hpre hS hl
  have hts : ∀ w ∈ TBL, w.before args s = true := fun w hw => hts0 w (List.mem_cons_of_mem _ hw)
  have hl : lv_has ls 6 [(0, .ref t), (1, .int (iz (st : Int)))] := hl
  have hw := hpre
  have hst0 := hpre0.st
  have hpre1 := hpre0
  obtain ⟨_, _, _, _, _, _, _, htx0, _⟩ := hpre1
  have htl0 := htx0.2.1
  have htc0 := htx0.2.2.2
  have L5 : ∀ (N5 : Nat) (j : Nat) (i : Int) (H : Heap) (locs : List Loc) (ls : Array Slot), XW D cI cB x d la t ba tt ad V tx s H → va_S (AX x d la t ba) s.heap H locs → lv_has ls 6 [(0, .ref t), (1, .int (iz (st : Int))), (2, .long (lz (w8 tx st j))), (4, .int (iz i))] → (j ≤ 8 ∧ i = (st : Int) + (j : Int)) → 8 - j < N5 → W p l e (zrm 0) s m args below meth c H locs 0 0 (MQ below (zQ (AX x d la t ba) (zR (some (.long (lz (w8 tx st 8)))) (XW D cI cB x d la t ba tt ad V tx))) args s 0 0 (AX x d la t ba)) (F0 m 5 ls []) := by
    intro N5
    induction N5 with
    | zero => intro j i H locs ls hw hS hl hj hN5; exact absurd hN5 (Nat.not_lt_zero _)
    | succ N5 ih5 =>
      intro j i H locs ls hw hS hl hj hN5
      refine lv_iload hx hb d_Tx_eight_5 (lv_at hl 3 rfl) ?_
      refine lv_iload_n hx hb d_Tx_eight_7 rfl (lv_at hl 1 rfl) ?_
      refine lv_bipush (v := iz 8) hx hb d_Tx_eight_8 (by decide) ?_
      refine z_iadd hx hb d_Tx_eight_10 ?_
      refine z_icmp_ge (tgt := 56) hx hb d_Tx_eight_11 rfl ⟨by omega, by omega⟩ ⟨by omega, by omega⟩ (fun hc11 => ?_) (fun hc11 => ?_)
      · refine lv_lload_n hx hb d_Tx_eight_56 rfl (lv_at hl 2 rfl) ?_
        exact z_lret hx hb hr hlk hS (zR_st zSt_XW) (by
            have e8 : j = 8 := by omega
            subst e8
            exact ⟨rfl, hw⟩) d_Tx_eight_57
      · refine lv_iload hx hb d_Tx_eight_14 (lv_at hl 3 rfl) ?_
        refine z_if_lt (tgt := 38) hx hb d_Tx_eight_16 rfl ⟨by omega, by omega⟩ (fun hc16 => ?_) (fun hc16 => ?_)
        · exfalso
          omega
        · refine lv_iload hx hb d_Tx_eight_19 (lv_at hl 3 rfl) ?_
          refine lv_aload_n hx hb d_Tx_eight_21 rfl (lv_at hl 0 rfl) ?_
          have hw9 := hw
          obtain ⟨lt, f, fi, g, n, ⟨hK, hP, hD⟩, hdec, htx, -⟩ := hw9
          have hdr := hdec.1
          have htn := htx.1
          have htl := htx.2.1
          have hP : va_P D vwCl [(x, .inr (0, [.ref d, .ref t])), (d, .inr (1, [.ref la, .int (iz fi), .int (iz lt)])), (la, .inl (cI, 155, .inl (az f))), (t, .inr (2, [.ref ba, .int (iz n)])), (ba, .inl (cB, 1612, .inl (az g)))] H := hP
          have hD : va_D (AX x d la t ba) [(x, .inr (0, [.ref d, .ref t])), (d, .inr (1, [.ref la, .int (iz fi), .int (iz lt)])), (la, .inl (cI, 155, .inl (az f))), (t, .inr (2, [.ref ba, .int (iz n)])), (ba, .inl (cB, 1612, .inl (az g)))] := hD
          refine va_get (D := D) (ci := 2) (v := .int (iz n)) (C := R_2) (T := T_2) (N := 2) hx hb hts in_2 hown hK hP 3 rfl rfl 1 (by decide) (hts _ tw_51) (fun _ h9 => h9) rfl d_Tx_eight_22 ?_
          refine z_icmp_ge (tgt := 38) hx hb d_Tx_eight_25 rfl ⟨by omega, by omega⟩ ⟨by omega, by omega⟩ (fun hc25 => ?_) (fun hc25 => ?_)
          · have hgj : tx.getD (st + j) 0 = 0 := by
              simp only [List.getD]
              rw [List.getElem?_eq_none (by omega)]
              rfl
            refine lv_iconst (v := iz 0) hx hb d_Tx_eight_38 rfl ?_
            refine z_ri (b := tx.getD (st + j) 0) hgj.symm ?_
            have hgr := tx_getD htc0 (st + j)
            have hw8 := w8_le htc0 st (j := j) (by omega)
            refine lv_istore hx hb d_Tx_eight_39 hl (by decide) rfl (fun ls hl => ?_)
            have hl : lv_has ls 6 [(5, .int (iz (tx.getD (st + j) 0))), (0, .ref t), (1, .int (iz (st : Int))), (2, .long (lz (w8 tx st j))), (4, .int (iz i))] := hl
            refine lv_lload_n hx hb d_Tx_eight_41 rfl (lv_at hl 3 rfl) ?_
            refine lv_bipush (v := iz 8) hx hb d_Tx_eight_42 (by decide) ?_
            refine z_lshl hx hb 8 d_Tx_eight_44 rfl (by decide) ⟨by omega, by omega⟩ ⟨by omega, by omega⟩ ?_
            refine lv_iload hx hb d_Tx_eight_45 (lv_at hl 0 rfl) ?_
            refine z_i2l hx hb d_Tx_eight_47 ⟨by omega, by omega⟩ ?_
            refine z_lorp (a := w8 tx st j) hx hb 8 d_Tx_eight_48 (by omega) (by omega) (by omega) (by omega) ?_
            refine z_rl (b := w8 tx st (j + 1)) rfl ?_
            refine lv_lstore_n hx hb d_Tx_eight_49 rfl hl (by decide) rfl (fun ls hl => ?_)
            have hl : lv_has ls 6 [(2, .long (lz (w8 tx st (j + 1)))), (5, .int (iz (tx.getD (st + j) 0))), (0, .ref t), (1, .int (iz (st : Int))), (4, .int (iz i))] := hl
            refine lv_iinc (k := 4) (v := (iz (i + 1))) hx hb d_Tx_eight_50 hl rfl (by show iz _ + iz (1) = _; rw [← iz_add]; try rfl) (by decide) rfl (fun ls hl => ?_)
            have hl : lv_has ls 6 [(4, .int (iz (i + 1))), (2, .long (lz (w8 tx st (j + 1)))), (5, .int (iz (tx.getD (st + j) 0))), (0, .ref t), (1, .int (iz (st : Int)))] := hl
            refine lv_goto (tgt := 5) hx hb d_Tx_eight_53 rfl ?_
            exact ih5 (j + 1) (i + 1) _ _ _ hw hS (lv_sub hl [3, 4, 1, 0] rfl) ⟨by omega, by omega⟩ (by omega)
          · have hgj : g i = tx.getD (st + j) 0 := by
              have h8 := htx.2.2.1 (st + j) (by omega)
              rw [hj.2, ← Int.natCast_add]
              exact h8
            refine lv_aload_n hx hb d_Tx_eight_28 rfl (lv_at hl 0 rfl) ?_
            refine va_get (D := D) (ci := 2) (v := .ref ba) (C := R_2) (T := T_2) (N := 2) hx hb hts in_2 hown hK hP 3 rfl rfl 0 (by decide) (hts _ tw_50) (fun _ h9 => h9) rfl d_Tx_eight_29 ?_
            refine lv_iload hx hb d_Tx_eight_32 (lv_at hl 3 rfl) ?_
            refine z_bald hx hb hK hP 4 1 rfl rfl (by omega) (by omega) (by decide) d_Tx_eight_34 ?_
            refine z_ri (b := tx.getD (st + j) 0) hgj ?_
            refine lv_goto (tgt := 39) hx hb d_Tx_eight_35 rfl ?_
            have hgr := tx_getD htc0 (st + j)
            have hw8 := w8_le htc0 st (j := j) (by omega)
            refine lv_istore hx hb d_Tx_eight_39 hl (by decide) rfl (fun ls hl => ?_)
            have hl : lv_has ls 6 [(5, .int (iz (tx.getD (st + j) 0))), (0, .ref t), (1, .int (iz (st : Int))), (2, .long (lz (w8 tx st j))), (4, .int (iz i))] := hl
            refine lv_lload_n hx hb d_Tx_eight_41 rfl (lv_at hl 3 rfl) ?_
            refine lv_bipush (v := iz 8) hx hb d_Tx_eight_42 (by decide) ?_
            refine z_lshl hx hb 8 d_Tx_eight_44 rfl (by decide) ⟨by omega, by omega⟩ ⟨by omega, by omega⟩ ?_
            refine lv_iload hx hb d_Tx_eight_45 (lv_at hl 0 rfl) ?_
            refine z_i2l hx hb d_Tx_eight_47 ⟨by omega, by omega⟩ ?_
            refine z_lorp (a := w8 tx st j) hx hb 8 d_Tx_eight_48 (by omega) (by omega) (by omega) (by omega) ?_
            refine z_rl (b := w8 tx st (j + 1)) rfl ?_
            refine lv_lstore_n hx hb d_Tx_eight_49 rfl hl (by decide) rfl (fun ls hl => ?_)
            have hl : lv_has ls 6 [(2, .long (lz (w8 tx st (j + 1)))), (5, .int (iz (tx.getD (st + j) 0))), (0, .ref t), (1, .int (iz (st : Int))), (4, .int (iz i))] := hl
            refine lv_iinc (k := 4) (v := (iz (i + 1))) hx hb d_Tx_eight_50 hl rfl (by show iz _ + iz (1) = _; rw [← iz_add]; try rfl) (by decide) rfl (fun ls hl => ?_)
            have hl : lv_has ls 6 [(4, .int (iz (i + 1))), (2, .long (lz (w8 tx st (j + 1)))), (5, .int (iz (tx.getD (st + j) 0))), (0, .ref t), (1, .int (iz (st : Int)))] := hl
            refine lv_goto (tgt := 5) hx hb d_Tx_eight_53 rfl ?_
            exact ih5 (j + 1) (i + 1) _ _ _ hw hS (lv_sub hl [3, 4, 1, 0] rfl) ⟨by omega, by omega⟩ (by omega)
  refine lv_lconst (v := lz 0) hx hb d_Tx_eight_0 (by decide) ?_
  refine lv_lstore_n hx hb d_Tx_eight_1 rfl hl (by decide) rfl (fun ls hl => ?_)
  have hl : lv_has ls 6 [(2, .long (lz 0)), (0, .ref t), (1, .int (iz (st : Int)))] := hl
  refine lv_iload_n hx hb d_Tx_eight_2 rfl (lv_at hl 2 rfl) ?_
  refine lv_istore hx hb d_Tx_eight_3 hl (by decide) rfl (fun ls hl => ?_)
  have hl : lv_has ls 6 [(4, .int (iz (st : Int))), (2, .long (lz 0)), (0, .ref t), (1, .int (iz (st : Int)))] := hl
  exact L5 _ 0 (st : Int) _ _ _ hw hS (lv_sub hl [2, 3, 1, 0] rfl) ⟨by omega, by omega⟩ (Nat.lt_succ_self _)
