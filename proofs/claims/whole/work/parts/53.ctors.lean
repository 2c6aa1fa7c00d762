theorem d_Dc_init_0 : decode b_Dc_init 0 = .ok (.aload_n 0, 1) := by decide +kernel
theorem d_Dc_init_1 : decode b_Dc_init 1 = .ok (.invokespecial 3, 3) := by decide +kernel
theorem d_Dc_init_4 : decode b_Dc_init 4 = .ok (.aload_n 0, 1) := by decide +kernel
theorem d_Dc_init_5 : decode b_Dc_init 5 = .ok (.sipush (155), 3) := by decide +kernel
theorem d_Dc_init_8 : decode b_Dc_init 8 = .ok (.newarray .int, 2) := by decide +kernel
theorem d_Dc_init_10 : decode b_Dc_init 10 = .ok (.putfield 9, 3) := by decide +kernel
theorem d_Dc_init_13 : decode b_Dc_init 13 = .ok (.aload_n 0, 1) := by decide +kernel
theorem d_Dc_init_14 : decode b_Dc_init 14 = .ok (.bipush (34), 2) := by decide +kernel
theorem d_Dc_init_16 : decode b_Dc_init 16 = .ok (.putfield 13, 3) := by decide +kernel
theorem d_Dc_init_19 : decode b_Dc_init 19 = .ok (.aload_n 0, 1) := by decide +kernel
theorem d_Dc_init_20 : decode b_Dc_init 20 = .ok (.bipush (34), 2) := by decide +kernel
theorem d_Dc_init_22 : decode b_Dc_init 22 = .ok (.putfield 17, 3) := by decide +kernel
theorem d_Dc_init_25 : decode b_Dc_init 25 = .ok (.return_, 1) := by decide +kernel
set_option maxHeartbeats 4000000 in
set_option maxRecDepth 100000 in
theorem c_Dc_init (l : Launch) (D : va_G) (cI : ClassId) (d sz : Nat) : CtN l y_Dc_init (ws_Dc_init) 1 1 155 (fun q => q = d ∨ sz ≤ q) [.ref d] (K1pre D cI .int d sz 1 [.null, .int (iz 0), .int (iz 0)]) (zR none (K1post D cI d sz 1 (fun la => [.ref la, .int (iz 34), .int (iz 34)]) (155, .inl (az (fun _ => 0))))) := by
  refine n_body zSt_K1pre (by decide +kernel) rfl (Nat.le_of_ble_eq_true rfl) ?_
  intro p e s m args below meth c ls hx hb hml hr hlk hts0 hown hin hpre0 H locs hpre hS hl
  have hts : ∀ w ∈ TBL, w.before args s = true := fun w hw => hts0 w (List.mem_cons_of_mem _ hw)
  have hl : lv_has ls 1 [(0, .ref d)] := hl
  obtain ⟨hsz, hP, hK⟩ := hpre
  have hsz0 := hpre0.1
  have hA : ∀ q, s.heap.size ≤ q → (fun q => q = d ∨ sz ≤ q) q := fun q h => Or.inr (by omega)
  have hD : va_D (fun q => q = d ∨ sz ≤ q) [(d, .inr (1, [.null, .int (iz 0), .int (iz 0)]))] := va_D1 (Or.inl rfl)
  refine lv_aload_n hx hb d_Dc_init_0 rfl (lv_at hl 0 rfl) ?_
  refine W.objInit hx hb hown (hts _ tw_32) (hts _ tw_oi) (hts _ tw_oc) rfl (by rw [hml]; exact hl.1) rfl d_Dc_init_1 (Nat.le_of_ble_eq_true rfl) (Nat.le_of_ble_eq_true rfl) ?_
  refine W.eq (g2 := F0 m 4 ls []) rfl ?_
  refine lv_aload_n hx hb d_Dc_init_4 rfl (lv_at hl 0 rfl) ?_
  refine lv_sipush (v := iz 155) hx hb d_Dc_init_5 (by decide) ?_
  refine z_newa (atype := .int) (ty := .int) (n := 155) (a0 := (155, .inl (az (fun _ => 0)))) hx hb rfl (hts _ tw_43) hK hP hD hS hA 0 rfl ra_i (a0_i 155) (by decide) (by decide) (by decide) (by decide) (by decide) d_Dc_init_8 (fun q8 H hP hD hS => ?_)
  have hP : va_P D vwCl [(d, .inr (1, [.null, .int (iz 0), .int (iz 0)])), (q8, .inl (cI, 155, .inl (az (fun _ => 0))))] H := hP
  have hD : va_D (fun q => q = d ∨ sz ≤ q) [(d, .inr (1, [.null, .int (iz 0), .int (iz 0)])), (q8, .inl (cI, 155, .inl (az (fun _ => 0))))] := hD
  refine va_putF (D := D) (ci := 1) (v := .ref q8) (ty := (.array .int)) (C := R_1) (T := T_1) (N := 3) hx hb hts in_1 ty_1 tyok_1 nm_1 hown hK hP hD hS 0 rfl rfl 0 (by decide) (hts _ tw_33) (fun _ h9 => h9) rfl hin rfl (by decide +kernel) rfl rfl (Nat.le_of_ble_eq_true rfl) d_Dc_init_10 (fun H locs hP hD hS => ?_)
  have hP : va_P D vwCl [(d, .inr (1, [.ref q8, .int (iz 0), .int (iz 0)])), (q8, .inl (cI, 155, .inl (az (fun _ => 0))))] H := hP
  have hD : va_D (fun q => q = d ∨ sz ≤ q) [(d, .inr (1, [.ref q8, .int (iz 0), .int (iz 0)])), (q8, .inl (cI, 155, .inl (az (fun _ => 0))))] := hD
  refine lv_aload_n hx hb d_Dc_init_13 rfl (lv_at hl 0 rfl) ?_
  refine lv_bipush (v := iz 34) hx hb d_Dc_init_14 (by decide) ?_
  refine va_put (D := D) (ci := 1) (v := .int (iz 34)) (ty := .int) (C := R_1) (T := T_1) (N := 3) hx hb hts in_1 ty_1 tyok_1 nm_1 hown hK hP hD hS 0 rfl rfl 1 (by decide) (hts _ tw_34) (fun _ h9 => h9) rfl (by decide +kernel) rfl rfl (Nat.le_of_ble_eq_true rfl) d_Dc_init_16 (fun H locs hP hD hS => ?_)
  have hP : va_P D vwCl [(d, .inr (1, [.ref q8, .int (iz 34), .int (iz 0)])), (q8, .inl (cI, 155, .inl (az (fun _ => 0))))] H := hP
  have hD : va_D (fun q => q = d ∨ sz ≤ q) [(d, .inr (1, [.ref q8, .int (iz 34), .int (iz 0)])), (q8, .inl (cI, 155, .inl (az (fun _ => 0))))] := hD
  refine lv_aload_n hx hb d_Dc_init_19 rfl (lv_at hl 0 rfl) ?_
  refine lv_bipush (v := iz 34) hx hb d_Dc_init_20 (by decide) ?_
  refine va_put (D := D) (ci := 1) (v := .int (iz 34)) (ty := .int) (C := R_1) (T := T_1) (N := 3) hx hb hts in_1 ty_1 tyok_1 nm_1 hown hK hP hD hS 0 rfl rfl 2 (by decide) (hts _ tw_35) (fun _ h9 => h9) rfl (by decide +kernel) rfl rfl (Nat.le_of_ble_eq_true rfl) d_Dc_init_22 (fun H locs hP hD hS => ?_)
  have hP : va_P D vwCl [(d, .inr (1, [.ref q8, .int (iz 34), .int (iz 34)])), (q8, .inl (cI, 155, .inl (az (fun _ => 0))))] H := hP
  have hD : va_D (fun q => q = d ∨ sz ≤ q) [(d, .inr (1, [.ref q8, .int (iz 34), .int (iz 34)])), (q8, .inl (cI, 155, .inl (az (fun _ => 0))))] := hD
  have hla : sz ≤ q8 := (hD.2 1 _ rfl).resolve_left (fun e9 => absurd (hD.1 1 0 _ _ rfl rfl e9) (by decide))
  exact z_vret hx hb hr hlk hS (zR_st zSt_K1post) ⟨rfl, q8, hla, hP⟩ d_Dc_init_25
theorem d_Tx_init_0 : decode b_Tx_init 0 = .ok (.aload_n 0, 1) := by decide +kernel
theorem d_Tx_init_1 : decode b_Tx_init 1 = .ok (.invokespecial 3, 3) := by decide +kernel
theorem d_Tx_init_4 : decode b_Tx_init 4 = .ok (.aload_n 0, 1) := by decide +kernel
theorem d_Tx_init_5 : decode b_Tx_init 5 = .ok (.sipush (1612), 3) := by decide +kernel
theorem d_Tx_init_8 : decode b_Tx_init 8 = .ok (.newarray .byte, 2) := by decide +kernel
theorem d_Tx_init_10 : decode b_Tx_init 10 = .ok (.putfield 11, 3) := by decide +kernel
theorem d_Tx_init_13 : decode b_Tx_init 13 = .ok (.aload_n 0, 1) := by decide +kernel
theorem d_Tx_init_14 : decode b_Tx_init 14 = .ok (.iconst 0, 1) := by decide +kernel
theorem d_Tx_init_15 : decode b_Tx_init 15 = .ok (.putfield 15, 3) := by decide +kernel
theorem d_Tx_init_18 : decode b_Tx_init 18 = .ok (.return_, 1) := by decide +kernel
set_option maxHeartbeats 4000000 in
set_option maxRecDepth 100000 in
theorem c_Tx_init (l : Launch) (D : va_G) (cB : ClassId) (t sz : Nat) : CtN l y_Tx_init (ws_Tx_init) 1 1 1612 (fun q => q = t ∨ sz ≤ q) [.ref t] (K1pre D cB .byte t sz 2 [.null, .int (iz 0)]) (zR none (K1post D cB t sz 2 (fun la => [.ref la, .int (iz 0)]) (1612, .inl (az (fun _ => 0))))) := by
  refine n_body zSt_K1pre (by decide +kernel) rfl (Nat.le_of_ble_eq_true rfl) ?_
  intro p e s m args below meth c ls hx hb hml hr hlk hts0 hown hin hpre0 H locs hpre hS hl
  have hts : ∀ w ∈ TBL, w.before args s = true := fun w hw => hts0 w (List.mem_cons_of_mem _ hw)
  have hl : lv_has ls 1 [(0, .ref t)] := hl
  obtain ⟨hsz, hP, hK⟩ := hpre
  have hsz0 := hpre0.1
  have hA : ∀ q, s.heap.size ≤ q → (fun q => q = t ∨ sz ≤ q) q := fun q h => Or.inr (by omega)
  have hD : va_D (fun q => q = t ∨ sz ≤ q) [(t, .inr (2, [.null, .int (iz 0)]))] := va_D1 (Or.inl rfl)
  refine lv_aload_n hx hb d_Tx_init_0 rfl (lv_at hl 0 rfl) ?_
  refine W.objInit hx hb hown (hts _ tw_49) (hts _ tw_oi) (hts _ tw_oc) rfl (by rw [hml]; exact hl.1) rfl d_Tx_init_1 (Nat.le_of_ble_eq_true rfl) (Nat.le_of_ble_eq_true rfl) ?_
  refine W.eq (g2 := F0 m 4 ls []) rfl ?_
  refine lv_aload_n hx hb d_Tx_init_4 rfl (lv_at hl 0 rfl) ?_
  refine lv_sipush (v := iz 1612) hx hb d_Tx_init_5 (by decide) ?_
  refine z_newa (atype := .byte) (ty := .byte) (n := 1612) (a0 := (1612, .inl (az (fun _ => 0)))) hx hb rfl (hts _ tw_57) hK hP hD hS hA 0 rfl ra_b (a0_b 1612) (by decide) (by decide) (by decide) (by decide) (by decide) d_Tx_init_8 (fun q8 H hP hD hS => ?_)
  have hP : va_P D vwCl [(t, .inr (2, [.null, .int (iz 0)])), (q8, .inl (cB, 1612, .inl (az (fun _ => 0))))] H := hP
  have hD : va_D (fun q => q = t ∨ sz ≤ q) [(t, .inr (2, [.null, .int (iz 0)])), (q8, .inl (cB, 1612, .inl (az (fun _ => 0))))] := hD
  refine va_putF (D := D) (ci := 2) (v := .ref q8) (ty := (.array .byte)) (C := R_2) (T := T_2) (N := 2) hx hb hts in_2 ty_2 tyok_2 nm_2 hown hK hP hD hS 0 rfl rfl 0 (by decide) (hts _ tw_50) (fun _ h9 => h9) rfl hin rfl (by decide +kernel) rfl rfl (Nat.le_of_ble_eq_true rfl) d_Tx_init_10 (fun H locs hP hD hS => ?_)
  have hP : va_P D vwCl [(t, .inr (2, [.ref q8, .int (iz 0)])), (q8, .inl (cB, 1612, .inl (az (fun _ => 0))))] H := hP
  have hD : va_D (fun q => q = t ∨ sz ≤ q) [(t, .inr (2, [.ref q8, .int (iz 0)])), (q8, .inl (cB, 1612, .inl (az (fun _ => 0))))] := hD
  refine lv_aload_n hx hb d_Tx_init_13 rfl (lv_at hl 0 rfl) ?_
  refine lv_iconst (v := iz 0) hx hb d_Tx_init_14 rfl ?_
  refine va_put (D := D) (ci := 2) (v := .int (iz 0)) (ty := .int) (C := R_2) (T := T_2) (N := 2) hx hb hts in_2 ty_2 tyok_2 nm_2 hown hK hP hD hS 0 rfl rfl 1 (by decide) (hts _ tw_51) (fun _ h9 => h9) rfl (by decide +kernel) rfl rfl (Nat.le_of_ble_eq_true rfl) d_Tx_init_15 (fun H locs hP hD hS => ?_)
  have hP : va_P D vwCl [(t, .inr (2, [.ref q8, .int (iz 0)])), (q8, .inl (cB, 1612, .inl (az (fun _ => 0))))] H := hP
  have hD : va_D (fun q => q = t ∨ sz ≤ q) [(t, .inr (2, [.ref q8, .int (iz 0)])), (q8, .inl (cB, 1612, .inl (az (fun _ => 0))))] := hD
  have hla : sz ≤ q8 := (hD.2 1 _ rfl).resolve_left (fun e9 => absurd (hD.1 1 0 _ _ rfl rfl e9) (by decide))
  exact z_vret hx hb hr hlk hS (zR_st zSt_K1post) ⟨rfl, q8, hla, hP⟩ d_Tx_init_18
theorem d_Rw_init_0 : decode b_Rw_init 0 = .ok (.aload_n 0, 1) := by decide +kernel
theorem d_Rw_init_1 : decode b_Rw_init 1 = .ok (.invokespecial 1, 3) := by decide +kernel
theorem d_Rw_init_4 : decode b_Rw_init 4 = .ok (.aload_n 0, 1) := by decide +kernel
theorem d_Rw_init_5 : decode b_Rw_init 5 = .ok (.sipush (1300), 3) := by decide +kernel
theorem d_Rw_init_8 : decode b_Rw_init 8 = .ok (.newarray .byte, 2) := by decide +kernel
theorem d_Rw_init_10 : decode b_Rw_init 10 = .ok (.putfield 7, 3) := by decide +kernel
theorem d_Rw_init_13 : decode b_Rw_init 13 = .ok (.return_, 1) := by decide +kernel
set_option maxHeartbeats 4000000 in
set_option maxRecDepth 100000 in
theorem c_Rw_init (l : Launch) (D : va_G) (cB : ClassId) (r sz : Nat) : CtN l y_Rw_init (ws_Rw_init) 1 1 1300 (fun q => q = r ∨ sz ≤ q) [.ref r] (K1pre D cB .byte r sz 4 [.null, .int (iz 0), .int (iz 0)]) (zR none (K1post D cB r sz 4 (fun la => [.ref la, .int (iz 0), .int (iz 0)]) (1300, .inl (az (fun _ => 0))))) := by
  refine n_body zSt_K1pre (by decide +kernel) rfl (Nat.le_of_ble_eq_true rfl) ?_
  intro p e s m args below meth c ls hx hb hml hr hlk hts0 hown hin hpre0 H locs hpre hS hl
  have hts : ∀ w ∈ TBL, w.before args s = true := fun w hw => hts0 w (List.mem_cons_of_mem _ hw)
  have hl : lv_has ls 1 [(0, .ref r)] := hl
  obtain ⟨hsz, hP, hK⟩ := hpre
  have hsz0 := hpre0.1
  have hA : ∀ q, s.heap.size ≤ q → (fun q => q = r ∨ sz ≤ q) q := fun q h => Or.inr (by omega)
  have hD : va_D (fun q => q = r ∨ sz ≤ q) [(r, .inr (4, [.null, .int (iz 0), .int (iz 0)]))] := va_D1 (Or.inl rfl)
  refine lv_aload_n hx hb d_Rw_init_0 rfl (lv_at hl 0 rfl) ?_
  refine W.objInit hx hb hown (hts _ tw_380) (hts _ tw_oi) (hts _ tw_oc) rfl (by rw [hml]; exact hl.1) rfl d_Rw_init_1 (Nat.le_of_ble_eq_true rfl) (Nat.le_of_ble_eq_true rfl) ?_
  refine W.eq (g2 := F0 m 4 ls []) rfl ?_
  refine lv_aload_n hx hb d_Rw_init_4 rfl (lv_at hl 0 rfl) ?_
  refine lv_sipush (v := iz 1300) hx hb d_Rw_init_5 (by decide) ?_
  refine z_newa (atype := .byte) (ty := .byte) (n := 1300) (a0 := (1300, .inl (az (fun _ => 0)))) hx hb rfl (hts _ tw_57) hK hP hD hS hA 0 rfl ra_b (a0_b 1300) (by decide) (by decide) (by decide) (by decide) (by decide) d_Rw_init_8 (fun q8 H hP hD hS => ?_)
  have hP : va_P D vwCl [(r, .inr (4, [.null, .int (iz 0), .int (iz 0)])), (q8, .inl (cB, 1300, .inl (az (fun _ => 0))))] H := hP
  have hD : va_D (fun q => q = r ∨ sz ≤ q) [(r, .inr (4, [.null, .int (iz 0), .int (iz 0)])), (q8, .inl (cB, 1300, .inl (az (fun _ => 0))))] := hD
  refine va_putF (D := D) (ci := 4) (v := .ref q8) (ty := (.array .byte)) (C := R_4) (T := T_4) (N := 3) hx hb hts in_4 ty_4 tyok_4 nm_4 hown hK hP hD hS 0 rfl rfl 0 (by decide) (hts _ tw_381) (fun _ h9 => h9) rfl hin rfl (by decide +kernel) rfl rfl (Nat.le_of_ble_eq_true rfl) d_Rw_init_10 (fun H locs hP hD hS => ?_)
  have hP : va_P D vwCl [(r, .inr (4, [.ref q8, .int (iz 0), .int (iz 0)])), (q8, .inl (cB, 1300, .inl (az (fun _ => 0))))] H := hP
  have hD : va_D (fun q => q = r ∨ sz ≤ q) [(r, .inr (4, [.ref q8, .int (iz 0), .int (iz 0)])), (q8, .inl (cB, 1300, .inl (az (fun _ => 0))))] := hD
  have hla : sz ≤ q8 := (hD.2 1 _ rfl).resolve_left (fun e9 => absurd (hD.1 1 0 _ _ rfl rfl e9) (by decide))
  exact z_vret hx hb hr hlk hS (zR_st zSt_K1post) ⟨rfl, q8, hla, hP⟩ d_Rw_init_13
theorem d_EN_init_0 : decode b_EN_init 0 = .ok (.aload_n 0, 1) := by decide +kernel
theorem d_EN_init_1 : decode b_EN_init 1 = .ok (.invokespecial 1, 3) := by decide +kernel
theorem d_EN_init_4 : decode b_EN_init 4 = .ok (.aload_n 0, 1) := by decide +kernel
theorem d_EN_init_5 : decode b_EN_init 5 = .ok (.new 7, 3) := by decide +kernel
theorem d_EN_init_8 : decode b_EN_init 8 = .ok (.dup, 1) := by decide +kernel
theorem d_EN_init_9 : decode b_EN_init 9 = .ok (.invokespecial 9, 3) := by decide +kernel
theorem d_EN_init_12 : decode b_EN_init 12 = .ok (.putfield 10, 3) := by decide +kernel
theorem d_EN_init_15 : decode b_EN_init 15 = .ok (.aload_n 0, 1) := by decide +kernel
theorem d_EN_init_16 : decode b_EN_init 16 = .ok (.new 16, 3) := by decide +kernel
theorem d_EN_init_19 : decode b_EN_init 19 = .ok (.dup, 1) := by decide +kernel
theorem d_EN_init_20 : decode b_EN_init 20 = .ok (.invokespecial 18, 3) := by decide +kernel
theorem d_EN_init_23 : decode b_EN_init 23 = .ok (.putfield 19, 3) := by decide +kernel
theorem d_EN_init_26 : decode b_EN_init 26 = .ok (.return_, 1) := by decide +kernel
set_option maxHeartbeats 4000000 in
set_option maxRecDepth 100000 in
theorem c_EN_init (l : Launch) (D : va_G) (cI cB : ClassId) (x sz : Nat) : CtN l y_EN_init (ws_EN_init) 2 4 1772 (fun q => q = x ∨ sz ≤ q) [.ref x] (fun U H => H.size = sz ∧ va_P D vwCl [(x, .inr (0, [.null, .null]))] H ∧ va_K D vwCl [(cI, .int), (cB, .byte)] U) (zR none (fun _ H => ∃ d la t ba : Nat, va_P D vwCl [(x, .inr (0, [.ref d, .ref t])), (d, .inr (1, [.ref la, .int (iz 34), .int (iz 34)])), (la, .inl (cI, 155, .inl (az (fun _ => 0)))), (t, .inr (2, [.ref ba, .int (iz 0)])), (ba, .inl (cB, 1612, .inl (az (fun _ => 0))))] H ∧ va_D (fun q => q = x ∨ sz ≤ q) [(x, .inr (0, [.ref d, .ref t])), (d, .inr (1, [.ref la, .int (iz 34), .int (iz 34)])), (la, .inl (cI, 155, .inl (az (fun _ => 0)))), (t, .inr (2, [.ref ba, .int (iz 0)])), (ba, .inl (cB, 1612, .inl (az (fun _ => 0))))])) := by
  refine n_body (fun _ _ _ hv h => ⟨h.1, h.2.1, va_K.moved hv.alike h.2.2⟩) (by decide +kernel) rfl (Nat.le_of_ble_eq_true rfl) ?_
  intro p e s m args below meth c ls hx hb hml hr hlk hts0 hown hin hpre0 H locs hpre hS hl
  have hts : ∀ w ∈ TBL, w.before args s = true := fun w hw => hts0 w (List.mem_cons_of_mem _ hw)
  have hl : lv_has ls 1 [(0, .ref x)] := hl
  obtain ⟨hsz, hP, hK⟩ := hpre
  have hsz0 := hpre0.1
  have hA : ∀ q, s.heap.size ≤ q → (fun q => q = x ∨ sz ≤ q) q := fun q h => Or.inr (by omega)
  have hD : va_D (fun q => q = x ∨ sz ≤ q) [(x, .inr (0, [.null, .null]))] := va_D1 (Or.inl rfl)
  refine lv_aload_n hx hb d_EN_init_0 rfl (lv_at hl 0 rfl) ?_
  refine W.objInit hx hb hown (hts _ tw_24) (hts _ tw_oi) (hts _ tw_oc) rfl (by rw [hml]; exact hl.1) rfl d_EN_init_1 (Nat.le_of_ble_eq_true rfl) (Nat.le_of_ble_eq_true rfl) ?_
  refine W.eq (g2 := F0 m 4 ls []) rfl ?_
  refine lv_aload_n hx hb d_EN_init_4 rfl (lv_at hl 0 rfl) ?_
  refine va_new (D := D) (ci := 1) (fs := [.null, .int (iz 0), .int (iz 0)]) (C := R_1) (T := T_1) (N := 3) hx hb hts in_1 ty_1 tyok_1 hown (hts _ tw_27) (hts _ tw_28) (hts _ tw_2) hK hP hD hS hA rfl (fun j hj => by rcases j with _ | _ | _ | j <;> first | rfl | (exfalso; omega)) (by decide) (by decide) d_EN_init_5 (fun q5 H hP hD hS => ?_)
  have hP : va_P D vwCl [(x, .inr (0, [.null, .null])), (q5, .inr (1, [.null, .int (iz 0), .int (iz 0)]))] H := hP
  have hD : va_D (fun q => q = x ∨ sz ≤ q) [(x, .inr (0, [.null, .null])), (q5, .inr (1, [.null, .int (iz 0), .int (iz 0)]))] := hD
  refine lv_dup hx hb d_EN_init_8 rfl ?_
  have hct := c_Dc_init l D cI q5 H.size
  refine n_ctor (ws := [(x, .inr (0, [.null, .null]))]) (va_runI (b := q5) (As := []) (rest := [.ref q5, .ref x]) ⟨hx, hb, hml, hown, hts⟩ hct.2 (n_cwI hts w_Dc_init rfl tw_29 (by decide)) (z_preS hct.1 ⟨rfl, hP.sub [1] rfl, hK.sub [0] rfl⟩) rfl rfl hl.1 rfl (lv_room (Nat.le_of_ble_eq_true rfl)) d_EN_init_9 (by decide)) hP hD hS hA (fun q9 H locs hP hD hS => ?_)
  have hP : va_P D vwCl [(x, .inr (0, [.null, .null])), (q5, .inr (1, [.ref q9, .int (iz 34), .int (iz 34)])), (q9, .inl (cI, 155, .inl (az (fun _ => 0))))] H := hP
  have hD : va_D (fun q => q = x ∨ sz ≤ q) [(x, .inr (0, [.null, .null])), (q5, .inr (1, [.ref q9, .int (iz 34), .int (iz 34)])), (q9, .inl (cI, 155, .inl (az (fun _ => 0))))] := hD
  refine W.eq (g2 := F0 m 12 ls [.ref q5, .ref x]) rfl ?_
  refine va_putF (D := D) (ci := 0) (v := .ref q5) (ty := (.object "ExactNotation$Decimal")) (C := R_0) (T := T_0) (N := 2) hx hb hts in_0 ty_0 tyok_0 nm_0 hown hK hP hD hS 0 rfl rfl 0 (by decide) (hts _ tw_58) (fun _ h9 => h9) rfl hin rfl (by decide +kernel) rfl rfl (Nat.le_of_ble_eq_true rfl) d_EN_init_12 (fun H locs hP hD hS => ?_)
  have hP : va_P D vwCl [(x, .inr (0, [.ref q5, .null])), (q5, .inr (1, [.ref q9, .int (iz 34), .int (iz 34)])), (q9, .inl (cI, 155, .inl (az (fun _ => 0))))] H := hP
  have hD : va_D (fun q => q = x ∨ sz ≤ q) [(x, .inr (0, [.ref q5, .null])), (q5, .inr (1, [.ref q9, .int (iz 34), .int (iz 34)])), (q9, .inl (cI, 155, .inl (az (fun _ => 0))))] := hD
  refine lv_aload_n hx hb d_EN_init_15 rfl (lv_at hl 0 rfl) ?_
  refine va_new (D := D) (ci := 2) (fs := [.null, .int (iz 0)]) (C := R_2) (T := T_2) (N := 2) hx hb hts in_2 ty_2 tyok_2 hown (hts _ tw_44) (hts _ tw_45) (hts _ tw_3) hK hP hD hS hA rfl (fun j hj => by rcases j with _ | _ | j <;> first | rfl | (exfalso; omega)) (by decide) (by decide) d_EN_init_16 (fun q16 H hP hD hS => ?_)
  have hP : va_P D vwCl [(x, .inr (0, [.ref q5, .null])), (q5, .inr (1, [.ref q9, .int (iz 34), .int (iz 34)])), (q9, .inl (cI, 155, .inl (az (fun _ => 0)))), (q16, .inr (2, [.null, .int (iz 0)]))] H := hP
  have hD : va_D (fun q => q = x ∨ sz ≤ q) [(x, .inr (0, [.ref q5, .null])), (q5, .inr (1, [.ref q9, .int (iz 34), .int (iz 34)])), (q9, .inl (cI, 155, .inl (az (fun _ => 0)))), (q16, .inr (2, [.null, .int (iz 0)]))] := hD
  refine lv_dup hx hb d_EN_init_19 rfl ?_
  have hct := c_Tx_init l D cB q16 H.size
  refine n_ctor (ws := [(x, .inr (0, [.ref q5, .null])), (q5, .inr (1, [.ref q9, .int (iz 34), .int (iz 34)])), (q9, .inl (cI, 155, .inl (az (fun _ => 0))))]) (va_runI (b := q16) (As := []) (rest := [.ref q16, .ref x]) ⟨hx, hb, hml, hown, hts⟩ hct.2 (n_cwI hts w_Tx_init rfl tw_46 (by decide)) (z_preS hct.1 ⟨rfl, hP.sub [3] rfl, hK.sub [1] rfl⟩) rfl rfl hl.1 rfl (lv_room (Nat.le_of_ble_eq_true rfl)) d_EN_init_20 (by decide)) hP hD hS hA (fun q20 H locs hP hD hS => ?_)
  have hP : va_P D vwCl [(x, .inr (0, [.ref q5, .null])), (q5, .inr (1, [.ref q9, .int (iz 34), .int (iz 34)])), (q9, .inl (cI, 155, .inl (az (fun _ => 0)))), (q16, .inr (2, [.ref q20, .int (iz 0)])), (q20, .inl (cB, 1612, .inl (az (fun _ => 0))))] H := hP
  have hD : va_D (fun q => q = x ∨ sz ≤ q) [(x, .inr (0, [.ref q5, .null])), (q5, .inr (1, [.ref q9, .int (iz 34), .int (iz 34)])), (q9, .inl (cI, 155, .inl (az (fun _ => 0)))), (q16, .inr (2, [.ref q20, .int (iz 0)])), (q20, .inl (cB, 1612, .inl (az (fun _ => 0))))] := hD
  refine W.eq (g2 := F0 m 23 ls [.ref q16, .ref x]) rfl ?_
  refine va_putF (D := D) (ci := 0) (v := .ref q16) (ty := (.object "ExactNotation$Text")) (C := R_0) (T := T_0) (N := 2) hx hb hts in_0 ty_0 tyok_0 nm_0 hown hK hP hD hS 0 rfl rfl 1 (by decide) (hts _ tw_59) (fun _ h9 => h9) rfl hin rfl (by decide +kernel) rfl rfl (Nat.le_of_ble_eq_true rfl) d_EN_init_23 (fun H locs hP hD hS => ?_)
  have hP : va_P D vwCl [(x, .inr (0, [.ref q5, .ref q16])), (q5, .inr (1, [.ref q9, .int (iz 34), .int (iz 34)])), (q9, .inl (cI, 155, .inl (az (fun _ => 0)))), (q16, .inr (2, [.ref q20, .int (iz 0)])), (q20, .inl (cB, 1612, .inl (az (fun _ => 0))))] H := hP
  have hD : va_D (fun q => q = x ∨ sz ≤ q) [(x, .inr (0, [.ref q5, .ref q16])), (q5, .inr (1, [.ref q9, .int (iz 34), .int (iz 34)])), (q9, .inl (cI, 155, .inl (az (fun _ => 0)))), (q16, .inr (2, [.ref q20, .int (iz 0)])), (q20, .inl (cB, 1612, .inl (az (fun _ => 0))))] := hD
  exact z_vret hx hb hr hlk hS (zR_st (fun _ _ _ _ h => h)) ⟨rfl, _, _, _, _, hP, hD⟩ d_EN_init_26
theorem d_Mo_init_0 : decode b_Mo_init 0 = .ok (.aload_n 0, 1) := by decide +kernel
theorem d_Mo_init_1 : decode b_Mo_init 1 = .ok (.invokespecial 1, 3) := by decide +kernel
theorem d_Mo_init_4 : decode b_Mo_init 4 = .ok (.aload_n 0, 1) := by decide +kernel
theorem d_Mo_init_5 : decode b_Mo_init 5 = .ok (.sipush (4096), 3) := by decide +kernel
theorem d_Mo_init_8 : decode b_Mo_init 8 = .ok (.newarray .byte, 2) := by decide +kernel
theorem d_Mo_init_10 : decode b_Mo_init 10 = .ok (.putfield 7, 3) := by decide +kernel
theorem d_Mo_init_13 : decode b_Mo_init 13 = .ok (.aload_n 0, 1) := by decide +kernel
theorem d_Mo_init_14 : decode b_Mo_init 14 = .ok (.new 13, 3) := by decide +kernel
theorem d_Mo_init_17 : decode b_Mo_init 17 = .ok (.dup, 1) := by decide +kernel
theorem d_Mo_init_18 : decode b_Mo_init 18 = .ok (.invokespecial 15, 3) := by decide +kernel
theorem d_Mo_init_21 : decode b_Mo_init 21 = .ok (.putfield 16, 3) := by decide +kernel
theorem d_Mo_init_24 : decode b_Mo_init 24 = .ok (.aload_n 0, 1) := by decide +kernel
theorem d_Mo_init_25 : decode b_Mo_init 25 = .ok (.sipush (160), 3) := by decide +kernel
theorem d_Mo_init_28 : decode b_Mo_init 28 = .ok (.newarray .long, 2) := by decide +kernel
theorem d_Mo_init_30 : decode b_Mo_init 30 = .ok (.putfield 20, 3) := by decide +kernel
theorem d_Mo_init_33 : decode b_Mo_init 33 = .ok (.aload_n 0, 1) := by decide +kernel
theorem d_Mo_init_34 : decode b_Mo_init 34 = .ok (.sipush (4096), 3) := by decide +kernel
theorem d_Mo_init_37 : decode b_Mo_init 37 = .ok (.newarray .byte, 2) := by decide +kernel
theorem d_Mo_init_39 : decode b_Mo_init 39 = .ok (.putfield 24, 3) := by decide +kernel
theorem d_Mo_init_42 : decode b_Mo_init 42 = .ok (.aload_n 0, 1) := by decide +kernel
theorem d_Mo_init_43 : decode b_Mo_init 43 = .ok (.new 13, 3) := by decide +kernel
theorem d_Mo_init_46 : decode b_Mo_init 46 = .ok (.dup, 1) := by decide +kernel
theorem d_Mo_init_47 : decode b_Mo_init 47 = .ok (.invokespecial 15, 3) := by decide +kernel
theorem d_Mo_init_50 : decode b_Mo_init 50 = .ok (.putfield 27, 3) := by decide +kernel
theorem d_Mo_init_53 : decode b_Mo_init 53 = .ok (.return_, 1) := by decide +kernel
set_option maxHeartbeats 4000000 in
set_option maxRecDepth 100000 in
theorem c_Mo_init (l : Launch) (D : va_G) (cB cL : ClassId) (mo sz : Nat) : CtN l y_Mo_init (ws_Mo_init) 2 7 10958 (fun q => q = mo ∨ sz ≤ q) [.ref mo] (fun U H => H.size = sz ∧ va_P D vwCl [(mo, .inr (3, [.null, .int (iz 0), .int (iz 0), .null, .int (iz 0), .int (iz 0), .null, .int (iz 0), .null, .int (iz 0), .null]))] H ∧ va_K D vwCl [(cB, .byte), (cL, .long)] U ∧ va_Nw (.methodLinkNest "ExactNotationModel" 15 y_Rw_init "ExactNotationModel") U) (zR none (fun _ H => ∃ rs ex xd li bo cu cd : Nat, va_P D vwCl [(mo, .inr (3, [.ref rs, .int (iz 0), .int (iz 0), .ref ex, .int (iz 0), .int (iz 0), .ref li, .int (iz 0), .ref bo, .int (iz 0), .ref cu])), (rs, .inl (cB, 4096, .inl (az (fun _ => 0)))), (ex, .inr (4, [.ref xd, .int (iz 0), .int (iz 0)])), (xd, .inl (cB, 1300, .inl (az (fun _ => 0)))), (li, .inl (cL, 160, .inr (.inl (azl (fun _ => 0))))), (bo, .inl (cB, 4096, .inl (az (fun _ => 0)))), (cu, .inr (4, [.ref cd, .int (iz 0), .int (iz 0)])), (cd, .inl (cB, 1300, .inl (az (fun _ => 0))))] H ∧ va_D (fun q => q = mo ∨ sz ≤ q) [(mo, .inr (3, [.ref rs, .int (iz 0), .int (iz 0), .ref ex, .int (iz 0), .int (iz 0), .ref li, .int (iz 0), .ref bo, .int (iz 0), .ref cu])), (rs, .inl (cB, 4096, .inl (az (fun _ => 0)))), (ex, .inr (4, [.ref xd, .int (iz 0), .int (iz 0)])), (xd, .inl (cB, 1300, .inl (az (fun _ => 0)))), (li, .inl (cL, 160, .inr (.inl (azl (fun _ => 0))))), (bo, .inl (cB, 4096, .inl (az (fun _ => 0)))), (cu, .inr (4, [.ref cd, .int (iz 0), .int (iz 0)])), (cd, .inl (cB, 1300, .inl (az (fun _ => 0))))])) := by
  refine n_body (fun _ _ _ hv h => ⟨h.1, h.2.1, va_K.moved hv.alike h.2.2.1, va_Nw.warmM hv h.2.2.2⟩) (by decide +kernel) rfl (Nat.le_of_ble_eq_true rfl) ?_
  intro p e s m args below meth c ls hx hb hml hr hlk hts0 hown hin hpre0 H locs hpre hS hl
  have hts : ∀ w ∈ TBL, w.before args s = true := fun w hw => hts0 w (List.mem_cons_of_mem _ hw)
  have hl : lv_has ls 1 [(0, .ref mo)] := hl
  obtain ⟨hsz, hP, hK, hnest⟩ := hpre
  have hsz0 := hpre0.1
  have hA : ∀ q, s.heap.size ≤ q → (fun q => q = mo ∨ sz ≤ q) q := fun q h => Or.inr (by omega)
  have hD : va_D (fun q => q = mo ∨ sz ≤ q) [(mo, .inr (3, [.null, .int (iz 0), .int (iz 0), .null, .int (iz 0), .int (iz 0), .null, .int (iz 0), .null, .int (iz 0), .null]))] := va_D1 (Or.inl rfl)
  refine lv_aload_n hx hb d_Mo_init_0 rfl (lv_at hl 0 rfl) ?_
  refine W.objInit hx hb hown (hts _ tw_374) (hts _ tw_oi) (hts _ tw_oc) rfl (by rw [hml]; exact hl.1) rfl d_Mo_init_1 (Nat.le_of_ble_eq_true rfl) (Nat.le_of_ble_eq_true rfl) ?_
  refine W.eq (g2 := F0 m 4 ls []) rfl ?_
  refine lv_aload_n hx hb d_Mo_init_4 rfl (lv_at hl 0 rfl) ?_
  refine lv_sipush (v := iz 4096) hx hb d_Mo_init_5 (by decide) ?_
  refine z_newa (atype := .byte) (ty := .byte) (n := 4096) (a0 := (4096, .inl (az (fun _ => 0)))) hx hb rfl (hts _ tw_57) hK hP hD hS hA 0 rfl ra_b (a0_b 4096) (by decide) (by decide) (by decide) (by decide) (by decide) d_Mo_init_8 (fun q8 H hP hD hS => ?_)
  have hP : va_P D vwCl [(mo, .inr (3, [.null, .int (iz 0), .int (iz 0), .null, .int (iz 0), .int (iz 0), .null, .int (iz 0), .null, .int (iz 0), .null])), (q8, .inl (cB, 4096, .inl (az (fun _ => 0))))] H := hP
  have hD : va_D (fun q => q = mo ∨ sz ≤ q) [(mo, .inr (3, [.null, .int (iz 0), .int (iz 0), .null, .int (iz 0), .int (iz 0), .null, .int (iz 0), .null, .int (iz 0), .null])), (q8, .inl (cB, 4096, .inl (az (fun _ => 0))))] := hD
  refine va_putF (D := D) (ci := 3) (v := .ref q8) (ty := (.array .byte)) (C := R_3) (T := T_3) (N := 11) hx hb hts in_3 ty_3 tyok_3 nm_3 hown hK hP hD hS 0 rfl rfl 0 (by decide) (hts _ tw_392) (fun _ h9 => h9) rfl hin rfl (by decide +kernel) rfl rfl (Nat.le_of_ble_eq_true rfl) d_Mo_init_10 (fun H locs hP hD hS => ?_)
  have hP : va_P D vwCl [(mo, .inr (3, [.ref q8, .int (iz 0), .int (iz 0), .null, .int (iz 0), .int (iz 0), .null, .int (iz 0), .null, .int (iz 0), .null])), (q8, .inl (cB, 4096, .inl (az (fun _ => 0))))] H := hP
  have hD : va_D (fun q => q = mo ∨ sz ≤ q) [(mo, .inr (3, [.ref q8, .int (iz 0), .int (iz 0), .null, .int (iz 0), .int (iz 0), .null, .int (iz 0), .null, .int (iz 0), .null])), (q8, .inl (cB, 4096, .inl (az (fun _ => 0))))] := hD
  refine lv_aload_n hx hb d_Mo_init_13 rfl (lv_at hl 0 rfl) ?_
  refine va_new (D := D) (ci := 4) (fs := [.null, .int (iz 0), .int (iz 0)]) (C := R_4) (T := T_4) (N := 3) hx hb hts in_4 ty_4 tyok_4 hown (hts _ tw_375) (hts _ tw_376) (hts _ tw_5) hK hP hD hS hA rfl (fun j hj => by rcases j with _ | _ | _ | j <;> first | rfl | (exfalso; omega)) (by decide) (by decide) d_Mo_init_14 (fun q14 H hP hD hS => ?_)
  have hP : va_P D vwCl [(mo, .inr (3, [.ref q8, .int (iz 0), .int (iz 0), .null, .int (iz 0), .int (iz 0), .null, .int (iz 0), .null, .int (iz 0), .null])), (q8, .inl (cB, 4096, .inl (az (fun _ => 0)))), (q14, .inr (4, [.null, .int (iz 0), .int (iz 0)]))] H := hP
  have hD : va_D (fun q => q = mo ∨ sz ≤ q) [(mo, .inr (3, [.ref q8, .int (iz 0), .int (iz 0), .null, .int (iz 0), .int (iz 0), .null, .int (iz 0), .null, .int (iz 0), .null])), (q8, .inl (cB, 4096, .inl (az (fun _ => 0)))), (q14, .inr (4, [.null, .int (iz 0), .int (iz 0)]))] := hD
  refine lv_dup hx hb d_Mo_init_17 rfl ?_
  have hct := c_Rw_init l D cB q14 H.size
  refine n_ctor (ws := [(mo, .inr (3, [.ref q8, .int (iz 0), .int (iz 0), .null, .int (iz 0), .int (iz 0), .null, .int (iz 0), .null, .int (iz 0), .null])), (q8, .inl (cB, 4096, .inl (az (fun _ => 0))))]) (va_runIN (b := q14) (As := []) (rest := [.ref q14, .ref mo]) ⟨hx, hb, hml, hown, hts⟩ hct.2 (n_cnI hts w_Rw_init rfl hnest (by decide)) (z_preS hct.1 ⟨rfl, hP.sub [2] rfl, hK.sub [0] rfl⟩) rfl rfl hl.1 rfl (lv_room (Nat.le_of_ble_eq_true rfl)) d_Mo_init_18 (by decide)) hP hD hS hA (fun q18 H locs hP hD hS => ?_)
  have hP : va_P D vwCl [(mo, .inr (3, [.ref q8, .int (iz 0), .int (iz 0), .null, .int (iz 0), .int (iz 0), .null, .int (iz 0), .null, .int (iz 0), .null])), (q8, .inl (cB, 4096, .inl (az (fun _ => 0)))), (q14, .inr (4, [.ref q18, .int (iz 0), .int (iz 0)])), (q18, .inl (cB, 1300, .inl (az (fun _ => 0))))] H := hP
  have hD : va_D (fun q => q = mo ∨ sz ≤ q) [(mo, .inr (3, [.ref q8, .int (iz 0), .int (iz 0), .null, .int (iz 0), .int (iz 0), .null, .int (iz 0), .null, .int (iz 0), .null])), (q8, .inl (cB, 4096, .inl (az (fun _ => 0)))), (q14, .inr (4, [.ref q18, .int (iz 0), .int (iz 0)])), (q18, .inl (cB, 1300, .inl (az (fun _ => 0))))] := hD
  refine W.eq (g2 := F0 m 21 ls [.ref q14, .ref mo]) rfl ?_
  refine va_putF (D := D) (ci := 3) (v := .ref q14) (ty := (.object "ExactNotationModel$Row")) (C := R_3) (T := T_3) (N := 11) hx hb hts in_3 ty_3 tyok_3 nm_3 hown hK hP hD hS 0 rfl rfl 3 (by decide) (hts _ tw_395) (fun _ h9 => h9) rfl hin rfl (by decide +kernel) rfl rfl (Nat.le_of_ble_eq_true rfl) d_Mo_init_21 (fun H locs hP hD hS => ?_)
  have hP : va_P D vwCl [(mo, .inr (3, [.ref q8, .int (iz 0), .int (iz 0), .ref q14, .int (iz 0), .int (iz 0), .null, .int (iz 0), .null, .int (iz 0), .null])), (q8, .inl (cB, 4096, .inl (az (fun _ => 0)))), (q14, .inr (4, [.ref q18, .int (iz 0), .int (iz 0)])), (q18, .inl (cB, 1300, .inl (az (fun _ => 0))))] H := hP
  have hD : va_D (fun q => q = mo ∨ sz ≤ q) [(mo, .inr (3, [.ref q8, .int (iz 0), .int (iz 0), .ref q14, .int (iz 0), .int (iz 0), .null, .int (iz 0), .null, .int (iz 0), .null])), (q8, .inl (cB, 4096, .inl (az (fun _ => 0)))), (q14, .inr (4, [.ref q18, .int (iz 0), .int (iz 0)])), (q18, .inl (cB, 1300, .inl (az (fun _ => 0))))] := hD
  refine lv_aload_n hx hb d_Mo_init_24 rfl (lv_at hl 0 rfl) ?_
  refine lv_sipush (v := iz 160) hx hb d_Mo_init_25 (by decide) ?_
  refine z_newa (atype := .long) (ty := .long) (n := 160) (a0 := (160, .inr (.inl (azl (fun _ => 0))))) hx hb rfl (hts _ tw_426) hK hP hD hS hA 1 rfl ra_l (a0_l 160) (by decide) (by decide) (by decide) (by decide) (by decide) d_Mo_init_28 (fun q28 H hP hD hS => ?_)
  have hP : va_P D vwCl [(mo, .inr (3, [.ref q8, .int (iz 0), .int (iz 0), .ref q14, .int (iz 0), .int (iz 0), .null, .int (iz 0), .null, .int (iz 0), .null])), (q8, .inl (cB, 4096, .inl (az (fun _ => 0)))), (q14, .inr (4, [.ref q18, .int (iz 0), .int (iz 0)])), (q18, .inl (cB, 1300, .inl (az (fun _ => 0)))), (q28, .inl (cL, 160, .inr (.inl (azl (fun _ => 0)))))] H := hP
  have hD : va_D (fun q => q = mo ∨ sz ≤ q) [(mo, .inr (3, [.ref q8, .int (iz 0), .int (iz 0), .ref q14, .int (iz 0), .int (iz 0), .null, .int (iz 0), .null, .int (iz 0), .null])), (q8, .inl (cB, 4096, .inl (az (fun _ => 0)))), (q14, .inr (4, [.ref q18, .int (iz 0), .int (iz 0)])), (q18, .inl (cB, 1300, .inl (az (fun _ => 0)))), (q28, .inl (cL, 160, .inr (.inl (azl (fun _ => 0)))))] := hD
  refine va_putF (D := D) (ci := 3) (v := .ref q28) (ty := (.array .long)) (C := R_3) (T := T_3) (N := 11) hx hb hts in_3 ty_3 tyok_3 nm_3 hown hK hP hD hS 0 rfl rfl 6 (by decide) (hts _ tw_398) (fun _ h9 => h9) rfl hin rfl (by decide +kernel) rfl rfl (Nat.le_of_ble_eq_true rfl) d_Mo_init_30 (fun H locs hP hD hS => ?_)
  have hP : va_P D vwCl [(mo, .inr (3, [.ref q8, .int (iz 0), .int (iz 0), .ref q14, .int (iz 0), .int (iz 0), .ref q28, .int (iz 0), .null, .int (iz 0), .null])), (q8, .inl (cB, 4096, .inl (az (fun _ => 0)))), (q14, .inr (4, [.ref q18, .int (iz 0), .int (iz 0)])), (q18, .inl (cB, 1300, .inl (az (fun _ => 0)))), (q28, .inl (cL, 160, .inr (.inl (azl (fun _ => 0)))))] H := hP
  have hD : va_D (fun q => q = mo ∨ sz ≤ q) [(mo, .inr (3, [.ref q8, .int (iz 0), .int (iz 0), .ref q14, .int (iz 0), .int (iz 0), .ref q28, .int (iz 0), .null, .int (iz 0), .null])), (q8, .inl (cB, 4096, .inl (az (fun _ => 0)))), (q14, .inr (4, [.ref q18, .int (iz 0), .int (iz 0)])), (q18, .inl (cB, 1300, .inl (az (fun _ => 0)))), (q28, .inl (cL, 160, .inr (.inl (azl (fun _ => 0)))))] := hD
  refine lv_aload_n hx hb d_Mo_init_33 rfl (lv_at hl 0 rfl) ?_
  refine lv_sipush (v := iz 4096) hx hb d_Mo_init_34 (by decide) ?_
  refine z_newa (atype := .byte) (ty := .byte) (n := 4096) (a0 := (4096, .inl (az (fun _ => 0)))) hx hb rfl (hts _ tw_57) hK hP hD hS hA 0 rfl ra_b (a0_b 4096) (by decide) (by decide) (by decide) (by decide) (by decide) d_Mo_init_37 (fun q37 H hP hD hS => ?_)
  have hP : va_P D vwCl [(mo, .inr (3, [.ref q8, .int (iz 0), .int (iz 0), .ref q14, .int (iz 0), .int (iz 0), .ref q28, .int (iz 0), .null, .int (iz 0), .null])), (q8, .inl (cB, 4096, .inl (az (fun _ => 0)))), (q14, .inr (4, [.ref q18, .int (iz 0), .int (iz 0)])), (q18, .inl (cB, 1300, .inl (az (fun _ => 0)))), (q28, .inl (cL, 160, .inr (.inl (azl (fun _ => 0))))), (q37, .inl (cB, 4096, .inl (az (fun _ => 0))))] H := hP
  have hD : va_D (fun q => q = mo ∨ sz ≤ q) [(mo, .inr (3, [.ref q8, .int (iz 0), .int (iz 0), .ref q14, .int (iz 0), .int (iz 0), .ref q28, .int (iz 0), .null, .int (iz 0), .null])), (q8, .inl (cB, 4096, .inl (az (fun _ => 0)))), (q14, .inr (4, [.ref q18, .int (iz 0), .int (iz 0)])), (q18, .inl (cB, 1300, .inl (az (fun _ => 0)))), (q28, .inl (cL, 160, .inr (.inl (azl (fun _ => 0))))), (q37, .inl (cB, 4096, .inl (az (fun _ => 0))))] := hD
  refine va_putF (D := D) (ci := 3) (v := .ref q37) (ty := (.array .byte)) (C := R_3) (T := T_3) (N := 11) hx hb hts in_3 ty_3 tyok_3 nm_3 hown hK hP hD hS 0 rfl rfl 8 (by decide) (hts _ tw_400) (fun _ h9 => h9) rfl hin rfl (by decide +kernel) rfl rfl (Nat.le_of_ble_eq_true rfl) d_Mo_init_39 (fun H locs hP hD hS => ?_)
  have hP : va_P D vwCl [(mo, .inr (3, [.ref q8, .int (iz 0), .int (iz 0), .ref q14, .int (iz 0), .int (iz 0), .ref q28, .int (iz 0), .ref q37, .int (iz 0), .null])), (q8, .inl (cB, 4096, .inl (az (fun _ => 0)))), (q14, .inr (4, [.ref q18, .int (iz 0), .int (iz 0)])), (q18, .inl (cB, 1300, .inl (az (fun _ => 0)))), (q28, .inl (cL, 160, .inr (.inl (azl (fun _ => 0))))), (q37, .inl (cB, 4096, .inl (az (fun _ => 0))))] H := hP
  have hD : va_D (fun q => q = mo ∨ sz ≤ q) [(mo, .inr (3, [.ref q8, .int (iz 0), .int (iz 0), .ref q14, .int (iz 0), .int (iz 0), .ref q28, .int (iz 0), .ref q37, .int (iz 0), .null])), (q8, .inl (cB, 4096, .inl (az (fun _ => 0)))), (q14, .inr (4, [.ref q18, .int (iz 0), .int (iz 0)])), (q18, .inl (cB, 1300, .inl (az (fun _ => 0)))), (q28, .inl (cL, 160, .inr (.inl (azl (fun _ => 0))))), (q37, .inl (cB, 4096, .inl (az (fun _ => 0))))] := hD
  refine lv_aload_n hx hb d_Mo_init_42 rfl (lv_at hl 0 rfl) ?_
  refine va_new (D := D) (ci := 4) (fs := [.null, .int (iz 0), .int (iz 0)]) (C := R_4) (T := T_4) (N := 3) hx hb hts in_4 ty_4 tyok_4 hown (hts _ tw_375) (hts _ tw_376) (hts _ tw_5) hK hP hD hS hA rfl (fun j hj => by rcases j with _ | _ | _ | j <;> first | rfl | (exfalso; omega)) (by decide) (by decide) d_Mo_init_43 (fun q43 H hP hD hS => ?_)
  have hP : va_P D vwCl [(mo, .inr (3, [.ref q8, .int (iz 0), .int (iz 0), .ref q14, .int (iz 0), .int (iz 0), .ref q28, .int (iz 0), .ref q37, .int (iz 0), .null])), (q8, .inl (cB, 4096, .inl (az (fun _ => 0)))), (q14, .inr (4, [.ref q18, .int (iz 0), .int (iz 0)])), (q18, .inl (cB, 1300, .inl (az (fun _ => 0)))), (q28, .inl (cL, 160, .inr (.inl (azl (fun _ => 0))))), (q37, .inl (cB, 4096, .inl (az (fun _ => 0)))), (q43, .inr (4, [.null, .int (iz 0), .int (iz 0)]))] H := hP
  have hD : va_D (fun q => q = mo ∨ sz ≤ q) [(mo, .inr (3, [.ref q8, .int (iz 0), .int (iz 0), .ref q14, .int (iz 0), .int (iz 0), .ref q28, .int (iz 0), .ref q37, .int (iz 0), .null])), (q8, .inl (cB, 4096, .inl (az (fun _ => 0)))), (q14, .inr (4, [.ref q18, .int (iz 0), .int (iz 0)])), (q18, .inl (cB, 1300, .inl (az (fun _ => 0)))), (q28, .inl (cL, 160, .inr (.inl (azl (fun _ => 0))))), (q37, .inl (cB, 4096, .inl (az (fun _ => 0)))), (q43, .inr (4, [.null, .int (iz 0), .int (iz 0)]))] := hD
  refine lv_dup hx hb d_Mo_init_46 rfl ?_
  have hct := c_Rw_init l D cB q43 H.size
  refine n_ctor (ws := [(mo, .inr (3, [.ref q8, .int (iz 0), .int (iz 0), .ref q14, .int (iz 0), .int (iz 0), .ref q28, .int (iz 0), .ref q37, .int (iz 0), .null])), (q8, .inl (cB, 4096, .inl (az (fun _ => 0)))), (q14, .inr (4, [.ref q18, .int (iz 0), .int (iz 0)])), (q18, .inl (cB, 1300, .inl (az (fun _ => 0)))), (q28, .inl (cL, 160, .inr (.inl (azl (fun _ => 0))))), (q37, .inl (cB, 4096, .inl (az (fun _ => 0))))]) (va_runIN (b := q43) (As := []) (rest := [.ref q43, .ref mo]) ⟨hx, hb, hml, hown, hts⟩ hct.2 (n_cnI hts w_Rw_init rfl hnest (by decide)) (z_preS hct.1 ⟨rfl, hP.sub [6] rfl, hK.sub [0] rfl⟩) rfl rfl hl.1 rfl (lv_room (Nat.le_of_ble_eq_true rfl)) d_Mo_init_47 (by decide)) hP hD hS hA (fun q47 H locs hP hD hS => ?_)
  have hP : va_P D vwCl [(mo, .inr (3, [.ref q8, .int (iz 0), .int (iz 0), .ref q14, .int (iz 0), .int (iz 0), .ref q28, .int (iz 0), .ref q37, .int (iz 0), .null])), (q8, .inl (cB, 4096, .inl (az (fun _ => 0)))), (q14, .inr (4, [.ref q18, .int (iz 0), .int (iz 0)])), (q18, .inl (cB, 1300, .inl (az (fun _ => 0)))), (q28, .inl (cL, 160, .inr (.inl (azl (fun _ => 0))))), (q37, .inl (cB, 4096, .inl (az (fun _ => 0)))), (q43, .inr (4, [.ref q47, .int (iz 0), .int (iz 0)])), (q47, .inl (cB, 1300, .inl (az (fun _ => 0))))] H := hP
  have hD : va_D (fun q => q = mo ∨ sz ≤ q) [(mo, .inr (3, [.ref q8, .int (iz 0), .int (iz 0), .ref q14, .int (iz 0), .int (iz 0), .ref q28, .int (iz 0), .ref q37, .int (iz 0), .null])), (q8, .inl (cB, 4096, .inl (az (fun _ => 0)))), (q14, .inr (4, [.ref q18, .int (iz 0), .int (iz 0)])), (q18, .inl (cB, 1300, .inl (az (fun _ => 0)))), (q28, .inl (cL, 160, .inr (.inl (azl (fun _ => 0))))), (q37, .inl (cB, 4096, .inl (az (fun _ => 0)))), (q43, .inr (4, [.ref q47, .int (iz 0), .int (iz 0)])), (q47, .inl (cB, 1300, .inl (az (fun _ => 0))))] := hD
  refine W.eq (g2 := F0 m 50 ls [.ref q43, .ref mo]) rfl ?_
  refine va_putF (D := D) (ci := 3) (v := .ref q43) (ty := (.object "ExactNotationModel$Row")) (C := R_3) (T := T_3) (N := 11) hx hb hts in_3 ty_3 tyok_3 nm_3 hown hK hP hD hS 0 rfl rfl 10 (by decide) (hts _ tw_402) (fun _ h9 => h9) rfl hin rfl (by decide +kernel) rfl rfl (Nat.le_of_ble_eq_true rfl) d_Mo_init_50 (fun H locs hP hD hS => ?_)
  have hP : va_P D vwCl [(mo, .inr (3, [.ref q8, .int (iz 0), .int (iz 0), .ref q14, .int (iz 0), .int (iz 0), .ref q28, .int (iz 0), .ref q37, .int (iz 0), .ref q43])), (q8, .inl (cB, 4096, .inl (az (fun _ => 0)))), (q14, .inr (4, [.ref q18, .int (iz 0), .int (iz 0)])), (q18, .inl (cB, 1300, .inl (az (fun _ => 0)))), (q28, .inl (cL, 160, .inr (.inl (azl (fun _ => 0))))), (q37, .inl (cB, 4096, .inl (az (fun _ => 0)))), (q43, .inr (4, [.ref q47, .int (iz 0), .int (iz 0)])), (q47, .inl (cB, 1300, .inl (az (fun _ => 0))))] H := hP
  have hD : va_D (fun q => q = mo ∨ sz ≤ q) [(mo, .inr (3, [.ref q8, .int (iz 0), .int (iz 0), .ref q14, .int (iz 0), .int (iz 0), .ref q28, .int (iz 0), .ref q37, .int (iz 0), .ref q43])), (q8, .inl (cB, 4096, .inl (az (fun _ => 0)))), (q14, .inr (4, [.ref q18, .int (iz 0), .int (iz 0)])), (q18, .inl (cB, 1300, .inl (az (fun _ => 0)))), (q28, .inl (cL, 160, .inr (.inl (azl (fun _ => 0))))), (q37, .inl (cB, 4096, .inl (az (fun _ => 0)))), (q43, .inr (4, [.ref q47, .int (iz 0), .int (iz 0)])), (q47, .inl (cB, 1300, .inl (az (fun _ => 0))))] := hD
  exact z_vret hx hb hr hlk hS (zR_st (fun _ _ _ _ h => h)) ⟨rfl, _, _, _, _, _, _, _, hP, hD⟩ d_Mo_init_53
