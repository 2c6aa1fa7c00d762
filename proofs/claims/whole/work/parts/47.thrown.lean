theorem d_Tx_len0_0 : decode b_Tx_length 0 = .ok (.aload_n 0, 1) := by decide +kernel
theorem d_Tx_len0_1 : decode b_Tx_length 1 = .ok (.getfield 15, 3) := by decide +kernel
theorem d_Tx_len0_4 : decode b_Tx_length 4 = .ok (.ireturn, 1) := by decide +kernel
set_option maxHeartbeats 4000000 in
set_option maxRecDepth 100000 in
theorem c_Tx_len0 (l : Launch) (D : va_G) (cI cB : ClassId) (x d la t ba tt : Nat) (ad : Nat → Nat) (V : Int) (tx : List Int)  : Ct l y_Tx_length (ws_Tx_length) 0 (fun _ => False) [.ref t] (XW D cI cB x d la t ba tt ad V tx) (zR (some (.int (iz (tx.length : Int)))) (XW D cI cB x d la t ba tt ad V tx)) := by
  refine z_body zSt_XW (by decide +kernel) rfl (Nat.le_of_ble_eq_true rfl) ?_
  intro p e s m args below meth c ls hx hb hml hr hlk hts0 hown hpre0 H locs hpre hS hl
  have hts : ∀ w ∈ TBL, w.before args s = true := fun w hw => hts0 w (List.mem_cons_of_mem _ hw)
  have hl : lv_has ls 1 [(0, .ref t)] := hl
  have hw := hpre
  have hst0 := hpre0.st
  refine lv_aload_n hx hb d_Tx_len0_0 rfl (lv_at hl 0 rfl) ?_
  have hw9 := hw
  obtain ⟨lt, f, fi, g, n, ⟨hK, hP, hD⟩, hdec, htx, -⟩ := hw9
  have hdr := hdec.1
  have htn := htx.1
  have htl := htx.2.1
  have hP : va_P D vwCl [(x, .inr (0, [.ref d, .ref t])), (d, .inr (1, [.ref la, .int (iz fi), .int (iz lt)])), (la, .inl (cI, 155, .inl (az f))), (t, .inr (2, [.ref ba, .int (iz n)])), (ba, .inl (cB, 1612, .inl (az g)))] H := hP
  have hD : va_D (AX x d la t ba) [(x, .inr (0, [.ref d, .ref t])), (d, .inr (1, [.ref la, .int (iz fi), .int (iz lt)])), (la, .inl (cI, 155, .inl (az f))), (t, .inr (2, [.ref ba, .int (iz n)])), (ba, .inl (cB, 1612, .inl (az g)))] := hD
  refine va_get (D := D) (ci := 2) (v := .int (iz n)) (C := R_2) (T := T_2) (N := 2) hx hb hts in_2 hown hK hP 3 rfl rfl 1 (by decide) (hts _ tw_51) (fun _ h9 => h9) rfl d_Tx_len0_1 ?_
  exact z_iret hx hb hr hlk hS (zR_st zSt_XW) ⟨by rw [htn], hw⟩ d_Tx_len0_4
theorem d_EN_refuseX_0 : decode b_EN_refuseOutOfRange 0 = .ok (.iload_n 0, 1) := by decide +kernel
theorem d_EN_refuseX_1 : decode b_EN_refuseOutOfRange 1 = .ok (.ifCond .lt (8), 3) := by decide +kernel
theorem d_EN_refuseX_4 : decode b_EN_refuseOutOfRange 4 = .ok (.iload_n 0, 1) := by decide +kernel
theorem d_EN_refuseX_5 : decode b_EN_refuseOutOfRange 5 = .ok (.iconst 2, 1) := by decide +kernel
theorem d_EN_refuseX_6 : decode b_EN_refuseOutOfRange 6 = .ok (.if_icmp .le (13), 3) := by decide +kernel
theorem d_EN_refuseX_9 : decode b_EN_refuseOutOfRange 9 = .ok (.new 55, 3) := by decide +kernel
theorem d_EN_refuseX_12 : decode b_EN_refuseOutOfRange 12 = .ok (.dup, 1) := by decide +kernel
theorem d_EN_refuseX_13 : decode b_EN_refuseOutOfRange 13 = .ok (.ldc 57, 2) := by decide +kernel
theorem d_EN_refuseX_15 : decode b_EN_refuseOutOfRange 15 = .ok (.invokespecial 59, 3) := by decide +kernel
theorem d_EN_refuseX_18 : decode b_EN_refuseOutOfRange 18 = .ok (.athrow, 1) := by decide +kernel
theorem d_EN_refuseX_19 : decode b_EN_refuseOutOfRange 19 = .ok (.iload_n 1, 1) := by decide +kernel
theorem d_EN_refuseX_20 : decode b_EN_refuseOutOfRange 20 = .ok (.ifCond .lt (10), 3) := by decide +kernel
theorem d_EN_refuseX_23 : decode b_EN_refuseOutOfRange 23 = .ok (.iload_n 1, 1) := by decide +kernel
theorem d_EN_refuseX_24 : decode b_EN_refuseOutOfRange 24 = .ok (.sipush (1200), 3) := by decide +kernel
theorem d_EN_refuseX_27 : decode b_EN_refuseOutOfRange 27 = .ok (.if_icmp .le (13), 3) := by decide +kernel
theorem d_EN_refuseX_30 : decode b_EN_refuseOutOfRange 30 = .ok (.new 55, 3) := by decide +kernel
theorem d_EN_refuseX_33 : decode b_EN_refuseOutOfRange 33 = .ok (.dup, 1) := by decide +kernel
theorem d_EN_refuseX_34 : decode b_EN_refuseOutOfRange 34 = .ok (.ldc 60, 2) := by decide +kernel
theorem d_EN_refuseX_36 : decode b_EN_refuseOutOfRange 36 = .ok (.invokespecial 59, 3) := by decide +kernel
theorem d_EN_refuseX_39 : decode b_EN_refuseOutOfRange 39 = .ok (.athrow, 1) := by decide +kernel
set_option maxHeartbeats 4000000 in
set_option maxRecDepth 100000 in
theorem c_EN_refuseX (l : Launch) (htr : ∀ e : Env, l.admits e → e.platform.stackTraces = false) (k57 k60 k46 : Nat) (kd pr : Int) (h1 : iR kd) (h2 : iR pr) (ho : kd < 0 ∨ 2 < kd ∨ pr < 0 ∨ 1200 < pr) : CtX l y_EN_refuseOutOfRange (ws_EN_refuseOutOfRange) 6 [.int (iz kd), .int (iz pr)] (XT k57 k60 k46 (fun _ => False)) cIA := by
  refine x_body zSt_XT (by decide +kernel) rfl (Nat.le_of_ble_eq_true rfl) ?_
  intro p e s m args below meth c ls hx hb hml hlk hts0 hown hout hpre0 hl
  obtain ⟨H, hH⟩ : ∃ H : Heap, H = s.heap := ⟨_, rfl⟩
  have hpre := hpre0
  rw [← hH] at hpre ⊢
  have hz : s.heap.size ≤ H.size := by rw [hH]; exact Nat.le_refl _
  have hts : ∀ w ∈ TBL, w.before args s = true := fun w hw => hts0 w (List.mem_cons_of_mem _ hw)
  have hl : lv_has ls 2 [(0, .int (iz kd)), (1, .int (iz pr))] := hl
  have hxt := hpre0
  refine lv_iload_n hx hb d_EN_refuseX_0 rfl (lv_at hl 0 rfl) ?_
  refine z_if_lt (tgt := 9) hx hb d_EN_refuseX_1 rfl h1 (fun hc1 => ?_) (fun hc1 => ?_)
  · exact x_throw (by decide) hx hb htr hown (by decide +kernel) (by decide +kernel) rfl (hxt.at hts at_IA) (hts _ tw_76) (hts _ tw_9) hxt.2.2.2.1 hz (hl.1.trans hml.symm) hout hlk d_EN_refuseX_9 d_EN_refuseX_12 d_EN_refuseX_13 d_EN_refuseX_15 d_EN_refuseX_18
  · refine lv_iload_n hx hb d_EN_refuseX_4 rfl (lv_at hl 0 rfl) ?_
    refine lv_iconst (v := iz 2) hx hb d_EN_refuseX_5 rfl ?_
    refine z_icmp_le (tgt := 19) hx hb d_EN_refuseX_6 rfl h1 ⟨by omega, by omega⟩ (fun hc6 => ?_) (fun hc6 => ?_)
    · refine lv_iload_n hx hb d_EN_refuseX_19 rfl (lv_at hl 1 rfl) ?_
      refine z_if_lt (tgt := 30) hx hb d_EN_refuseX_20 rfl h2 (fun hc20 => ?_) (fun hc20 => ?_)
      · exact x_throw (by decide) hx hb htr hown (by decide +kernel) (by decide +kernel) rfl (hxt.at hts at_IA) (hts _ tw_76) (hts _ tw_9) hxt.2.2.2.2.1 hz (hl.1.trans hml.symm) hout hlk d_EN_refuseX_30 d_EN_refuseX_33 d_EN_refuseX_34 d_EN_refuseX_36 d_EN_refuseX_39
      · refine lv_iload_n hx hb d_EN_refuseX_23 rfl (lv_at hl 1 rfl) ?_
        refine lv_sipush (v := iz 1200) hx hb d_EN_refuseX_24 (by decide) ?_
        refine z_icmp_le (tgt := 40) hx hb d_EN_refuseX_27 rfl h2 ⟨by omega, by omega⟩ (fun hc27 => ?_) (fun hc27 => ?_)
        · exfalso
          omega
        · exact x_throw (by decide) hx hb htr hown (by decide +kernel) (by decide +kernel) rfl (hxt.at hts at_IA) (hts _ tw_76) (hts _ tw_9) hxt.2.2.2.2.1 hz (hl.1.trans hml.symm) hout hlk d_EN_refuseX_30 d_EN_refuseX_33 d_EN_refuseX_34 d_EN_refuseX_36 d_EN_refuseX_39
    · exact x_throw (by decide) hx hb htr hown (by decide +kernel) (by decide +kernel) rfl (hxt.at hts at_IA) (hts _ tw_76) (hts _ tw_9) hxt.2.2.2.1 hz (hl.1.trans hml.symm) hout hlk d_EN_refuseX_9 d_EN_refuseX_12 d_EN_refuseX_13 d_EN_refuseX_15 d_EN_refuseX_18
theorem d_EN_showX_0 : decode b_EN_show 0 = .ok (.iload_n 1, 1) := by decide +kernel
theorem d_EN_showX_1 : decode b_EN_show 1 = .ok (.iload_n 2, 1) := by decide +kernel
theorem d_EN_showX_2 : decode b_EN_show 2 = .ok (.invokestatic 23, 3) := by decide +kernel
set_option maxHeartbeats 4000000 in
set_option maxRecDepth 100000 in
theorem c_EN_showX (l : Launch) (htr : ∀ e : Env, l.admits e → e.platform.stackTraces = false) (k57 k60 k46 : Nat) (x : Nat) (kd pr gr pt : Int) (B : Int64) (h1 : iR kd) (h2 : iR pr) (ho : kd < 0 ∨ 2 < kd ∨ pr < 0 ∨ 1200 < pr) : CtX l y_EN_show (ws_EN_show) 7 [.ref x, .int (iz kd), .int (iz pr), .int (iz gr), .int (iz pt), .long B] (XT k57 k60 k46 (fun _ => False)) cIA := by
  refine x_body zSt_XT (by decide +kernel) rfl (Nat.le_of_ble_eq_true rfl) ?_
  intro p e s m args below meth c ls hx hb hml hlk hts0 hown hout hpre0 hl
  obtain ⟨H, hH⟩ : ∃ H : Heap, H = s.heap := ⟨_, rfl⟩
  have hpre := hpre0
  rw [← hH] at hpre ⊢
  have hz : s.heap.size ≤ H.size := by rw [hH]; exact Nat.le_refl _
  have hts : ∀ w ∈ TBL, w.before args s = true := fun w hw => hts0 w (List.mem_cons_of_mem _ hw)
  have hl : lv_has ls 7 [(0, .ref x), (1, .int (iz kd)), (2, .int (iz pr)), (3, .int (iz gr)), (4, .int (iz pt)), (5, .long B)] := hl
  have hxt := hpre
  refine lv_iload_n hx hb d_EN_showX_0 rfl (lv_at hl 1 rfl) ?_
  refine lv_iload_n hx hb d_EN_showX_1 rfl (lv_at hl 2 rfl) ?_
  exact x_out (x_runS (rest := []) hx hb (hml.trans hl.1.symm) hown (c_EN_refuseX l htr k57 k60 k46 kd pr h1 h2 ho) (z_cwSx hts w_EN_refuseOutOfRange tw_73 (by decide)) hxt rfl rfl (Nat.le_of_ble_eq_true rfl) d_EN_showX_2 (by decide)) hout hlk
theorem d_EN_showFloatX_0 : decode b_EN_showFloat 0 = .ok (.iload_n 1, 1) := by decide +kernel
theorem d_EN_showFloatX_1 : decode b_EN_showFloat 1 = .ok (.iload_n 2, 1) := by decide +kernel
theorem d_EN_showFloatX_2 : decode b_EN_showFloat 2 = .ok (.invokestatic 23, 3) := by decide +kernel
set_option maxHeartbeats 4000000 in
set_option maxRecDepth 100000 in
theorem c_EN_showFloatX (l : Launch) (htr : ∀ e : Env, l.admits e → e.platform.stackTraces = false) (k57 k60 k46 : Nat) (x : Nat) (kd pr gr pt : Int) (B : Int32) (h1 : iR kd) (h2 : iR pr) (ho : kd < 0 ∨ 2 < kd ∨ pr < 0 ∨ 1200 < pr) : CtX l y_EN_showFloat (ws_EN_showFloat) 7 [.ref x, .int (iz kd), .int (iz pr), .int (iz gr), .int (iz pt), .int B] (XT k57 k60 k46 (fun _ => False)) cIA := by
  refine x_body zSt_XT (by decide +kernel) rfl (Nat.le_of_ble_eq_true rfl) ?_
  intro p e s m args below meth c ls hx hb hml hlk hts0 hown hout hpre0 hl
  obtain ⟨H, hH⟩ : ∃ H : Heap, H = s.heap := ⟨_, rfl⟩
  have hpre := hpre0
  rw [← hH] at hpre ⊢
  have hz : s.heap.size ≤ H.size := by rw [hH]; exact Nat.le_refl _
  have hts : ∀ w ∈ TBL, w.before args s = true := fun w hw => hts0 w (List.mem_cons_of_mem _ hw)
  have hl : lv_has ls 6 [(0, .ref x), (1, .int (iz kd)), (2, .int (iz pr)), (3, .int (iz gr)), (4, .int (iz pt)), (5, .int B)] := hl
  have hxt := hpre
  refine lv_iload_n hx hb d_EN_showFloatX_0 rfl (lv_at hl 1 rfl) ?_
  refine lv_iload_n hx hb d_EN_showFloatX_1 rfl (lv_at hl 2 rfl) ?_
  exact x_out (x_runS (rest := []) hx hb (hml.trans hl.1.symm) hown (c_EN_refuseX l htr k57 k60 k46 kd pr h1 h2 ho) (z_cwSx hts w_EN_refuseOutOfRange tw_73 (by decide)) hxt rfl rfl (Nat.le_of_ble_eq_true rfl) d_EN_showFloatX_2 (by decide)) hout hlk
theorem d_EN_wordX_0 : decode b_EN_word 0 = .ok (.iload_n 1, 1) := by decide +kernel
theorem d_EN_wordX_1 : decode b_EN_word 1 = .ok (.ifCond .lt (14), 3) := by decide +kernel
theorem d_EN_wordX_4 : decode b_EN_word 4 = .ok (.iload_n 1, 1) := by decide +kernel
theorem d_EN_wordX_5 : decode b_EN_word 5 = .ok (.aload_n 0, 1) := by decide +kernel
theorem d_EN_wordX_6 : decode b_EN_word 6 = .ok (.getfield 19, 3) := by decide +kernel
theorem d_EN_wordX_9 : decode b_EN_word 9 = .ok (.invokevirtual 40, 3) := by decide +kernel
theorem d_EN_wordX_12 : decode b_EN_word 12 = .ok (.if_icmp .lt (13), 3) := by decide +kernel
theorem d_EN_wordX_15 : decode b_EN_word 15 = .ok (.new 44, 3) := by decide +kernel
theorem d_EN_wordX_18 : decode b_EN_word 18 = .ok (.dup, 1) := by decide +kernel
theorem d_EN_wordX_19 : decode b_EN_word 19 = .ok (.ldc 46, 2) := by decide +kernel
theorem d_EN_wordX_21 : decode b_EN_word 21 = .ok (.invokespecial 48, 3) := by decide +kernel
theorem d_EN_wordX_24 : decode b_EN_word 24 = .ok (.athrow, 1) := by decide +kernel
set_option maxHeartbeats 4000000 in
set_option maxRecDepth 100000 in
theorem c_EN_wordX (l : Launch) (htr : ∀ e : Env, l.admits e → e.platform.stackTraces = false) (D : va_G) (cI cB : ClassId) (x d la t ba tt : Nat) (ad : Nat → Nat) (V : Int) (tx : List Int) (k57 k60 k46 : Nat) (i : Int) (hi : iR i) (ho : i < 0 ∨ (tx.length : Int) ≤ i) : CtX l y_EN_word (ws_EN_word) 6 [.ref x, .int (iz i)] (fun U H => XW D cI cB x d la t ba tt ad V tx U H ∧ XT k57 k60 k46 (fun _ => False) U H) cIO := by
  refine x_body (zSt_and zSt_XW zSt_XT) (by decide +kernel) rfl (Nat.le_of_ble_eq_true rfl) ?_
  intro p e s m args below meth c ls hx hb hml hlk hts0 hown hout hpre0 hl
  obtain ⟨H, hH⟩ : ∃ H : Heap, H = s.heap := ⟨_, rfl⟩
  have hpre := hpre0
  rw [← hH] at hpre ⊢
  have hz : s.heap.size ≤ H.size := by rw [hH]; exact Nat.le_refl _
  have hts : ∀ w ∈ TBL, w.before args s = true := fun w hw => hts0 w (List.mem_cons_of_mem _ hw)
  have hl : lv_has ls 2 [(0, .ref x), (1, .int (iz i))] := hl
  have hw := hpre.1
  have hxt := hpre0.2
  refine lv_iload_n hx hb d_EN_wordX_0 rfl (lv_at hl 1 rfl) ?_
  refine z_if_lt (tgt := 15) hx hb d_EN_wordX_1 rfl hi (fun hc1 => ?_) (fun hc1 => ?_)
  · exact x_throw (by decide) hx hb htr hown (by decide +kernel) (by decide +kernel) rfl (hxt.at hts at_IO) (hts _ tw_349) (hts _ tw_18) hxt.2.2.2.2.2 hz (hl.1.trans hml.symm) hout hlk d_EN_wordX_15 d_EN_wordX_18 d_EN_wordX_19 d_EN_wordX_21 d_EN_wordX_24
  · refine lv_iload_n hx hb d_EN_wordX_4 rfl (lv_at hl 1 rfl) ?_
    refine lv_aload_n hx hb d_EN_wordX_5 rfl (lv_at hl 0 rfl) ?_
    have hw9 := hw
    obtain ⟨lt, f, fi, g, n, ⟨hK, hP, hD⟩, hdec, htx, -⟩ := hw9
    have hdr := hdec.1
    have htn := htx.1
    have htl := htx.2.1
    have hP : va_P D vwCl [(x, .inr (0, [.ref d, .ref t])), (d, .inr (1, [.ref la, .int (iz fi), .int (iz lt)])), (la, .inl (cI, 155, .inl (az f))), (t, .inr (2, [.ref ba, .int (iz n)])), (ba, .inl (cB, 1612, .inl (az g)))] H := hP
    have hD : va_D (AX x d la t ba) [(x, .inr (0, [.ref d, .ref t])), (d, .inr (1, [.ref la, .int (iz fi), .int (iz lt)])), (la, .inl (cI, 155, .inl (az f))), (t, .inr (2, [.ref ba, .int (iz n)])), (ba, .inl (cB, 1612, .inl (az g)))] := hD
    refine va_get (D := D) (ci := 0) (v := .ref t) (C := R_0) (T := T_0) (N := 2) hx hb hts in_0 hown hK hP 0 rfl rfl 1 (by decide) (hts _ tw_59) (fun _ h9 => h9) rfl d_EN_wordX_6 ?_
    have hct := c_Tx_len0 l D cI cB x d la t ba tt ad V tx
    refine z_go0 (va_runV (As := []) (rest := [.int (iz i)]) ⟨hx, hb, hml, hown, hts⟩ hct.2 (z_cwV hts w_Tx_length tw_229 (by decide)) (z_preV hct.1 (va_recv hK hP (ci := 2) (q0 := 3) rfl rfl) hw) rfl rfl hl.1 rfl (lv_room (Nat.le_of_ble_eq_true rfl)) d_EN_wordX_9 ⟨Nat.zero_le _, Nat.zero_le _⟩) (fun v9 t9 H hv9 hp9 hz9 hk9 => ?_)
    have hz := Nat.le_trans hz hz9
    obtain ⟨rfl, hw⟩ := hp9
    have hw := XW.moved hv9.symm hw
    refine W.eq (g2 := F0 m 12 ls [.int (iz (tx.length : Int)), .int (iz i)]) rfl ?_
    refine z_icmp_lt (tgt := 25) hx hb d_EN_wordX_12 rfl hi ⟨by omega, by omega⟩ (fun hc12 => ?_) (fun hc12 => ?_)
    · exfalso
      omega
    · exact x_throw (by decide) hx hb htr hown (by decide +kernel) (by decide +kernel) rfl (hxt.at hts at_IO) (hts _ tw_349) (hts _ tw_18) hxt.2.2.2.2.2 hz (hl.1.trans hml.symm) hout hlk d_EN_wordX_15 d_EN_wordX_18 d_EN_wordX_19 d_EN_wordX_21 d_EN_wordX_24
