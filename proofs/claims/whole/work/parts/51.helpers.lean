theorem d_Lw_show_0 : decode b_Lw_show 0 = .ok (.aload 7, 2) := by decide +kernel
theorem d_Lw_show_2 : decode b_Lw_show 2 = .ok (.iconst 0, 1) := by decide +kernel
theorem d_Lw_show_3 : decode b_Lw_show 3 = .ok (.aload_n 0, 1) := by decide +kernel
theorem d_Lw_show_4 : decode b_Lw_show 4 = .ok (.iload_n 1, 1) := by decide +kernel
theorem d_Lw_show_5 : decode b_Lw_show 5 = .ok (.iload_n 2, 1) := by decide +kernel
theorem d_Lw_show_6 : decode b_Lw_show 6 = .ok (.iload_n 3, 1) := by decide +kernel
theorem d_Lw_show_7 : decode b_Lw_show 7 = .ok (.iload 4, 2) := by decide +kernel
theorem d_Lw_show_9 : decode b_Lw_show 9 = .ok (.lload 5, 2) := by decide +kernel
theorem d_Lw_show_11 : decode b_Lw_show 11 = .ok (.invokevirtual 7, 3) := by decide +kernel
theorem d_Lw_show_14 : decode b_Lw_show 14 = .ok (.i2l, 1) := by decide +kernel
theorem d_Lw_show_15 : decode b_Lw_show 15 = .ok (.lastore, 1) := by decide +kernel
theorem d_Lw_show_16 : decode b_Lw_show 16 = .ok (.goto (7), 3) := by decide +kernel
theorem d_Lw_show_19 : decode b_Lw_show 19 = .ok (.astore 8, 2) := by decide +kernel
theorem d_Lw_show_21 : decode b_Lw_show 21 = .ok (.iconst 1, 1) := by decide +kernel
theorem d_Lw_show_22 : decode b_Lw_show 22 = .ok (.ireturn, 1) := by decide +kernel
theorem d_Lw_show_23 : decode b_Lw_show 23 = .ok (.iconst 0, 1) := by decide +kernel
theorem d_Lw_show_24 : decode b_Lw_show 24 = .ok (.ireturn, 1) := by decide +kernel
abbrev wsL_show : List Cond := Cond.codeWith y_Lw_show b_Lw_show 9 (some .int) [(0, 16, 19, 13)] :: TBL
set_option maxHeartbeats 1000000 in
theorem h_show (l : Launch) (D : va_G) (cI cB cL : ClassId) (x d la t ba tt : Nat) (ad : Nat → Nat) (ou : Nat) (tx : List Int) (g : Int → Int) (kI vI kN vN : Nat) (kd : Int) (pr : Nat) (gr pt : Int) (B : Int64) (hkd : 0 ≤ kd ∧ kd ≤ 2) (hpr : pr ≤ 1200) (hgr : gr = 0 ∨ gr = 1) (hpt : pt = 0 ∨ pt = 1) : CtL l y_Lw_show wsL_show 8 (AHx x d la t ba ou) [.ref x, .int (iz kd), .int (iz (pr : Int)), .int (iz gr), .int (iz pt), .long B, .ref ou] (fun U H => LWd D cI cB cL x d la t ba tt ad ou tx g U H ∧ SX (AX x d la t ba) kI vI kN vN U H) (zR (some (.int (iz 0))) (LWd D cI cB cL x d la t ba tt ad ou (outT 52 2047 (-1074) kd pr gr pt B) (up g 0 ((outT 52 2047 (-1074) kd pr gr pt B).length : Int)))) := by
  refine l_body (h1 := 0) (h2 := 16) (h3 := 19) (h4 := 13) (zSt_and zSt_LWd zSt_SX) (by decide +kernel) rfl (Nat.le_of_ble_eq_true rfl) ?_
  intro p e s m args below meth c ls hx hb hml hr hlk hts0 hown htab hpre hl
  have hts : ∀ w ∈ TBL, w.before args s = true := fun w hw => hts0 w (List.mem_cons_of_mem _ hw)
  have hl : lv_has ls 9 [(0, .ref x), (1, .int (iz kd)), (2, .int (iz (pr : Int))), (3, .int (iz gr)), (4, .int (iz pt)), (5, .long B), (7, .ref ou)] := hl
  have hS : va_S (AHx x d la t ba ou) s.heap s.heap [] := va_S.rf
  obtain ⟨hw, ho, hne, hst⟩ := hpre.1
  refine l_widen (k9 := 1) (n9 := 6) (Nat.zero_le _) (Nat.zero_le _) ?_
  refine lv_aload hx hb d_Lw_show_0 (lv_at hl 6 rfl) ?_
  refine lv_iconst (v := iz 0) hx hb d_Lw_show_2 rfl ?_
  refine lv_aload_n hx hb d_Lw_show_3 rfl (lv_at hl 0 rfl) ?_
  refine lv_iload_n hx hb d_Lw_show_4 rfl (lv_at hl 1 rfl) ?_
  refine lv_iload_n hx hb d_Lw_show_5 rfl (lv_at hl 2 rfl) ?_
  refine lv_iload_n hx hb d_Lw_show_6 rfl (lv_at hl 3 rfl) ?_
  refine lv_iload hx hb d_Lw_show_7 (lv_at hl 4 rfl) ?_
  refine lv_lload hx hb d_Lw_show_9 (lv_at hl 5 rfl) ?_
  have hct := k_show l D cI cB x d la t ba tt ad tx kI vI kN vN kd pr gr pt B hkd hpr hgr hpt
  refine z_go (va_runV (As := [.int (iz kd), .int (iz (pr : Int)), .int (iz gr), .int (iz pt), .long B]) (rest := [.int (iz 0), .ref ou]) ⟨hx, hb, hml, hown, hts⟩ hct.2 (z_cwV hts w_EN_show tw_69 (by decide)) (z_preV hct.1 hw.recv ⟨hw, hpre.2⟩) rfl rfl hl.1 rfl (lv_room (Nat.le_of_ble_eq_true rfl)) d_Lw_show_11 (by decide)) hS (fun q h => Or.inl h) (fun v9 t9 H locs hv9 hp9 hz9 hk9 hS => ?_)
  obtain ⟨rfl, hw⟩ := hp9
  have hw := zSa_XO _ s _ hv9.symm hw
  have ho := ho.kept (hk9 ou ho.lt hne)
  refine W.eq (g2 := F0 m 14 ls [.int (iz ((outT 52 2047 (-1074) kd pr gr pt B).length : Int)), .int (iz 0), .ref ou]) rfl ?_
  have hlen := hw.len
  refine z_i2l hx hb d_Lw_show_14 ⟨by omega, by omega⟩ ?_
  refine l_last hx hb hw ho hne hst hS d_Lw_show_15 (fun H locs hw hS => ?_)
  refine lv_goto (tgt := 23) hx hb d_Lw_show_16 rfl ?_
  refine lv_iconst (v := iz 0) hx hb d_Lw_show_23 rfl ?_
  exact z_iret hx hb hr hlk hS (zR_st zSt_LWd) ⟨rfl, hw⟩ d_Lw_show_24
set_option maxHeartbeats 1000000 in
theorem h_showX (l : Launch) (htr : ∀ e : Env, l.admits e → e.platform.stackTraces = false) (D : va_G) (cI cB cL : ClassId) (x d la t ba tt : Nat) (ad : Nat → Nat) (ou : Nat) (tx : List Int) (g : Int → Int) (k57 k60 k46 : Nat) (kd pr gr pt : Int) (B : Int64) (h1 : iR kd) (h2 : iR pr) (ho : kd < 0 ∨ 2 < kd ∨ pr < 0 ∨ 1200 < pr) : CtL l y_Lw_show wsL_show 8 (AHx x d la t ba ou) [.ref x, .int (iz kd), .int (iz pr), .int (iz gr), .int (iz pt), .long B, .ref ou] (fun U H => LWd D cI cB cL x d la t ba tt ad ou tx g U H ∧ XT k57 k60 k46 (fun _ => False) U H) (zR (some (.int (iz 1))) (LWd D cI cB cL x d la t ba tt ad ou tx g)) := by
  refine l_body (h1 := 0) (h2 := 16) (h3 := 19) (h4 := 13) (zSt_and zSt_LWd zSt_XT) (by decide +kernel) rfl (Nat.le_of_ble_eq_true rfl) ?_
  intro p e s m args below meth c ls hx hb hml hr hlk hts0 hown htab hpre hl
  have hts : ∀ w ∈ TBL, w.before args s = true := fun w hw => hts0 w (List.mem_cons_of_mem _ hw)
  have hl : lv_has ls 9 [(0, .ref x), (1, .int (iz kd)), (2, .int (iz pr)), (3, .int (iz gr)), (4, .int (iz pt)), (5, .long B), (7, .ref ou)] := hl
  have hS : va_S (AHx x d la t ba ou) s.heap s.heap [] := va_S.rf
  refine lv_aload hx hb d_Lw_show_0 (lv_at hl 6 rfl) ?_
  refine lv_iconst (v := iz 0) hx hb d_Lw_show_2 rfl ?_
  refine lv_aload_n hx hb d_Lw_show_3 rfl (lv_at hl 0 rfl) ?_
  refine lv_iload_n hx hb d_Lw_show_4 rfl (lv_at hl 1 rfl) ?_
  refine lv_iload_n hx hb d_Lw_show_5 rfl (lv_at hl 2 rfl) ?_
  refine lv_iload_n hx hb d_Lw_show_6 rfl (lv_at hl 3 rfl) ?_
  refine lv_iload hx hb d_Lw_show_7 (lv_at hl 4 rfl) ?_
  refine lv_lload hx hb d_Lw_show_9 (lv_at hl 5 rfl) ?_
  have hrun := x_runV (R := zrx 8) (e := e) (below := below) (meth := meth) (locs := []) (cells := 0) (slots := 0) (st0 := ([.int (iz kd), .int (iz pr), .int (iz gr), .int (iz pt), .long B].reverse ++ .ref x :: [.int (iz 0), .ref ou])) (rest := [.int (iz 0), .ref ou]) hx hb (hml.trans hl.1.symm) hown (c_EN_showX l htr k57 k60 k46 x kd pr gr pt B h1 h2 ho) (z_cwVx hts w_EN_show tw_69 (by decide)) hpre.1.1.recv hpre.2 rfl rfl (Nat.le_of_ble_eq_true rfl) d_Lw_show_11 (by decide)
  obtain ⟨xe, htab, hx1, hx2, hx3, hx4⟩ := htab
  refine x_catch (E := cIA) hrun hown htab (by simp [covers, hx1, hx2]) (by rw [hx4]; decide) (by rw [hx4]; exact hts _ tw_68) (va_Nw.use rfl (hpre.2.2.2.1 _ (by simp [xSp]))) (fun q9 H hz9 hk9 => ?_)
  rw [hx3]
  have hw := hpre.1.all hk9
  have hS : va_S (AHx x d la t ba ou) s.heap H [] := ⟨hz9, fun q h1 _ => hk9 q h1, fun _ h => by cases h⟩
  refine lv_astore hx hb d_Lw_show_19 hl (by decide) rfl (fun ls hl => ?_)
  refine lv_iconst (v := iz 1) hx hb d_Lw_show_21 rfl ?_
  exact z_iret hx hb hr hlk hS (zR_st zSt_LWd) ⟨rfl, hw⟩ d_Lw_show_22
theorem d_Lw_showFloat_0 : decode b_Lw_showFloat 0 = .ok (.aload 6, 2) := by decide +kernel
theorem d_Lw_showFloat_2 : decode b_Lw_showFloat 2 = .ok (.iconst 0, 1) := by decide +kernel
theorem d_Lw_showFloat_3 : decode b_Lw_showFloat 3 = .ok (.aload_n 0, 1) := by decide +kernel
theorem d_Lw_showFloat_4 : decode b_Lw_showFloat 4 = .ok (.iload_n 1, 1) := by decide +kernel
theorem d_Lw_showFloat_5 : decode b_Lw_showFloat 5 = .ok (.iload_n 2, 1) := by decide +kernel
theorem d_Lw_showFloat_6 : decode b_Lw_showFloat 6 = .ok (.iload_n 3, 1) := by decide +kernel
theorem d_Lw_showFloat_7 : decode b_Lw_showFloat 7 = .ok (.iload 4, 2) := by decide +kernel
theorem d_Lw_showFloat_9 : decode b_Lw_showFloat 9 = .ok (.iload 5, 2) := by decide +kernel
theorem d_Lw_showFloat_11 : decode b_Lw_showFloat 11 = .ok (.invokevirtual 15, 3) := by decide +kernel
theorem d_Lw_showFloat_14 : decode b_Lw_showFloat 14 = .ok (.i2l, 1) := by decide +kernel
theorem d_Lw_showFloat_15 : decode b_Lw_showFloat 15 = .ok (.lastore, 1) := by decide +kernel
theorem d_Lw_showFloat_16 : decode b_Lw_showFloat 16 = .ok (.goto (7), 3) := by decide +kernel
theorem d_Lw_showFloat_19 : decode b_Lw_showFloat 19 = .ok (.astore 7, 2) := by decide +kernel
theorem d_Lw_showFloat_21 : decode b_Lw_showFloat 21 = .ok (.iconst 1, 1) := by decide +kernel
theorem d_Lw_showFloat_22 : decode b_Lw_showFloat 22 = .ok (.ireturn, 1) := by decide +kernel
theorem d_Lw_showFloat_23 : decode b_Lw_showFloat 23 = .ok (.iconst 0, 1) := by decide +kernel
theorem d_Lw_showFloat_24 : decode b_Lw_showFloat 24 = .ok (.ireturn, 1) := by decide +kernel
abbrev wsL_showFloat : List Cond := Cond.codeWith y_Lw_showFloat b_Lw_showFloat 8 (some .int) [(0, 16, 19, 13)] :: TBL
set_option maxHeartbeats 1000000 in
theorem h_showFloat (l : Launch) (D : va_G) (cI cB cL : ClassId) (x d la t ba tt : Nat) (ad : Nat → Nat) (ou : Nat) (tx : List Int) (g : Int → Int) (kI vI kN vN : Nat) (kd : Int) (pr : Nat) (gr pt : Int) (B : Int32) (hkd : 0 ≤ kd ∧ kd ≤ 2) (hpr : pr ≤ 1200) (hgr : gr = 0 ∨ gr = 1) (hpt : pt = 0 ∨ pt = 1) : CtL l y_Lw_showFloat wsL_showFloat 8 (AHx x d la t ba ou) [.ref x, .int (iz kd), .int (iz (pr : Int)), .int (iz gr), .int (iz pt), .int B, .ref ou] (fun U H => LWd D cI cB cL x d la t ba tt ad ou tx g U H ∧ SX (AX x d la t ba) kI vI kN vN U H) (zR (some (.int (iz 0))) (LWd D cI cB cL x d la t ba tt ad ou (outT 23 255 (-149) kd pr gr pt B.toInt64) (up g 0 ((outT 23 255 (-149) kd pr gr pt B.toInt64).length : Int)))) := by
  refine l_body (h1 := 0) (h2 := 16) (h3 := 19) (h4 := 13) (zSt_and zSt_LWd zSt_SX) (by decide +kernel) rfl (Nat.le_of_ble_eq_true rfl) ?_
  intro p e s m args below meth c ls hx hb hml hr hlk hts0 hown htab hpre hl
  have hts : ∀ w ∈ TBL, w.before args s = true := fun w hw => hts0 w (List.mem_cons_of_mem _ hw)
  have hl : lv_has ls 8 [(0, .ref x), (1, .int (iz kd)), (2, .int (iz (pr : Int))), (3, .int (iz gr)), (4, .int (iz pt)), (5, .int B), (6, .ref ou)] := hl
  have hS : va_S (AHx x d la t ba ou) s.heap s.heap [] := va_S.rf
  obtain ⟨hw, ho, hne, hst⟩ := hpre.1
  refine l_widen (k9 := 1) (n9 := 6) (Nat.zero_le _) (Nat.zero_le _) ?_
  refine lv_aload hx hb d_Lw_showFloat_0 (lv_at hl 6 rfl) ?_
  refine lv_iconst (v := iz 0) hx hb d_Lw_showFloat_2 rfl ?_
  refine lv_aload_n hx hb d_Lw_showFloat_3 rfl (lv_at hl 0 rfl) ?_
  refine lv_iload_n hx hb d_Lw_showFloat_4 rfl (lv_at hl 1 rfl) ?_
  refine lv_iload_n hx hb d_Lw_showFloat_5 rfl (lv_at hl 2 rfl) ?_
  refine lv_iload_n hx hb d_Lw_showFloat_6 rfl (lv_at hl 3 rfl) ?_
  refine lv_iload hx hb d_Lw_showFloat_7 (lv_at hl 4 rfl) ?_
  refine lv_iload hx hb d_Lw_showFloat_9 (lv_at hl 5 rfl) ?_
  have hct := k_showFloat l D cI cB x d la t ba tt ad tx kI vI kN vN kd pr gr pt B hkd hpr hgr hpt
  refine z_go (va_runV (As := [.int (iz kd), .int (iz (pr : Int)), .int (iz gr), .int (iz pt), .int B]) (rest := [.int (iz 0), .ref ou]) ⟨hx, hb, hml, hown, hts⟩ hct.2 (z_cwV hts w_EN_showFloat tw_335 (by decide)) (z_preV hct.1 hw.recv ⟨hw, hpre.2⟩) rfl rfl hl.1 rfl (lv_room (Nat.le_of_ble_eq_true rfl)) d_Lw_showFloat_11 (by decide)) hS (fun q h => Or.inl h) (fun v9 t9 H locs hv9 hp9 hz9 hk9 hS => ?_)
  obtain ⟨rfl, hw⟩ := hp9
  have hw := zSa_XO _ s _ hv9.symm hw
  have ho := ho.kept (hk9 ou ho.lt hne)
  refine W.eq (g2 := F0 m 14 ls [.int (iz ((outT 23 255 (-149) kd pr gr pt B.toInt64).length : Int)), .int (iz 0), .ref ou]) rfl ?_
  have hlen := hw.len
  refine z_i2l hx hb d_Lw_showFloat_14 ⟨by omega, by omega⟩ ?_
  refine l_last hx hb hw ho hne hst hS d_Lw_showFloat_15 (fun H locs hw hS => ?_)
  refine lv_goto (tgt := 23) hx hb d_Lw_showFloat_16 rfl ?_
  refine lv_iconst (v := iz 0) hx hb d_Lw_showFloat_23 rfl ?_
  exact z_iret hx hb hr hlk hS (zR_st zSt_LWd) ⟨rfl, hw⟩ d_Lw_showFloat_24
set_option maxHeartbeats 1000000 in
theorem h_showFloatX (l : Launch) (htr : ∀ e : Env, l.admits e → e.platform.stackTraces = false) (D : va_G) (cI cB cL : ClassId) (x d la t ba tt : Nat) (ad : Nat → Nat) (ou : Nat) (tx : List Int) (g : Int → Int) (k57 k60 k46 : Nat) (kd pr gr pt : Int) (B : Int32) (h1 : iR kd) (h2 : iR pr) (ho : kd < 0 ∨ 2 < kd ∨ pr < 0 ∨ 1200 < pr) : CtL l y_Lw_showFloat wsL_showFloat 8 (AHx x d la t ba ou) [.ref x, .int (iz kd), .int (iz pr), .int (iz gr), .int (iz pt), .int B, .ref ou] (fun U H => LWd D cI cB cL x d la t ba tt ad ou tx g U H ∧ XT k57 k60 k46 (fun _ => False) U H) (zR (some (.int (iz 1))) (LWd D cI cB cL x d la t ba tt ad ou tx g)) := by
  refine l_body (h1 := 0) (h2 := 16) (h3 := 19) (h4 := 13) (zSt_and zSt_LWd zSt_XT) (by decide +kernel) rfl (Nat.le_of_ble_eq_true rfl) ?_
  intro p e s m args below meth c ls hx hb hml hr hlk hts0 hown htab hpre hl
  have hts : ∀ w ∈ TBL, w.before args s = true := fun w hw => hts0 w (List.mem_cons_of_mem _ hw)
  have hl : lv_has ls 8 [(0, .ref x), (1, .int (iz kd)), (2, .int (iz pr)), (3, .int (iz gr)), (4, .int (iz pt)), (5, .int B), (6, .ref ou)] := hl
  have hS : va_S (AHx x d la t ba ou) s.heap s.heap [] := va_S.rf
  refine lv_aload hx hb d_Lw_showFloat_0 (lv_at hl 6 rfl) ?_
  refine lv_iconst (v := iz 0) hx hb d_Lw_showFloat_2 rfl ?_
  refine lv_aload_n hx hb d_Lw_showFloat_3 rfl (lv_at hl 0 rfl) ?_
  refine lv_iload_n hx hb d_Lw_showFloat_4 rfl (lv_at hl 1 rfl) ?_
  refine lv_iload_n hx hb d_Lw_showFloat_5 rfl (lv_at hl 2 rfl) ?_
  refine lv_iload_n hx hb d_Lw_showFloat_6 rfl (lv_at hl 3 rfl) ?_
  refine lv_iload hx hb d_Lw_showFloat_7 (lv_at hl 4 rfl) ?_
  refine lv_iload hx hb d_Lw_showFloat_9 (lv_at hl 5 rfl) ?_
  have hrun := x_runV (R := zrx 8) (e := e) (below := below) (meth := meth) (locs := []) (cells := 0) (slots := 0) (st0 := ([.int (iz kd), .int (iz pr), .int (iz gr), .int (iz pt), .int B].reverse ++ .ref x :: [.int (iz 0), .ref ou])) (rest := [.int (iz 0), .ref ou]) hx hb (hml.trans hl.1.symm) hown (c_EN_showFloatX l htr k57 k60 k46 x kd pr gr pt B h1 h2 ho) (z_cwVx hts w_EN_showFloat tw_335 (by decide)) hpre.1.1.recv hpre.2 rfl rfl (Nat.le_of_ble_eq_true rfl) d_Lw_showFloat_11 (by decide)
  obtain ⟨xe, htab, hx1, hx2, hx3, hx4⟩ := htab
  refine x_catch (E := cIA) hrun hown htab (by simp [covers, hx1, hx2]) (by rw [hx4]; decide) (by rw [hx4]; exact hts _ tw_68) (va_Nw.use rfl (hpre.2.2.2.1 _ (by simp [xSp]))) (fun q9 H hz9 hk9 => ?_)
  rw [hx3]
  have hw := hpre.1.all hk9
  have hS : va_S (AHx x d la t ba ou) s.heap H [] := ⟨hz9, fun q h1 _ => hk9 q h1, fun _ h => by cases h⟩
  refine lv_astore hx hb d_Lw_showFloat_19 hl (by decide) rfl (fun ls hl => ?_)
  refine lv_iconst (v := iz 1) hx hb d_Lw_showFloat_21 rfl ?_
  exact z_iret hx hb hr hlk hS (zR_st zSt_LWd) ⟨rfl, hw⟩ d_Lw_showFloat_22
theorem d_Lw_word_0 : decode b_Lw_word 0 = .ok (.aload_n 2, 1) := by decide +kernel
theorem d_Lw_word_1 : decode b_Lw_word 1 = .ok (.iconst 0, 1) := by decide +kernel
theorem d_Lw_word_2 : decode b_Lw_word 2 = .ok (.aload_n 0, 1) := by decide +kernel
theorem d_Lw_word_3 : decode b_Lw_word 3 = .ok (.iload_n 1, 1) := by decide +kernel
theorem d_Lw_word_4 : decode b_Lw_word 4 = .ok (.invokevirtual 19, 3) := by decide +kernel
theorem d_Lw_word_7 : decode b_Lw_word 7 = .ok (.lastore, 1) := by decide +kernel
theorem d_Lw_word_8 : decode b_Lw_word 8 = .ok (.goto (6), 3) := by decide +kernel
theorem d_Lw_word_11 : decode b_Lw_word 11 = .ok (.astore_n 3, 1) := by decide +kernel
theorem d_Lw_word_12 : decode b_Lw_word 12 = .ok (.iconst 1, 1) := by decide +kernel
theorem d_Lw_word_13 : decode b_Lw_word 13 = .ok (.ireturn, 1) := by decide +kernel
theorem d_Lw_word_14 : decode b_Lw_word 14 = .ok (.iconst 0, 1) := by decide +kernel
theorem d_Lw_word_15 : decode b_Lw_word 15 = .ok (.ireturn, 1) := by decide +kernel
abbrev wsL_word : List Cond := Cond.codeWith y_Lw_word b_Lw_word 4 (some .int) [(0, 8, 11, 23)] :: TBL
set_option maxHeartbeats 1000000 in
theorem h_word (l : Launch) (D : va_G) (cI cB cL : ClassId) (x d la t ba tt : Nat) (ad : Nat → Nat) (ou : Nat) (tx : List Int) (g : Int → Int) (st : Nat) (hst9 : st < tx.length) : CtL l y_Lw_word wsL_word 8 (AHx x d la t ba ou) [.ref x, .int (iz (st : Int)), .ref ou] (LWd D cI cB cL x d la t ba tt ad ou tx g) (zR (some (.int (iz 0))) (LWd D cI cB cL x d la t ba tt ad ou tx (up g 0 (w8 tx st 8)))) := by
  refine l_body (h1 := 0) (h2 := 8) (h3 := 11) (h4 := 23) zSt_LWd (by decide +kernel) rfl (Nat.le_of_ble_eq_true rfl) ?_
  intro p e s m args below meth c ls hx hb hml hr hlk hts0 hown htab hpre hl
  have hts : ∀ w ∈ TBL, w.before args s = true := fun w hw => hts0 w (List.mem_cons_of_mem _ hw)
  have hl : lv_has ls 4 [(0, .ref x), (1, .int (iz (st : Int))), (2, .ref ou)] := hl
  have hS : va_S (AHx x d la t ba ou) s.heap s.heap [] := va_S.rf
  obtain ⟨hw, ho, hne, hst⟩ := hpre
  refine l_widen (k9 := 1) (n9 := 6) (Nat.zero_le _) (Nat.zero_le _) ?_
  refine lv_aload_n hx hb d_Lw_word_0 rfl (lv_at hl 2 rfl) ?_
  refine lv_iconst (v := iz 0) hx hb d_Lw_word_1 rfl ?_
  refine lv_aload_n hx hb d_Lw_word_2 rfl (lv_at hl 0 rfl) ?_
  refine lv_iload_n hx hb d_Lw_word_3 rfl (lv_at hl 1 rfl) ?_
  have hct := k_word l D cI cB x d la t ba tt ad tx st hst9
  refine z_go (va_runV (As := [.int (iz (st : Int))]) (rest := [.int (iz 0), .ref ou]) ⟨hx, hb, hml, hown, hts⟩ hct.2 (z_cwV hts w_EN_word tw_345 (by decide)) (z_preV hct.1 hw.recv hw) rfl rfl hl.1 rfl (lv_room (Nat.le_of_ble_eq_true rfl)) d_Lw_word_4 (by decide)) hS (fun q h => Or.inl h) (fun v9 t9 H locs hv9 hp9 hz9 hk9 hS => ?_)
  obtain ⟨rfl, hw⟩ := hp9
  have hw := zSa_XO _ s _ hv9.symm hw
  have ho := ho.kept (hk9 ou ho.lt hne)
  refine W.eq (g2 := F0 m 7 ls [.long (lz (w8 tx st 8)), .int (iz 0), .ref ou]) rfl ?_
  refine l_last hx hb hw ho hne hst hS d_Lw_word_7 (fun H locs hw hS => ?_)
  refine lv_goto (tgt := 14) hx hb d_Lw_word_8 rfl ?_
  refine lv_iconst (v := iz 0) hx hb d_Lw_word_14 rfl ?_
  exact z_iret hx hb hr hlk hS (zR_st zSt_LWd) ⟨rfl, hw⟩ d_Lw_word_15
set_option maxHeartbeats 1000000 in
theorem h_wordX (l : Launch) (htr : ∀ e : Env, l.admits e → e.platform.stackTraces = false) (D : va_G) (cI cB cL : ClassId) (x d la t ba tt : Nat) (ad : Nat → Nat) (ou : Nat) (tx : List Int) (g : Int → Int) (k57 k60 k46 : Nat) (i : Int) (hi : iR i) (ho : i < 0 ∨ (tx.length : Int) ≤ i) : CtL l y_Lw_word wsL_word 8 (AHx x d la t ba ou) [.ref x, .int (iz i), .ref ou] (fun U H => LWd D cI cB cL x d la t ba tt ad ou tx g U H ∧ XT k57 k60 k46 (fun _ => False) U H) (zR (some (.int (iz 1))) (LWd D cI cB cL x d la t ba tt ad ou tx g)) := by
  refine l_body (h1 := 0) (h2 := 8) (h3 := 11) (h4 := 23) (zSt_and zSt_LWd zSt_XT) (by decide +kernel) rfl (Nat.le_of_ble_eq_true rfl) ?_
  intro p e s m args below meth c ls hx hb hml hr hlk hts0 hown htab hpre hl
  have hts : ∀ w ∈ TBL, w.before args s = true := fun w hw => hts0 w (List.mem_cons_of_mem _ hw)
  have hl : lv_has ls 4 [(0, .ref x), (1, .int (iz i)), (2, .ref ou)] := hl
  have hS : va_S (AHx x d la t ba ou) s.heap s.heap [] := va_S.rf
  refine lv_aload_n hx hb d_Lw_word_0 rfl (lv_at hl 2 rfl) ?_
  refine lv_iconst (v := iz 0) hx hb d_Lw_word_1 rfl ?_
  refine lv_aload_n hx hb d_Lw_word_2 rfl (lv_at hl 0 rfl) ?_
  refine lv_iload_n hx hb d_Lw_word_3 rfl (lv_at hl 1 rfl) ?_
  have hrun := x_runV (R := zrx 8) (e := e) (below := below) (meth := meth) (locs := []) (cells := 0) (slots := 0) (st0 := ([.int (iz i)].reverse ++ .ref x :: [.int (iz 0), .ref ou])) (rest := [.int (iz 0), .ref ou]) hx hb (hml.trans hl.1.symm) hown (k_wordX l htr D cI cB x d la t ba tt ad tx k57 k60 k46 i hi ho) (z_cwVx hts w_EN_word tw_345 (by decide)) hpre.1.1.recv ⟨hpre.1.1, hpre.2⟩ rfl rfl (Nat.le_of_ble_eq_true rfl) d_Lw_word_4 (by decide)
  obtain ⟨xe, htab, hx1, hx2, hx3, hx4⟩ := htab
  refine x_catch (E := cIO) hrun hown htab (by simp [covers, hx1, hx2]) (by rw [hx4]; decide) (by rw [hx4]; exact hts _ tw_344) (va_Nw.use rfl (hpre.2.2.2.1 _ (by simp [xSp]))) (fun q9 H hz9 hk9 => ?_)
  rw [hx3]
  have hw := hpre.1.all hk9
  have hS : va_S (AHx x d la t ba ou) s.heap H [] := ⟨hz9, fun q h1 _ => hk9 q h1, fun _ h => by cases h⟩
  refine lv_astore_n hx hb d_Lw_word_11 rfl hl (by decide) rfl (fun ls hl => ?_)
  refine lv_iconst (v := iz 1) hx hb d_Lw_word_12 rfl ?_
  exact z_iret hx hb hr hlk hS (zR_st zSt_LWd) ⟨rfl, hw⟩ d_Lw_word_13
