theorem d_Fm_exp0_0 : decode b_Fm_exponent 0 = .ok (.lload_n 1, 1) := by decide +kernel
theorem d_Fm_exp0_1 : decode b_Fm_exponent 1 = .ok (.aload_n 0, 1) := by decide +kernel
theorem d_Fm_exp0_2 : decode b_Fm_exponent 2 = .ok (.getfield 29, 3) := by decide +kernel
theorem d_Fm_exp0_5 : decode b_Fm_exponent 5 = .ok (.lushr, 1) := by decide +kernel
theorem d_Fm_exp0_6 : decode b_Fm_exponent 6 = .ok (.l2i, 1) := by decide +kernel
theorem d_Fm_exp0_7 : decode b_Fm_exponent 7 = .ok (.aload_n 0, 1) := by decide +kernel
theorem d_Fm_exp0_8 : decode b_Fm_exponent 8 = .ok (.getfield 33, 3) := by decide +kernel
theorem d_Fm_exp0_11 : decode b_Fm_exponent 11 = .ok (.iand, 1) := by decide +kernel
theorem d_Fm_exp0_12 : decode b_Fm_exponent 12 = .ok (.ireturn, 1) := by decide +kernel
set_option maxHeartbeats 4000000 in
set_option maxRecDepth 100000 in
theorem c_Fm_exp0 (l : Launch) (D : va_G) (cI cB : ClassId) (x d la t ba tt : Nat) (ad : Nat → Nat) (V : Int) (tx : List Int) (B : Int64) : Ct l y_Fm_exponent (ws_Fm_exponent) 0 (AX x d la t ba) [.ref (ad 0), .long B] (XW D cI cB x d la t ba tt ad V tx) (zR (some (.int (iz (exB 52 2048 B)))) (XW D cI cB x d la t ba tt ad V tx)) := by
  refine z_body zSt_XW (by decide +kernel) rfl (Nat.le_of_ble_eq_true rfl) ?_
  intro p e s m args below meth c ls hx hb hml hr hlk hts0 hown hpre0 H locs hpre hS hl
  have hts : ∀ w ∈ TBL, w.before args s = true := fun w hw => hts0 w (List.mem_cons_of_mem _ hw)
  have hl : lv_has ls 3 [(0, .ref (ad 0)), (1, .long B)] := hl
  have hw := hpre
  have hst0 := hpre0.st
  refine lv_lload_n hx hb d_Fm_exp0_0 rfl (lv_at hl 1 rfl) ?_
  refine lv_aload_n hx hb d_Fm_exp0_1 rfl (lv_at hl 0 rfl) ?_
  refine va_getE hx hb hst0.2.2 (i := 0) (by decide) hS hown (List.mem_of_getElem? (i := 0) rfl) (hts _ tw_532) (fun _ h9 => h9) d_Fm_exp0_2 ?_
  refine z_topi (y := iz (52)) (by decide) ?_
  refine lv_lushr hx hb d_Fm_exp0_5 rfl ?_
  refine lv_l2i hx hb d_Fm_exp0_6 rfl ?_
  refine lv_aload_n hx hb d_Fm_exp0_7 rfl (lv_at hl 0 rfl) ?_
  refine va_getE hx hb hst0.2.2 (i := 0) (by decide) hS hown (List.mem_of_getElem? (i := 1) rfl) (hts _ tw_533) (fun _ h9 => h9) d_Fm_exp0_8 ?_
  refine z_topi (y := iz (2047)) (by decide) ?_
  refine lv_iand hx hb d_Fm_exp0_11 ?_
  exact z_iret hx hb hr hlk hS (zR_st zSt_XW) ⟨by rw [exB_eq0], hw⟩ d_Fm_exp0_12
theorem d_Fm_fr0_0 : decode b_Fm_fraction 0 = .ok (.lload_n 1, 1) := by decide +kernel
theorem d_Fm_fr0_1 : decode b_Fm_fraction 1 = .ok (.lconst 1, 1) := by decide +kernel
theorem d_Fm_fr0_2 : decode b_Fm_fraction 2 = .ok (.aload_n 0, 1) := by decide +kernel
theorem d_Fm_fr0_3 : decode b_Fm_fraction 3 = .ok (.getfield 29, 3) := by decide +kernel
theorem d_Fm_fr0_6 : decode b_Fm_fraction 6 = .ok (.lshl, 1) := by decide +kernel
theorem d_Fm_fr0_7 : decode b_Fm_fraction 7 = .ok (.lconst 1, 1) := by decide +kernel
theorem d_Fm_fr0_8 : decode b_Fm_fraction 8 = .ok (.lsub, 1) := by decide +kernel
theorem d_Fm_fr0_9 : decode b_Fm_fraction 9 = .ok (.land, 1) := by decide +kernel
theorem d_Fm_fr0_10 : decode b_Fm_fraction 10 = .ok (.lreturn, 1) := by decide +kernel
set_option maxHeartbeats 4000000 in
set_option maxRecDepth 100000 in
theorem c_Fm_fr0 (l : Launch) (D : va_G) (cI cB : ClassId) (x d la t ba tt : Nat) (ad : Nat → Nat) (V : Int) (tx : List Int) (B : Int64) : Ct l y_Fm_fraction (ws_Fm_fraction) 0 (AX x d la t ba) [.ref (ad 0), .long B] (XW D cI cB x d la t ba tt ad V tx) (zR (some (.long (lz (frB 52 B)))) (XW D cI cB x d la t ba tt ad V tx)) := by
  refine z_body zSt_XW (by decide +kernel) rfl (Nat.le_of_ble_eq_true rfl) ?_
  intro p e s m args below meth c ls hx hb hml hr hlk hts0 hown hpre0 H locs hpre hS hl
  have hts : ∀ w ∈ TBL, w.before args s = true := fun w hw => hts0 w (List.mem_cons_of_mem _ hw)
  have hl : lv_has ls 3 [(0, .ref (ad 0)), (1, .long B)] := hl
  have hw := hpre
  have hst0 := hpre0.st
  refine lv_lload_n hx hb d_Fm_fr0_0 rfl (lv_at hl 1 rfl) ?_
  refine lv_lconst (v := lz 1) hx hb d_Fm_fr0_1 (by decide) ?_
  refine lv_aload_n hx hb d_Fm_fr0_2 rfl (lv_at hl 0 rfl) ?_
  refine va_getE hx hb hst0.2.2 (i := 0) (by decide) hS hown (List.mem_of_getElem? (i := 0) rfl) (hts _ tw_532) (fun _ h9 => h9) d_Fm_fr0_3 ?_
  refine z_topi (y := iz (52)) (by decide) ?_
  refine z_lshl hx hb 52 d_Fm_fr0_6 rfl (by decide) ⟨by omega, by omega⟩ ⟨by omega, by omega⟩ ?_
  refine lv_lconst (v := lz 1) hx hb d_Fm_fr0_7 (by decide) ?_
  refine z_lsub hx hb d_Fm_fr0_8 ?_
  refine lv_land hx hb d_Fm_fr0_9 ?_
  exact z_lret hx hb hr hlk hS (zR_st zSt_XW) ⟨by rw [frB_eq0], hw⟩ d_Fm_fr0_10
theorem d_Fm_fin0_0 : decode b_Fm_isFinite 0 = .ok (.aload_n 0, 1) := by decide +kernel
theorem d_Fm_fin0_1 : decode b_Fm_isFinite 1 = .ok (.lload_n 1, 1) := by decide +kernel
theorem d_Fm_fin0_2 : decode b_Fm_isFinite 2 = .ok (.invokevirtual 39, 3) := by decide +kernel
theorem d_Fm_fin0_5 : decode b_Fm_isFinite 5 = .ok (.aload_n 0, 1) := by decide +kernel
theorem d_Fm_fin0_6 : decode b_Fm_isFinite 6 = .ok (.getfield 33, 3) := by decide +kernel
theorem d_Fm_fin0_9 : decode b_Fm_isFinite 9 = .ok (.if_icmp .eq (7), 3) := by decide +kernel
theorem d_Fm_fin0_12 : decode b_Fm_isFinite 12 = .ok (.iconst 1, 1) := by decide +kernel
theorem d_Fm_fin0_13 : decode b_Fm_isFinite 13 = .ok (.goto (4), 3) := by decide +kernel
theorem d_Fm_fin0_16 : decode b_Fm_isFinite 16 = .ok (.iconst 0, 1) := by decide +kernel
theorem d_Fm_fin0_17 : decode b_Fm_isFinite 17 = .ok (.ireturn, 1) := by decide +kernel
set_option maxHeartbeats 4000000 in
set_option maxRecDepth 100000 in
theorem c_Fm_fin0 (l : Launch) (D : va_G) (cI cB : ClassId) (x d la t ba tt : Nat) (ad : Nat → Nat) (V : Int) (tx : List Int) (B : Int64) : Ct l y_Fm_isFinite (ws_Fm_isFinite) 1 (AX x d la t ba) [.ref (ad 0), .long B] (XW D cI cB x d la t ba tt ad V tx) (zR (some (.int (iz (if exB 52 2048 B = 2047 then 0 else 1)))) (XW D cI cB x d la t ba tt ad V tx)) := by
  refine z_body zSt_XW (by decide +kernel) rfl (Nat.le_of_ble_eq_true rfl) ?_
  intro p e s m args below meth c ls hx hb hml hr hlk hts0 hown hpre0 H locs hpre hS hl
  have hts : ∀ w ∈ TBL, w.before args s = true := fun w hw => hts0 w (List.mem_cons_of_mem _ hw)
  have hl : lv_has ls 3 [(0, .ref (ad 0)), (1, .long B)] := hl
  have hw := hpre
  have hst0 := hpre0.st
  refine lv_aload_n hx hb d_Fm_fin0_0 rfl (lv_at hl 0 rfl) ?_
  refine lv_lload_n hx hb d_Fm_fin0_1 rfl (lv_at hl 1 rfl) ?_
  have hct := c_Fm_exp0 l D cI cB x d la t ba tt ad V tx B
  refine z_go (va_runV (As := [.long B]) (rest := []) ⟨hx, hb, hml, hown, hts⟩ hct.2 (z_cwV hts w_Fm_exponent tw_157 (by decide)) (z_preV hct.1 (va_recvE hst0.2.2 (i := 0) (by decide) hS) hw) rfl rfl hl.1 rfl (lv_room (Nat.le_of_ble_eq_true rfl)) d_Fm_fin0_2 ⟨Nat.zero_le _, Nat.zero_le _⟩) hS (fun _ h9 => h9) (fun v9 t9 H locs hv9 hp9 hz9 hk9 hS => ?_)
  obtain ⟨rfl, hw⟩ := hp9
  have hw := XW.moved hv9.symm hw
  refine W.eq (g2 := F0 m 5 ls [.int (iz (exB 52 2048 B))]) rfl ?_
  have hxr := exB_r 52 2048 (by decide) B
  refine lv_aload_n hx hb d_Fm_fin0_5 rfl (lv_at hl 0 rfl) ?_
  refine va_getE hx hb hst0.2.2 (i := 0) (by decide) hS hown (List.mem_of_getElem? (i := 1) rfl) (hts _ tw_533) (fun _ h9 => h9) d_Fm_fin0_6 ?_
  refine z_topi (y := iz (2047)) (by decide) ?_
  refine z_icmp_eq (tgt := 16) hx hb d_Fm_fin0_9 rfl ⟨by omega, by omega⟩ ⟨by omega, by omega⟩ (fun hc9 => ?_) (fun hc9 => ?_)
  · refine lv_iconst (v := iz 0) hx hb d_Fm_fin0_16 rfl ?_
    exact z_zret hx hb hr rfl hlk hS (zR_st zSt_XW) ⟨by first | rw [if_pos hc9] | rw [if_neg hc9], hw⟩ d_Fm_fin0_17
  · refine lv_iconst (v := iz 1) hx hb d_Fm_fin0_12 rfl ?_
    refine lv_goto (tgt := 17) hx hb d_Fm_fin0_13 rfl ?_
    exact z_zret hx hb hr rfl hlk hS (zR_st zSt_XW) ⟨by first | rw [if_pos hc9] | rw [if_neg hc9], hw⟩ d_Fm_fin0_17
theorem d_Fm_inf0_0 : decode b_Fm_isInfinity 0 = .ok (.aload_n 0, 1) := by decide +kernel
theorem d_Fm_inf0_1 : decode b_Fm_isInfinity 1 = .ok (.lload_n 1, 1) := by decide +kernel
theorem d_Fm_inf0_2 : decode b_Fm_isInfinity 2 = .ok (.invokevirtual 43, 3) := by decide +kernel
theorem d_Fm_inf0_5 : decode b_Fm_isInfinity 5 = .ok (.ifCond .ne (17), 3) := by decide +kernel
theorem d_Fm_inf0_8 : decode b_Fm_isInfinity 8 = .ok (.aload_n 0, 1) := by decide +kernel
theorem d_Fm_inf0_9 : decode b_Fm_isInfinity 9 = .ok (.lload_n 1, 1) := by decide +kernel
theorem d_Fm_inf0_10 : decode b_Fm_isInfinity 10 = .ok (.invokevirtual 47, 3) := by decide +kernel
theorem d_Fm_inf0_13 : decode b_Fm_isInfinity 13 = .ok (.lconst 0, 1) := by decide +kernel
theorem d_Fm_inf0_14 : decode b_Fm_isInfinity 14 = .ok (.lcmp, 1) := by decide +kernel
theorem d_Fm_inf0_15 : decode b_Fm_isInfinity 15 = .ok (.ifCond .ne (7), 3) := by decide +kernel
theorem d_Fm_inf0_18 : decode b_Fm_isInfinity 18 = .ok (.iconst 1, 1) := by decide +kernel
theorem d_Fm_inf0_19 : decode b_Fm_isInfinity 19 = .ok (.goto (4), 3) := by decide +kernel
theorem d_Fm_inf0_22 : decode b_Fm_isInfinity 22 = .ok (.iconst 0, 1) := by decide +kernel
theorem d_Fm_inf0_23 : decode b_Fm_isInfinity 23 = .ok (.ireturn, 1) := by decide +kernel
set_option maxHeartbeats 4000000 in
set_option maxRecDepth 100000 in
theorem c_Fm_inf0 (l : Launch) (D : va_G) (cI cB : ClassId) (x d la t ba tt : Nat) (ad : Nat → Nat) (V : Int) (tx : List Int) (B : Int64) : Ct l y_Fm_isInfinity (ws_Fm_isInfinity) 2 (AX x d la t ba) [.ref (ad 0), .long B] (XW D cI cB x d la t ba tt ad V tx) (zR (some (.int (iz (if exB 52 2048 B = 2047 ∧ frB 52 B = 0 then 1 else 0)))) (XW D cI cB x d la t ba tt ad V tx)) := by
  refine z_body zSt_XW (by decide +kernel) rfl (Nat.le_of_ble_eq_true rfl) ?_
  intro p e s m args below meth c ls hx hb hml hr hlk hts0 hown hpre0 H locs hpre hS hl
  have hts : ∀ w ∈ TBL, w.before args s = true := fun w hw => hts0 w (List.mem_cons_of_mem _ hw)
  have hl : lv_has ls 3 [(0, .ref (ad 0)), (1, .long B)] := hl
  have hw := hpre
  have hst0 := hpre0.st
  refine lv_aload_n hx hb d_Fm_inf0_0 rfl (lv_at hl 0 rfl) ?_
  refine lv_lload_n hx hb d_Fm_inf0_1 rfl (lv_at hl 1 rfl) ?_
  have hct := c_Fm_fin0 l D cI cB x d la t ba tt ad V tx B
  refine z_go (va_runV (As := [.long B]) (rest := []) ⟨hx, hb, hml, hown, hts⟩ hct.2 (z_cwV hts w_Fm_isFinite tw_166 (by decide)) (z_preV hct.1 (va_recvE hst0.2.2 (i := 0) (by decide) hS) hw) rfl rfl hl.1 rfl (lv_room (Nat.le_of_ble_eq_true rfl)) d_Fm_inf0_2 ⟨Nat.zero_le _, Nat.zero_le _⟩) hS (fun _ h9 => h9) (fun v9 t9 H locs hv9 hp9 hz9 hk9 hS => ?_)
  obtain ⟨rfl, hw⟩ := hp9
  have hw := XW.moved hv9.symm hw
  refine W.eq (g2 := F0 m 5 ls [.int (iz (if exB 52 2048 B = 2047 then 0 else 1))]) rfl ?_
  refine z_if_ne (tgt := 22) hx hb d_Fm_inf0_5 rfl (by split <;> exact ⟨by omega, by omega⟩) (fun hc5 => ?_) (fun hc5 => ?_)
  · refine lv_iconst (v := iz 0) hx hb d_Fm_inf0_22 rfl ?_
    exact z_zret hx hb hr rfl hlk hS (zR_st zSt_XW) ⟨by
        first
          | (rw [if_neg (fun h8 => hc5 (if_pos h8.1))])
          | (rw [if_neg (fun h8 => hc14 h8.2)])
          | (rw [if_pos ⟨by by_cases h8 : exB 52 2048 B = 2047; exact h8; rw [if_neg h8] at hc5; omega, hc14⟩]), hw⟩ d_Fm_inf0_23
  · refine lv_aload_n hx hb d_Fm_inf0_8 rfl (lv_at hl 0 rfl) ?_
    refine lv_lload_n hx hb d_Fm_inf0_9 rfl (lv_at hl 1 rfl) ?_
    have hct := c_Fm_fr0 l D cI cB x d la t ba tt ad V tx B
    refine z_go (va_runV (As := [.long B]) (rest := []) ⟨hx, hb, hml, hown, hts⟩ hct.2 (z_cwV hts w_Fm_fraction tw_167 (by decide)) (z_preV hct.1 (va_recvE hst0.2.2 (i := 0) (by decide) hS) hw) rfl rfl hl.1 rfl (lv_room (Nat.le_of_ble_eq_true rfl)) d_Fm_inf0_10 ⟨Nat.zero_le _, Nat.zero_le _⟩) hS (fun _ h9 => h9) (fun v9 t9 H locs hv9 hp9 hz9 hk9 hS => ?_)
    obtain ⟨rfl, hw⟩ := hp9
    have hw := XW.moved hv9.symm hw
    refine W.eq (g2 := F0 m 13 ls [.long (lz (frB 52 B))]) rfl ?_
    have hfr := frB_r 52 B (by decide)
    refine lv_lconst (v := lz 0) hx hb d_Fm_inf0_13 (by decide) ?_
    refine z_lif_ne (tgt := 22) hx hb d_Fm_inf0_14 d_Fm_inf0_15 rfl ⟨by omega, by omega⟩ ⟨by omega, by omega⟩ (fun hc14 => ?_) (fun hc14 => ?_)
    · refine lv_iconst (v := iz 0) hx hb d_Fm_inf0_22 rfl ?_
      exact z_zret hx hb hr rfl hlk hS (zR_st zSt_XW) ⟨by
          first
            | (rw [if_neg (fun h8 => hc5 (if_pos h8.1))])
            | (rw [if_neg (fun h8 => hc14 h8.2)])
            | (rw [if_pos ⟨by by_cases h8 : exB 52 2048 B = 2047; exact h8; rw [if_neg h8] at hc5; omega, hc14⟩]), hw⟩ d_Fm_inf0_23
    · refine lv_iconst (v := iz 1) hx hb d_Fm_inf0_18 rfl ?_
      refine lv_goto (tgt := 23) hx hb d_Fm_inf0_19 rfl ?_
      exact z_zret hx hb hr rfl hlk hS (zR_st zSt_XW) ⟨by
          first
            | (rw [if_neg (fun h8 => hc5 (if_pos h8.1))])
            | (rw [if_neg (fun h8 => hc14 h8.2)])
            | (rw [if_pos ⟨by by_cases h8 : exB 52 2048 B = 2047; exact h8; rw [if_neg h8] at hc5; omega, hc14⟩]), hw⟩ d_Fm_inf0_23
theorem d_Fm_coef0_0 : decode b_Fm_coefficient 0 = .ok (.aload_n 0, 1) := by decide +kernel
theorem d_Fm_coef0_1 : decode b_Fm_coefficient 1 = .ok (.lload_n 1, 1) := by decide +kernel
theorem d_Fm_coef0_2 : decode b_Fm_coefficient 2 = .ok (.invokevirtual 39, 3) := by decide +kernel
theorem d_Fm_coef0_5 : decode b_Fm_coefficient 5 = .ok (.ifCond .ne (7), 3) := by decide +kernel
theorem d_Fm_coef0_8 : decode b_Fm_coefficient 8 = .ok (.lconst 0, 1) := by decide +kernel
theorem d_Fm_coef0_9 : decode b_Fm_coefficient 9 = .ok (.goto (9), 3) := by decide +kernel
theorem d_Fm_coef0_12 : decode b_Fm_coefficient 12 = .ok (.lconst 1, 1) := by decide +kernel
theorem d_Fm_coef0_13 : decode b_Fm_coefficient 13 = .ok (.aload_n 0, 1) := by decide +kernel
theorem d_Fm_coef0_14 : decode b_Fm_coefficient 14 = .ok (.getfield 29, 3) := by decide +kernel
theorem d_Fm_coef0_17 : decode b_Fm_coefficient 17 = .ok (.lshl, 1) := by decide +kernel
theorem d_Fm_coef0_18 : decode b_Fm_coefficient 18 = .ok (.lstore_n 3, 1) := by decide +kernel
theorem d_Fm_coef0_19 : decode b_Fm_coefficient 19 = .ok (.lload_n 3, 1) := by decide +kernel
theorem d_Fm_coef0_20 : decode b_Fm_coefficient 20 = .ok (.aload_n 0, 1) := by decide +kernel
theorem d_Fm_coef0_21 : decode b_Fm_coefficient 21 = .ok (.lload_n 1, 1) := by decide +kernel
theorem d_Fm_coef0_22 : decode b_Fm_coefficient 22 = .ok (.invokevirtual 47, 3) := by decide +kernel
theorem d_Fm_coef0_25 : decode b_Fm_coefficient 25 = .ok (.lor, 1) := by decide +kernel
theorem d_Fm_coef0_26 : decode b_Fm_coefficient 26 = .ok (.lreturn, 1) := by decide +kernel
set_option maxHeartbeats 4000000 in
set_option maxRecDepth 100000 in
theorem c_Fm_coef0 (l : Launch) (D : va_G) (cI cB : ClassId) (x d la t ba tt : Nat) (ad : Nat → Nat) (V : Int) (tx : List Int) (B : Int64) : Ct l y_Fm_coefficient (ws_Fm_coefficient) 1 (AX x d la t ba) [.ref (ad 0), .long B] (XW D cI cB x d la t ba tt ad V tx) (zR (some (.long (lz (cfB 52 2048 B)))) (XW D cI cB x d la t ba tt ad V tx)) := by
  refine z_body zSt_XW (by decide +kernel) rfl (Nat.le_of_ble_eq_true rfl) ?_
  intro p e s m args below meth c ls hx hb hml hr hlk hts0 hown hpre0 H locs hpre hS hl
  have hts : ∀ w ∈ TBL, w.before args s = true := fun w hw => hts0 w (List.mem_cons_of_mem _ hw)
  have hl : lv_has ls 5 [(0, .ref (ad 0)), (1, .long B)] := hl
  have hw := hpre
  have hst0 := hpre0.st
  refine lv_aload_n hx hb d_Fm_coef0_0 rfl (lv_at hl 0 rfl) ?_
  refine lv_lload_n hx hb d_Fm_coef0_1 rfl (lv_at hl 1 rfl) ?_
  have hct := c_Fm_exp0 l D cI cB x d la t ba tt ad V tx B
  refine z_go (va_runV (As := [.long B]) (rest := []) ⟨hx, hb, hml, hown, hts⟩ hct.2 (z_cwV hts w_Fm_exponent tw_157 (by decide)) (z_preV hct.1 (va_recvE hst0.2.2 (i := 0) (by decide) hS) hw) rfl rfl hl.1 rfl (lv_room (Nat.le_of_ble_eq_true rfl)) d_Fm_coef0_2 ⟨Nat.zero_le _, Nat.zero_le _⟩) hS (fun _ h9 => h9) (fun v9 t9 H locs hv9 hp9 hz9 hk9 hS => ?_)
  obtain ⟨rfl, hw⟩ := hp9
  have hw := XW.moved hv9.symm hw
  refine W.eq (g2 := F0 m 5 ls [.int (iz (exB 52 2048 B))]) rfl ?_
  have hxr := exB_r 52 2048 (by decide) B
  refine z_if_ne (tgt := 12) hx hb d_Fm_coef0_5 rfl ⟨by omega, by omega⟩ (fun hc5 => ?_) (fun hc5 => ?_)
  · refine lv_lconst (v := lz 1) hx hb d_Fm_coef0_12 (by decide) ?_
    refine lv_aload_n hx hb d_Fm_coef0_13 rfl (lv_at hl 0 rfl) ?_
    refine va_getE hx hb hst0.2.2 (i := 0) (by decide) hS hown (List.mem_of_getElem? (i := 0) rfl) (hts _ tw_532) (fun _ h9 => h9) d_Fm_coef0_14 ?_
    refine z_topi (y := iz (52)) (by decide) ?_
    refine z_lshl hx hb 52 d_Fm_coef0_17 rfl (by decide) ⟨by omega, by omega⟩ ⟨by omega, by omega⟩ ?_
    refine lv_lstore_n hx hb d_Fm_coef0_18 rfl hl (by decide) rfl (fun ls hl => ?_)
    have hl : lv_has ls 5 [(3, .long (lz (1 * 2 ^ 52))), (0, .ref (ad 0)), (1, .long B)] := hl
    refine lv_lload_n hx hb d_Fm_coef0_19 rfl (lv_at hl 0 rfl) ?_
    refine lv_aload_n hx hb d_Fm_coef0_20 rfl (lv_at hl 1 rfl) ?_
    refine lv_lload_n hx hb d_Fm_coef0_21 rfl (lv_at hl 2 rfl) ?_
    have hct := c_Fm_fr0 l D cI cB x d la t ba tt ad V tx B
    refine z_go (va_runV (As := [.long B]) (rest := [.long (lz (1 * 2 ^ 52))]) ⟨hx, hb, hml, hown, hts⟩ hct.2 (z_cwV hts w_Fm_fraction tw_167 (by decide)) (z_preV hct.1 (va_recvE hst0.2.2 (i := 0) (by decide) hS) hw) rfl rfl hl.1 rfl (lv_room (Nat.le_of_ble_eq_true rfl)) d_Fm_coef0_22 ⟨Nat.zero_le _, Nat.zero_le _⟩) hS (fun _ h9 => h9) (fun v9 t9 H locs hv9 hp9 hz9 hk9 hS => ?_)
    obtain ⟨rfl, hw⟩ := hp9
    have hw := XW.moved hv9.symm hw
    refine W.eq (g2 := F0 m 25 ls [.long (lz (frB 52 B)), .long (lz (1 * 2 ^ 52))]) rfl ?_
    refine lv_lor hx hb d_Fm_coef0_25 ?_
    exact z_lret hx hb hr hlk hS (zR_st zSt_XW) ⟨by first | rw [cfB_0 (by decide) hc5] | rw [cfB_1 (by decide) hc5], hw⟩ d_Fm_coef0_26
  · refine lv_lconst (v := lz 0) hx hb d_Fm_coef0_8 (by decide) ?_
    refine lv_goto (tgt := 18) hx hb d_Fm_coef0_9 rfl ?_
    refine lv_lstore_n hx hb d_Fm_coef0_18 rfl hl (by decide) rfl (fun ls hl => ?_)
    have hl : lv_has ls 5 [(3, .long (lz 0)), (0, .ref (ad 0)), (1, .long B)] := hl
    refine lv_lload_n hx hb d_Fm_coef0_19 rfl (lv_at hl 0 rfl) ?_
    refine lv_aload_n hx hb d_Fm_coef0_20 rfl (lv_at hl 1 rfl) ?_
    refine lv_lload_n hx hb d_Fm_coef0_21 rfl (lv_at hl 2 rfl) ?_
    have hct := c_Fm_fr0 l D cI cB x d la t ba tt ad V tx B
    refine z_go (va_runV (As := [.long B]) (rest := [.long (lz 0)]) ⟨hx, hb, hml, hown, hts⟩ hct.2 (z_cwV hts w_Fm_fraction tw_167 (by decide)) (z_preV hct.1 (va_recvE hst0.2.2 (i := 0) (by decide) hS) hw) rfl rfl hl.1 rfl (lv_room (Nat.le_of_ble_eq_true rfl)) d_Fm_coef0_22 ⟨Nat.zero_le _, Nat.zero_le _⟩) hS (fun _ h9 => h9) (fun v9 t9 H locs hv9 hp9 hz9 hk9 hS => ?_)
    obtain ⟨rfl, hw⟩ := hp9
    have hw := XW.moved hv9.symm hw
    refine W.eq (g2 := F0 m 25 ls [.long (lz (frB 52 B)), .long (lz 0)]) rfl ?_
    refine lv_lor hx hb d_Fm_coef0_25 ?_
    exact z_lret hx hb hr hlk hS (zR_st zSt_XW) ⟨by first | rw [cfB_0 (by decide) hc5] | rw [cfB_1 (by decide) hc5], hw⟩ d_Fm_coef0_26
theorem d_Fm_pow0_0 : decode b_Fm_power 0 = .ok (.aload_n 0, 1) := by decide +kernel
theorem d_Fm_pow0_1 : decode b_Fm_power 1 = .ok (.getfield 36, 3) := by decide +kernel
theorem d_Fm_pow0_4 : decode b_Fm_power 4 = .ok (.aload_n 0, 1) := by decide +kernel
theorem d_Fm_pow0_5 : decode b_Fm_power 5 = .ok (.lload_n 1, 1) := by decide +kernel
theorem d_Fm_pow0_6 : decode b_Fm_power 6 = .ok (.invokevirtual 39, 3) := by decide +kernel
theorem d_Fm_pow0_9 : decode b_Fm_power 9 = .ok (.iconst 1, 1) := by decide +kernel
theorem d_Fm_pow0_10 : decode b_Fm_power 10 = .ok (.isub, 1) := by decide +kernel
theorem d_Fm_pow0_11 : decode b_Fm_power 11 = .ok (.iconst 0, 1) := by decide +kernel
theorem d_Fm_pow0_12 : decode b_Fm_power 12 = .ok (.invokestatic 51, 3) := by decide +kernel
theorem d_Fm_pow0_15 : decode b_Fm_power 15 = .ok (.iadd, 1) := by decide +kernel
theorem d_Fm_pow0_16 : decode b_Fm_power 16 = .ok (.ireturn, 1) := by decide +kernel
set_option maxHeartbeats 4000000 in
set_option maxRecDepth 100000 in
theorem c_Fm_pow0 (l : Launch) (D : va_G) (cI cB : ClassId) (x d la t ba tt : Nat) (ad : Nat → Nat) (V : Int) (tx : List Int) (B : Int64) : Ct l y_Fm_power (ws_Fm_power) 1 (AX x d la t ba) [.ref (ad 0), .long B] (XW D cI cB x d la t ba tt ad V tx) (zR (some (.int (iz (-1074 + max (exB 52 2048 B - 1) 0)))) (XW D cI cB x d la t ba tt ad V tx)) := by
  refine z_body zSt_XW (by decide +kernel) rfl (Nat.le_of_ble_eq_true rfl) ?_
  intro p e s m args below meth c ls hx hb hml hr hlk hts0 hown hpre0 H locs hpre hS hl
  have hts : ∀ w ∈ TBL, w.before args s = true := fun w hw => hts0 w (List.mem_cons_of_mem _ hw)
  have hl : lv_has ls 3 [(0, .ref (ad 0)), (1, .long B)] := hl
  have hw := hpre
  have hst0 := hpre0.st
  refine lv_aload_n hx hb d_Fm_pow0_0 rfl (lv_at hl 0 rfl) ?_
  refine va_getE hx hb hst0.2.2 (i := 0) (by decide) hS hown (List.mem_of_getElem? (i := 2) rfl) (hts _ tw_536) (fun _ h9 => h9) d_Fm_pow0_1 ?_
  refine z_topi (y := iz (-1074)) (by decide) ?_
  refine lv_aload_n hx hb d_Fm_pow0_4 rfl (lv_at hl 0 rfl) ?_
  refine lv_lload_n hx hb d_Fm_pow0_5 rfl (lv_at hl 1 rfl) ?_
  have hct := c_Fm_exp0 l D cI cB x d la t ba tt ad V tx B
  refine z_go (va_runV (As := [.long B]) (rest := [.int (iz (-1074))]) ⟨hx, hb, hml, hown, hts⟩ hct.2 (z_cwV hts w_Fm_exponent tw_157 (by decide)) (z_preV hct.1 (va_recvE hst0.2.2 (i := 0) (by decide) hS) hw) rfl rfl hl.1 rfl (lv_room (Nat.le_of_ble_eq_true rfl)) d_Fm_pow0_6 ⟨Nat.zero_le _, Nat.zero_le _⟩) hS (fun _ h9 => h9) (fun v9 t9 H locs hv9 hp9 hz9 hk9 hS => ?_)
  obtain ⟨rfl, hw⟩ := hp9
  have hw := XW.moved hv9.symm hw
  refine W.eq (g2 := F0 m 9 ls [.int (iz (exB 52 2048 B)), .int (iz (-1074))]) rfl ?_
  have hxr := exB_r 52 2048 (by decide) B
  refine lv_iconst (v := iz 1) hx hb d_Fm_pow0_9 rfl ?_
  refine z_isub hx hb d_Fm_pow0_10 ?_
  refine lv_iconst (v := iz 0) hx hb d_Fm_pow0_11 rfl ?_
  refine z_mmax hx hb (hml.trans hl.1.symm) hown (hts _ tw_241) (hts _ tw_242) (hts _ tw_16) (hts _ twm_max) (Nat.le_of_ble_eq_true rfl) (Nat.le_of_ble_eq_true rfl) (Nat.zero_le _) (Nat.zero_le _) ⟨by omega, by omega⟩ ⟨by omega, by omega⟩ d_Fm_pow0_12 ?_
  refine z_iadd hx hb d_Fm_pow0_15 ?_
  exact z_iret hx hb hr hlk hS (zR_st zSt_XW) ⟨rfl, hw⟩ d_Fm_pow0_16
theorem d_Fm_exp1_0 : decode b_Fm_exponent 0 = .ok (.lload_n 1, 1) := by decide +kernel
theorem d_Fm_exp1_1 : decode b_Fm_exponent 1 = .ok (.aload_n 0, 1) := by decide +kernel
theorem d_Fm_exp1_2 : decode b_Fm_exponent 2 = .ok (.getfield 29, 3) := by decide +kernel
theorem d_Fm_exp1_5 : decode b_Fm_exponent 5 = .ok (.lushr, 1) := by decide +kernel
theorem d_Fm_exp1_6 : decode b_Fm_exponent 6 = .ok (.l2i, 1) := by decide +kernel
theorem d_Fm_exp1_7 : decode b_Fm_exponent 7 = .ok (.aload_n 0, 1) := by decide +kernel
theorem d_Fm_exp1_8 : decode b_Fm_exponent 8 = .ok (.getfield 33, 3) := by decide +kernel
theorem d_Fm_exp1_11 : decode b_Fm_exponent 11 = .ok (.iand, 1) := by decide +kernel
theorem d_Fm_exp1_12 : decode b_Fm_exponent 12 = .ok (.ireturn, 1) := by decide +kernel
set_option maxHeartbeats 4000000 in
set_option maxRecDepth 100000 in
theorem c_Fm_exp1 (l : Launch) (D : va_G) (cI cB : ClassId) (x d la t ba tt : Nat) (ad : Nat → Nat) (V : Int) (tx : List Int) (B : Int64) : Ct l y_Fm_exponent (ws_Fm_exponent) 0 (AX x d la t ba) [.ref (ad 1), .long B] (XW D cI cB x d la t ba tt ad V tx) (zR (some (.int (iz (exB 23 256 B)))) (XW D cI cB x d la t ba tt ad V tx)) := by
  refine z_body zSt_XW (by decide +kernel) rfl (Nat.le_of_ble_eq_true rfl) ?_
  intro p e s m args below meth c ls hx hb hml hr hlk hts0 hown hpre0 H locs hpre hS hl
  have hts : ∀ w ∈ TBL, w.before args s = true := fun w hw => hts0 w (List.mem_cons_of_mem _ hw)
  have hl : lv_has ls 3 [(0, .ref (ad 1)), (1, .long B)] := hl
  have hw := hpre
  have hst0 := hpre0.st
  refine lv_lload_n hx hb d_Fm_exp1_0 rfl (lv_at hl 1 rfl) ?_
  refine lv_aload_n hx hb d_Fm_exp1_1 rfl (lv_at hl 0 rfl) ?_
  refine va_getE hx hb hst0.2.2 (i := 1) (by decide) hS hown (List.mem_of_getElem? (i := 0) rfl) (hts _ tw_532) (fun _ h9 => h9) d_Fm_exp1_2 ?_
  refine z_topi (y := iz (23)) (by decide) ?_
  refine lv_lushr hx hb d_Fm_exp1_5 rfl ?_
  refine lv_l2i hx hb d_Fm_exp1_6 rfl ?_
  refine lv_aload_n hx hb d_Fm_exp1_7 rfl (lv_at hl 0 rfl) ?_
  refine va_getE hx hb hst0.2.2 (i := 1) (by decide) hS hown (List.mem_of_getElem? (i := 1) rfl) (hts _ tw_533) (fun _ h9 => h9) d_Fm_exp1_8 ?_
  refine z_topi (y := iz (255)) (by decide) ?_
  refine lv_iand hx hb d_Fm_exp1_11 ?_
  exact z_iret hx hb hr hlk hS (zR_st zSt_XW) ⟨by rw [exB_eq1], hw⟩ d_Fm_exp1_12
theorem d_Fm_fr1_0 : decode b_Fm_fraction 0 = .ok (.lload_n 1, 1) := by decide +kernel
theorem d_Fm_fr1_1 : decode b_Fm_fraction 1 = .ok (.lconst 1, 1) := by decide +kernel
theorem d_Fm_fr1_2 : decode b_Fm_fraction 2 = .ok (.aload_n 0, 1) := by decide +kernel
theorem d_Fm_fr1_3 : decode b_Fm_fraction 3 = .ok (.getfield 29, 3) := by decide +kernel
theorem d_Fm_fr1_6 : decode b_Fm_fraction 6 = .ok (.lshl, 1) := by decide +kernel
theorem d_Fm_fr1_7 : decode b_Fm_fraction 7 = .ok (.lconst 1, 1) := by decide +kernel
theorem d_Fm_fr1_8 : decode b_Fm_fraction 8 = .ok (.lsub, 1) := by decide +kernel
theorem d_Fm_fr1_9 : decode b_Fm_fraction 9 = .ok (.land, 1) := by decide +kernel
theorem d_Fm_fr1_10 : decode b_Fm_fraction 10 = .ok (.lreturn, 1) := by decide +kernel
set_option maxHeartbeats 4000000 in
set_option maxRecDepth 100000 in
theorem c_Fm_fr1 (l : Launch) (D : va_G) (cI cB : ClassId) (x d la t ba tt : Nat) (ad : Nat → Nat) (V : Int) (tx : List Int) (B : Int64) : Ct l y_Fm_fraction (ws_Fm_fraction) 0 (AX x d la t ba) [.ref (ad 1), .long B] (XW D cI cB x d la t ba tt ad V tx) (zR (some (.long (lz (frB 23 B)))) (XW D cI cB x d la t ba tt ad V tx)) := by
  refine z_body zSt_XW (by decide +kernel) rfl (Nat.le_of_ble_eq_true rfl) ?_
  intro p e s m args below meth c ls hx hb hml hr hlk hts0 hown hpre0 H locs hpre hS hl
  have hts : ∀ w ∈ TBL, w.before args s = true := fun w hw => hts0 w (List.mem_cons_of_mem _ hw)
  have hl : lv_has ls 3 [(0, .ref (ad 1)), (1, .long B)] := hl
  have hw := hpre
  have hst0 := hpre0.st
  refine lv_lload_n hx hb d_Fm_fr1_0 rfl (lv_at hl 1 rfl) ?_
  refine lv_lconst (v := lz 1) hx hb d_Fm_fr1_1 (by decide) ?_
  refine lv_aload_n hx hb d_Fm_fr1_2 rfl (lv_at hl 0 rfl) ?_
  refine va_getE hx hb hst0.2.2 (i := 1) (by decide) hS hown (List.mem_of_getElem? (i := 0) rfl) (hts _ tw_532) (fun _ h9 => h9) d_Fm_fr1_3 ?_
  refine z_topi (y := iz (23)) (by decide) ?_
  refine z_lshl hx hb 23 d_Fm_fr1_6 rfl (by decide) ⟨by omega, by omega⟩ ⟨by omega, by omega⟩ ?_
  refine lv_lconst (v := lz 1) hx hb d_Fm_fr1_7 (by decide) ?_
  refine z_lsub hx hb d_Fm_fr1_8 ?_
  refine lv_land hx hb d_Fm_fr1_9 ?_
  exact z_lret hx hb hr hlk hS (zR_st zSt_XW) ⟨by rw [frB_eq1], hw⟩ d_Fm_fr1_10
theorem d_Fm_fin1_0 : decode b_Fm_isFinite 0 = .ok (.aload_n 0, 1) := by decide +kernel
theorem d_Fm_fin1_1 : decode b_Fm_isFinite 1 = .ok (.lload_n 1, 1) := by decide +kernel
theorem d_Fm_fin1_2 : decode b_Fm_isFinite 2 = .ok (.invokevirtual 39, 3) := by decide +kernel
theorem d_Fm_fin1_5 : decode b_Fm_isFinite 5 = .ok (.aload_n 0, 1) := by decide +kernel
theorem d_Fm_fin1_6 : decode b_Fm_isFinite 6 = .ok (.getfield 33, 3) := by decide +kernel
theorem d_Fm_fin1_9 : decode b_Fm_isFinite 9 = .ok (.if_icmp .eq (7), 3) := by decide +kernel
theorem d_Fm_fin1_12 : decode b_Fm_isFinite 12 = .ok (.iconst 1, 1) := by decide +kernel
theorem d_Fm_fin1_13 : decode b_Fm_isFinite 13 = .ok (.goto (4), 3) := by decide +kernel
theorem d_Fm_fin1_16 : decode b_Fm_isFinite 16 = .ok (.iconst 0, 1) := by decide +kernel
theorem d_Fm_fin1_17 : decode b_Fm_isFinite 17 = .ok (.ireturn, 1) := by decide +kernel
set_option maxHeartbeats 4000000 in
set_option maxRecDepth 100000 in
theorem c_Fm_fin1 (l : Launch) (D : va_G) (cI cB : ClassId) (x d la t ba tt : Nat) (ad : Nat → Nat) (V : Int) (tx : List Int) (B : Int64) : Ct l y_Fm_isFinite (ws_Fm_isFinite) 1 (AX x d la t ba) [.ref (ad 1), .long B] (XW D cI cB x d la t ba tt ad V tx) (zR (some (.int (iz (if exB 23 256 B = 255 then 0 else 1)))) (XW D cI cB x d la t ba tt ad V tx)) := by
  refine z_body zSt_XW (by decide +kernel) rfl (Nat.le_of_ble_eq_true rfl) ?_
  intro p e s m args below meth c ls hx hb hml hr hlk hts0 hown hpre0 H locs hpre hS hl
  have hts : ∀ w ∈ TBL, w.before args s = true := fun w hw => hts0 w (List.mem_cons_of_mem _ hw)
  have hl : lv_has ls 3 [(0, .ref (ad 1)), (1, .long B)] := hl
  have hw := hpre
  have hst0 := hpre0.st
  refine lv_aload_n hx hb d_Fm_fin1_0 rfl (lv_at hl 0 rfl) ?_
  refine lv_lload_n hx hb d_Fm_fin1_1 rfl (lv_at hl 1 rfl) ?_
  have hct := c_Fm_exp1 l D cI cB x d la t ba tt ad V tx B
  refine z_go (va_runV (As := [.long B]) (rest := []) ⟨hx, hb, hml, hown, hts⟩ hct.2 (z_cwV hts w_Fm_exponent tw_157 (by decide)) (z_preV hct.1 (va_recvE hst0.2.2 (i := 1) (by decide) hS) hw) rfl rfl hl.1 rfl (lv_room (Nat.le_of_ble_eq_true rfl)) d_Fm_fin1_2 ⟨Nat.zero_le _, Nat.zero_le _⟩) hS (fun _ h9 => h9) (fun v9 t9 H locs hv9 hp9 hz9 hk9 hS => ?_)
  obtain ⟨rfl, hw⟩ := hp9
  have hw := XW.moved hv9.symm hw
  refine W.eq (g2 := F0 m 5 ls [.int (iz (exB 23 256 B))]) rfl ?_
  have hxr := exB_r 23 256 (by decide) B
  refine lv_aload_n hx hb d_Fm_fin1_5 rfl (lv_at hl 0 rfl) ?_
  refine va_getE hx hb hst0.2.2 (i := 1) (by decide) hS hown (List.mem_of_getElem? (i := 1) rfl) (hts _ tw_533) (fun _ h9 => h9) d_Fm_fin1_6 ?_
  refine z_topi (y := iz (255)) (by decide) ?_
  refine z_icmp_eq (tgt := 16) hx hb d_Fm_fin1_9 rfl ⟨by omega, by omega⟩ ⟨by omega, by omega⟩ (fun hc9 => ?_) (fun hc9 => ?_)
  · refine lv_iconst (v := iz 0) hx hb d_Fm_fin1_16 rfl ?_
    exact z_zret hx hb hr rfl hlk hS (zR_st zSt_XW) ⟨by first | rw [if_pos hc9] | rw [if_neg hc9], hw⟩ d_Fm_fin1_17
  · refine lv_iconst (v := iz 1) hx hb d_Fm_fin1_12 rfl ?_
    refine lv_goto (tgt := 17) hx hb d_Fm_fin1_13 rfl ?_
    exact z_zret hx hb hr rfl hlk hS (zR_st zSt_XW) ⟨by first | rw [if_pos hc9] | rw [if_neg hc9], hw⟩ d_Fm_fin1_17
theorem d_Fm_inf1_0 : decode b_Fm_isInfinity 0 = .ok (.aload_n 0, 1) := by decide +kernel
theorem d_Fm_inf1_1 : decode b_Fm_isInfinity 1 = .ok (.lload_n 1, 1) := by decide +kernel
theorem d_Fm_inf1_2 : decode b_Fm_isInfinity 2 = .ok (.invokevirtual 43, 3) := by decide +kernel
theorem d_Fm_inf1_5 : decode b_Fm_isInfinity 5 = .ok (.ifCond .ne (17), 3) := by decide +kernel
theorem d_Fm_inf1_8 : decode b_Fm_isInfinity 8 = .ok (.aload_n 0, 1) := by decide +kernel
theorem d_Fm_inf1_9 : decode b_Fm_isInfinity 9 = .ok (.lload_n 1, 1) := by decide +kernel
theorem d_Fm_inf1_10 : decode b_Fm_isInfinity 10 = .ok (.invokevirtual 47, 3) := by decide +kernel
theorem d_Fm_inf1_13 : decode b_Fm_isInfinity 13 = .ok (.lconst 0, 1) := by decide +kernel
theorem d_Fm_inf1_14 : decode b_Fm_isInfinity 14 = .ok (.lcmp, 1) := by decide +kernel
theorem d_Fm_inf1_15 : decode b_Fm_isInfinity 15 = .ok (.ifCond .ne (7), 3) := by decide +kernel
theorem d_Fm_inf1_18 : decode b_Fm_isInfinity 18 = .ok (.iconst 1, 1) := by decide +kernel
theorem d_Fm_inf1_19 : decode b_Fm_isInfinity 19 = .ok (.goto (4), 3) := by decide +kernel
theorem d_Fm_inf1_22 : decode b_Fm_isInfinity 22 = .ok (.iconst 0, 1) := by decide +kernel
theorem d_Fm_inf1_23 : decode b_Fm_isInfinity 23 = .ok (.ireturn, 1) := by decide +kernel
set_option maxHeartbeats 4000000 in
set_option maxRecDepth 100000 in
theorem c_Fm_inf1 (l : Launch) (D : va_G) (cI cB : ClassId) (x d la t ba tt : Nat) (ad : Nat → Nat) (V : Int) (tx : List Int) (B : Int64) : Ct l y_Fm_isInfinity (ws_Fm_isInfinity) 2 (AX x d la t ba) [.ref (ad 1), .long B] (XW D cI cB x d la t ba tt ad V tx) (zR (some (.int (iz (if exB 23 256 B = 255 ∧ frB 23 B = 0 then 1 else 0)))) (XW D cI cB x d la t ba tt ad V tx)) := by
  refine z_body zSt_XW (by decide +kernel) rfl (Nat.le_of_ble_eq_true rfl) ?_
  intro p e s m args below meth c ls hx hb hml hr hlk hts0 hown hpre0 H locs hpre hS hl
  have hts : ∀ w ∈ TBL, w.before args s = true := fun w hw => hts0 w (List.mem_cons_of_mem _ hw)
  have hl : lv_has ls 3 [(0, .ref (ad 1)), (1, .long B)] := hl
  have hw := hpre
  have hst0 := hpre0.st
  refine lv_aload_n hx hb d_Fm_inf1_0 rfl (lv_at hl 0 rfl) ?_
  refine lv_lload_n hx hb d_Fm_inf1_1 rfl (lv_at hl 1 rfl) ?_
  have hct := c_Fm_fin1 l D cI cB x d la t ba tt ad V tx B
  refine z_go (va_runV (As := [.long B]) (rest := []) ⟨hx, hb, hml, hown, hts⟩ hct.2 (z_cwV hts w_Fm_isFinite tw_166 (by decide)) (z_preV hct.1 (va_recvE hst0.2.2 (i := 1) (by decide) hS) hw) rfl rfl hl.1 rfl (lv_room (Nat.le_of_ble_eq_true rfl)) d_Fm_inf1_2 ⟨Nat.zero_le _, Nat.zero_le _⟩) hS (fun _ h9 => h9) (fun v9 t9 H locs hv9 hp9 hz9 hk9 hS => ?_)
  obtain ⟨rfl, hw⟩ := hp9
  have hw := XW.moved hv9.symm hw
  refine W.eq (g2 := F0 m 5 ls [.int (iz (if exB 23 256 B = 255 then 0 else 1))]) rfl ?_
  refine z_if_ne (tgt := 22) hx hb d_Fm_inf1_5 rfl (by split <;> exact ⟨by omega, by omega⟩) (fun hc5 => ?_) (fun hc5 => ?_)
  · refine lv_iconst (v := iz 0) hx hb d_Fm_inf1_22 rfl ?_
    exact z_zret hx hb hr rfl hlk hS (zR_st zSt_XW) ⟨by
        first
          | (rw [if_neg (fun h8 => hc5 (if_pos h8.1))])
          | (rw [if_neg (fun h8 => hc14 h8.2)])
          | (rw [if_pos ⟨by by_cases h8 : exB 23 256 B = 255; exact h8; rw [if_neg h8] at hc5; omega, hc14⟩]), hw⟩ d_Fm_inf1_23
  · refine lv_aload_n hx hb d_Fm_inf1_8 rfl (lv_at hl 0 rfl) ?_
    refine lv_lload_n hx hb d_Fm_inf1_9 rfl (lv_at hl 1 rfl) ?_
    have hct := c_Fm_fr1 l D cI cB x d la t ba tt ad V tx B
    refine z_go (va_runV (As := [.long B]) (rest := []) ⟨hx, hb, hml, hown, hts⟩ hct.2 (z_cwV hts w_Fm_fraction tw_167 (by decide)) (z_preV hct.1 (va_recvE hst0.2.2 (i := 1) (by decide) hS) hw) rfl rfl hl.1 rfl (lv_room (Nat.le_of_ble_eq_true rfl)) d_Fm_inf1_10 ⟨Nat.zero_le _, Nat.zero_le _⟩) hS (fun _ h9 => h9) (fun v9 t9 H locs hv9 hp9 hz9 hk9 hS => ?_)
    obtain ⟨rfl, hw⟩ := hp9
    have hw := XW.moved hv9.symm hw
    refine W.eq (g2 := F0 m 13 ls [.long (lz (frB 23 B))]) rfl ?_
    have hfr := frB_r 23 B (by decide)
    refine lv_lconst (v := lz 0) hx hb d_Fm_inf1_13 (by decide) ?_
    refine z_lif_ne (tgt := 22) hx hb d_Fm_inf1_14 d_Fm_inf1_15 rfl ⟨by omega, by omega⟩ ⟨by omega, by omega⟩ (fun hc14 => ?_) (fun hc14 => ?_)
    · refine lv_iconst (v := iz 0) hx hb d_Fm_inf1_22 rfl ?_
      exact z_zret hx hb hr rfl hlk hS (zR_st zSt_XW) ⟨by
          first
            | (rw [if_neg (fun h8 => hc5 (if_pos h8.1))])
            | (rw [if_neg (fun h8 => hc14 h8.2)])
            | (rw [if_pos ⟨by by_cases h8 : exB 23 256 B = 255; exact h8; rw [if_neg h8] at hc5; omega, hc14⟩]), hw⟩ d_Fm_inf1_23
    · refine lv_iconst (v := iz 1) hx hb d_Fm_inf1_18 rfl ?_
      refine lv_goto (tgt := 23) hx hb d_Fm_inf1_19 rfl ?_
      exact z_zret hx hb hr rfl hlk hS (zR_st zSt_XW) ⟨by
          first
            | (rw [if_neg (fun h8 => hc5 (if_pos h8.1))])
            | (rw [if_neg (fun h8 => hc14 h8.2)])
            | (rw [if_pos ⟨by by_cases h8 : exB 23 256 B = 255; exact h8; rw [if_neg h8] at hc5; omega, hc14⟩]), hw⟩ d_Fm_inf1_23
theorem d_Fm_coef1_0 : decode b_Fm_coefficient 0 = .ok (.aload_n 0, 1) := by decide +kernel
theorem d_Fm_coef1_1 : decode b_Fm_coefficient 1 = .ok (.lload_n 1, 1) := by decide +kernel
theorem d_Fm_coef1_2 : decode b_Fm_coefficient 2 = .ok (.invokevirtual 39, 3) := by decide +kernel
theorem d_Fm_coef1_5 : decode b_Fm_coefficient 5 = .ok (.ifCond .ne (7), 3) := by decide +kernel
theorem d_Fm_coef1_8 : decode b_Fm_coefficient 8 = .ok (.lconst 0, 1) := by decide +kernel
theorem d_Fm_coef1_9 : decode b_Fm_coefficient 9 = .ok (.goto (9), 3) := by decide +kernel
theorem d_Fm_coef1_12 : decode b_Fm_coefficient 12 = .ok (.lconst 1, 1) := by decide +kernel
theorem d_Fm_coef1_13 : decode b_Fm_coefficient 13 = .ok (.aload_n 0, 1) := by decide +kernel
theorem d_Fm_coef1_14 : decode b_Fm_coefficient 14 = .ok (.getfield 29, 3) := by decide +kernel
theorem d_Fm_coef1_17 : decode b_Fm_coefficient 17 = .ok (.lshl, 1) := by decide +kernel
theorem d_Fm_coef1_18 : decode b_Fm_coefficient 18 = .ok (.lstore_n 3, 1) := by decide +kernel
theorem d_Fm_coef1_19 : decode b_Fm_coefficient 19 = .ok (.lload_n 3, 1) := by decide +kernel
theorem d_Fm_coef1_20 : decode b_Fm_coefficient 20 = .ok (.aload_n 0, 1) := by decide +kernel
theorem d_Fm_coef1_21 : decode b_Fm_coefficient 21 = .ok (.lload_n 1, 1) := by decide +kernel
theorem d_Fm_coef1_22 : decode b_Fm_coefficient 22 = .ok (.invokevirtual 47, 3) := by decide +kernel
theorem d_Fm_coef1_25 : decode b_Fm_coefficient 25 = .ok (.lor, 1) := by decide +kernel
theorem d_Fm_coef1_26 : decode b_Fm_coefficient 26 = .ok (.lreturn, 1) := by decide +kernel
set_option maxHeartbeats 4000000 in
set_option maxRecDepth 100000 in
theorem c_Fm_coef1 (l : Launch) (D : va_G) (cI cB : ClassId) (x d la t ba tt : Nat) (ad : Nat → Nat) (V : Int) (tx : List Int) (B : Int64) : Ct l y_Fm_coefficient (ws_Fm_coefficient) 1 (AX x d la t ba) [.ref (ad 1), .long B] (XW D cI cB x d la t ba tt ad V tx) (zR (some (.long (lz (cfB 23 256 B)))) (XW D cI cB x d la t ba tt ad V tx)) := by
  refine z_body zSt_XW (by decide +kernel) rfl (Nat.le_of_ble_eq_true rfl) ?_
  intro p e s m args below meth c ls hx hb hml hr hlk hts0 hown hpre0 H locs hpre hS hl
  have hts : ∀ w ∈ TBL, w.before args s = true := fun w hw => hts0 w (List.mem_cons_of_mem _ hw)
  have hl : lv_has ls 5 [(0, .ref (ad 1)), (1, .long B)] := hl
  have hw := hpre
  have hst0 := hpre0.st
  refine lv_aload_n hx hb d_Fm_coef1_0 rfl (lv_at hl 0 rfl) ?_
  refine lv_lload_n hx hb d_Fm_coef1_1 rfl (lv_at hl 1 rfl) ?_
  have hct := c_Fm_exp1 l D cI cB x d la t ba tt ad V tx B
  refine z_go (va_runV (As := [.long B]) (rest := []) ⟨hx, hb, hml, hown, hts⟩ hct.2 (z_cwV hts w_Fm_exponent tw_157 (by decide)) (z_preV hct.1 (va_recvE hst0.2.2 (i := 1) (by decide) hS) hw) rfl rfl hl.1 rfl (lv_room (Nat.le_of_ble_eq_true rfl)) d_Fm_coef1_2 ⟨Nat.zero_le _, Nat.zero_le _⟩) hS (fun _ h9 => h9) (fun v9 t9 H locs hv9 hp9 hz9 hk9 hS => ?_)
  obtain ⟨rfl, hw⟩ := hp9
  have hw := XW.moved hv9.symm hw
  refine W.eq (g2 := F0 m 5 ls [.int (iz (exB 23 256 B))]) rfl ?_
  have hxr := exB_r 23 256 (by decide) B
  refine z_if_ne (tgt := 12) hx hb d_Fm_coef1_5 rfl ⟨by omega, by omega⟩ (fun hc5 => ?_) (fun hc5 => ?_)
  · refine lv_lconst (v := lz 1) hx hb d_Fm_coef1_12 (by decide) ?_
    refine lv_aload_n hx hb d_Fm_coef1_13 rfl (lv_at hl 0 rfl) ?_
    refine va_getE hx hb hst0.2.2 (i := 1) (by decide) hS hown (List.mem_of_getElem? (i := 0) rfl) (hts _ tw_532) (fun _ h9 => h9) d_Fm_coef1_14 ?_
    refine z_topi (y := iz (23)) (by decide) ?_
    refine z_lshl hx hb 23 d_Fm_coef1_17 rfl (by decide) ⟨by omega, by omega⟩ ⟨by omega, by omega⟩ ?_
    refine lv_lstore_n hx hb d_Fm_coef1_18 rfl hl (by decide) rfl (fun ls hl => ?_)
    have hl : lv_has ls 5 [(3, .long (lz (1 * 2 ^ 23))), (0, .ref (ad 1)), (1, .long B)] := hl
    refine lv_lload_n hx hb d_Fm_coef1_19 rfl (lv_at hl 0 rfl) ?_
    refine lv_aload_n hx hb d_Fm_coef1_20 rfl (lv_at hl 1 rfl) ?_
    refine lv_lload_n hx hb d_Fm_coef1_21 rfl (lv_at hl 2 rfl) ?_
    have hct := c_Fm_fr1 l D cI cB x d la t ba tt ad V tx B
    refine z_go (va_runV (As := [.long B]) (rest := [.long (lz (1 * 2 ^ 23))]) ⟨hx, hb, hml, hown, hts⟩ hct.2 (z_cwV hts w_Fm_fraction tw_167 (by decide)) (z_preV hct.1 (va_recvE hst0.2.2 (i := 1) (by decide) hS) hw) rfl rfl hl.1 rfl (lv_room (Nat.le_of_ble_eq_true rfl)) d_Fm_coef1_22 ⟨Nat.zero_le _, Nat.zero_le _⟩) hS (fun _ h9 => h9) (fun v9 t9 H locs hv9 hp9 hz9 hk9 hS => ?_)
    obtain ⟨rfl, hw⟩ := hp9
    have hw := XW.moved hv9.symm hw
    refine W.eq (g2 := F0 m 25 ls [.long (lz (frB 23 B)), .long (lz (1 * 2 ^ 23))]) rfl ?_
    refine lv_lor hx hb d_Fm_coef1_25 ?_
    exact z_lret hx hb hr hlk hS (zR_st zSt_XW) ⟨by first | rw [cfB_0 (by decide) hc5] | rw [cfB_1 (by decide) hc5], hw⟩ d_Fm_coef1_26
  · refine lv_lconst (v := lz 0) hx hb d_Fm_coef1_8 (by decide) ?_
    refine lv_goto (tgt := 18) hx hb d_Fm_coef1_9 rfl ?_
    refine lv_lstore_n hx hb d_Fm_coef1_18 rfl hl (by decide) rfl (fun ls hl => ?_)
    have hl : lv_has ls 5 [(3, .long (lz 0)), (0, .ref (ad 1)), (1, .long B)] := hl
    refine lv_lload_n hx hb d_Fm_coef1_19 rfl (lv_at hl 0 rfl) ?_
    refine lv_aload_n hx hb d_Fm_coef1_20 rfl (lv_at hl 1 rfl) ?_
    refine lv_lload_n hx hb d_Fm_coef1_21 rfl (lv_at hl 2 rfl) ?_
    have hct := c_Fm_fr1 l D cI cB x d la t ba tt ad V tx B
    refine z_go (va_runV (As := [.long B]) (rest := [.long (lz 0)]) ⟨hx, hb, hml, hown, hts⟩ hct.2 (z_cwV hts w_Fm_fraction tw_167 (by decide)) (z_preV hct.1 (va_recvE hst0.2.2 (i := 1) (by decide) hS) hw) rfl rfl hl.1 rfl (lv_room (Nat.le_of_ble_eq_true rfl)) d_Fm_coef1_22 ⟨Nat.zero_le _, Nat.zero_le _⟩) hS (fun _ h9 => h9) (fun v9 t9 H locs hv9 hp9 hz9 hk9 hS => ?_)
    obtain ⟨rfl, hw⟩ := hp9
    have hw := XW.moved hv9.symm hw
    refine W.eq (g2 := F0 m 25 ls [.long (lz (frB 23 B)), .long (lz 0)]) rfl ?_
    refine lv_lor hx hb d_Fm_coef1_25 ?_
    exact z_lret hx hb hr hlk hS (zR_st zSt_XW) ⟨by first | rw [cfB_0 (by decide) hc5] | rw [cfB_1 (by decide) hc5], hw⟩ d_Fm_coef1_26
theorem d_Fm_pow1_0 : decode b_Fm_power 0 = .ok (.aload_n 0, 1) := by decide +kernel
theorem d_Fm_pow1_1 : decode b_Fm_power 1 = .ok (.getfield 36, 3) := by decide +kernel
theorem d_Fm_pow1_4 : decode b_Fm_power 4 = .ok (.aload_n 0, 1) := by decide +kernel
theorem d_Fm_pow1_5 : decode b_Fm_power 5 = .ok (.lload_n 1, 1) := by decide +kernel
theorem d_Fm_pow1_6 : decode b_Fm_power 6 = .ok (.invokevirtual 39, 3) := by decide +kernel
theorem d_Fm_pow1_9 : decode b_Fm_power 9 = .ok (.iconst 1, 1) := by decide +kernel
theorem d_Fm_pow1_10 : decode b_Fm_power 10 = .ok (.isub, 1) := by decide +kernel
theorem d_Fm_pow1_11 : decode b_Fm_power 11 = .ok (.iconst 0, 1) := by decide +kernel
theorem d_Fm_pow1_12 : decode b_Fm_power 12 = .ok (.invokestatic 51, 3) := by decide +kernel
theorem d_Fm_pow1_15 : decode b_Fm_power 15 = .ok (.iadd, 1) := by decide +kernel
theorem d_Fm_pow1_16 : decode b_Fm_power 16 = .ok (.ireturn, 1) := by decide +kernel
set_option maxHeartbeats 4000000 in
set_option maxRecDepth 100000 in
theorem c_Fm_pow1 (l : Launch) (D : va_G) (cI cB : ClassId) (x d la t ba tt : Nat) (ad : Nat → Nat) (V : Int) (tx : List Int) (B : Int64) : Ct l y_Fm_power (ws_Fm_power) 1 (AX x d la t ba) [.ref (ad 1), .long B] (XW D cI cB x d la t ba tt ad V tx) (zR (some (.int (iz (-149 + max (exB 23 256 B - 1) 0)))) (XW D cI cB x d la t ba tt ad V tx)) := by
  refine z_body zSt_XW (by decide +kernel) rfl (Nat.le_of_ble_eq_true rfl) ?_
  intro p e s m args below meth c ls hx hb hml hr hlk hts0 hown hpre0 H locs hpre hS hl
  have hts : ∀ w ∈ TBL, w.before args s = true := fun w hw => hts0 w (List.mem_cons_of_mem _ hw)
  have hl : lv_has ls 3 [(0, .ref (ad 1)), (1, .long B)] := hl
  have hw := hpre
  have hst0 := hpre0.st
  refine lv_aload_n hx hb d_Fm_pow1_0 rfl (lv_at hl 0 rfl) ?_
  refine va_getE hx hb hst0.2.2 (i := 1) (by decide) hS hown (List.mem_of_getElem? (i := 2) rfl) (hts _ tw_536) (fun _ h9 => h9) d_Fm_pow1_1 ?_
  refine z_topi (y := iz (-149)) (by decide) ?_
  refine lv_aload_n hx hb d_Fm_pow1_4 rfl (lv_at hl 0 rfl) ?_
  refine lv_lload_n hx hb d_Fm_pow1_5 rfl (lv_at hl 1 rfl) ?_
  have hct := c_Fm_exp1 l D cI cB x d la t ba tt ad V tx B
  refine z_go (va_runV (As := [.long B]) (rest := [.int (iz (-149))]) ⟨hx, hb, hml, hown, hts⟩ hct.2 (z_cwV hts w_Fm_exponent tw_157 (by decide)) (z_preV hct.1 (va_recvE hst0.2.2 (i := 1) (by decide) hS) hw) rfl rfl hl.1 rfl (lv_room (Nat.le_of_ble_eq_true rfl)) d_Fm_pow1_6 ⟨Nat.zero_le _, Nat.zero_le _⟩) hS (fun _ h9 => h9) (fun v9 t9 H locs hv9 hp9 hz9 hk9 hS => ?_)
  obtain ⟨rfl, hw⟩ := hp9
  have hw := XW.moved hv9.symm hw
  refine W.eq (g2 := F0 m 9 ls [.int (iz (exB 23 256 B)), .int (iz (-149))]) rfl ?_
  have hxr := exB_r 23 256 (by decide) B
  refine lv_iconst (v := iz 1) hx hb d_Fm_pow1_9 rfl ?_
  refine z_isub hx hb d_Fm_pow1_10 ?_
  refine lv_iconst (v := iz 0) hx hb d_Fm_pow1_11 rfl ?_
  refine z_mmax hx hb (hml.trans hl.1.symm) hown (hts _ tw_241) (hts _ tw_242) (hts _ tw_16) (hts _ twm_max) (Nat.le_of_ble_eq_true rfl) (Nat.le_of_ble_eq_true rfl) (Nat.zero_le _) (Nat.zero_le _) ⟨by omega, by omega⟩ ⟨by omega, by omega⟩ d_Fm_pow1_12 ?_
  refine z_iadd hx hb d_Fm_pow1_15 ?_
  exact z_iret hx hb hr hlk hS (zR_st zSt_XW) ⟨rfl, hw⟩ d_Fm_pow1_16
