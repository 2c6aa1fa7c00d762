/-! the reference's whole call -/
theorem TxM_nil {g : Int → Int} : TxM g 0 [] := ⟨rfl, by decide, fun i h => absurd h (Nat.not_lt_zero _), fun ch h => absurd h List.not_mem_nil⟩
theorem TxM_copy {g h : Int → Int} {n : Int} {tx : List Int} (q : TxM g n tx) (hh : ∀ j, 0 ≤ j → j < n → h j = g j) : TxM h n tx :=
  ⟨q.1, q.2.1, fun i hi => by rw [hh (i : Int) (by omega) (by have := q.1; omega)]; exact q.2.2.1 i hi, q.2.2.2⟩
theorem TxM_b {g : Int → Int} {n : Int} {tx : List Int} (q : TxM g n tx) {i : Int} (h0 : 0 ≤ i) (h1 : i < n) : 0 ≤ g i ∧ g i < 128 := by
  have e : g ((i.toNat : Nat) : Int) = tx.getD i.toNat 0 := q.2.2.1 i.toNat (by have := q.1; omega)
  rw [Int.toNat_of_nonneg h0] at e
  rw [e]
  exact tx_getD q.2.2.2 _
theorem szB_53 (B : Int64) : (B &&& (lz (-9223372036854775808) ^^^ lz (-1))) &&& lz (-1) = lz ((uN B % 2 ^ 63 : Nat) : Int) := by
  refine uN_inj ?_
  have h1 := Nat.mod_lt (uN B) (show 0 < 2 ^ 63 by decide)
  rw [uN_lz (by omega), uN_and, uN_and, show uN (lz (-9223372036854775808) ^^^ lz (-1)) = 2 ^ 63 - 1 by decide, show uN (lz (-1)) = 2 ^ 64 - 1 by decide, Nat.and_two_pow_sub_one_eq_mod, Nat.and_two_pow_sub_one_eq_mod]
  omega
theorem szB_24 (B : Int64) : (B &&& (lz 2147483648 ^^^ lz (-1))) &&& lz 4294967295 = lz ((uN B % 2 ^ 31 : Nat) : Int) := by
  refine uN_inj ?_
  have h1 := Nat.mod_lt (uN B) (show 0 < 2 ^ 31 by decide)
  rw [uN_lz (by omega), uN_and, uN_and, Nat.and_assoc, show uN (lz 2147483648 ^^^ lz (-1)) &&& uN (lz 4294967295) = 2 ^ 31 - 1 by decide, Nat.and_two_pow_sub_one_eq_mod]
theorem sz_53 {B : Int64} {sz : Int} (h : sz = ((uN B % 2 ^ 63 : Nat) : Int)) : sz / 2 ^ 52 = exB 52 2048 B ∧ sz % 2 ^ 52 = frB 52 B ∧ 0 ≤ sz ∧ sz ≤ 9223372036854775807 := by
  unfold exB frB
  omega
theorem sz_24 {B : Int64} {sz : Int} (h : sz = ((uN B % 2 ^ 31 : Nat) : Int)) : sz / 2 ^ 23 = exB 23 256 B ∧ sz % 2 ^ 23 = frB 23 B ∧ 0 ≤ sz ∧ sz ≤ 2147483647 := by
  unfold exB frB
  omega
theorem szc_53 {B : Int64} {sz : Int} (h : sz = ((uN B % 2 ^ 63 : Nat) : Int)) : (if 4503599627370495 < sz then 2 ^ 52 + sz % 2 ^ 52 else sz % 2 ^ 52) = cfB 52 2048 B := by
  obtain ⟨h1, h2, h3, h4⟩ := sz_53 h
  unfold cfB
  rw [← h1, ← h2]
  by_cases h8 : 4503599627370495 < sz
  · rw [if_pos h8, if_neg (by omega)]
  · rw [if_neg h8, if_pos (by omega)]
theorem szc_24 {B : Int64} {sz : Int} (h : sz = ((uN B % 2 ^ 31 : Nat) : Int)) : (if 8388607 < sz then 2 ^ 23 + sz % 2 ^ 23 else sz % 2 ^ 23) = cfB 23 256 B := by
  obtain ⟨h1, h2, h3, h4⟩ := sz_24 h
  unfold cfB
  rw [← h1, ← h2]
  by_cases h8 : 8388607 < sz
  · rw [if_pos h8, if_neg (by omega)]
  · rw [if_neg h8, if_pos (by omega)]
theorem outT1_lo (kd : Int) (pr : Nat) (gr pt : Int) (B : Int32) : outT 23 255 (-149) kd pr gr pt (B.toInt64 &&& lz 4294967295) = outT 23 255 (-149) kd pr gr pt B.toInt64 := by
  have h : uN (B.toInt64 &&& lz 4294967295) = uN B.toInt64 % 4294967296 := by
    rw [show lz 4294967295 = 4294967295 by decide]
    exact uN_lo _
  have e1 : exB 23 256 (B.toInt64 &&& lz 4294967295) = exB 23 256 B.toInt64 := by unfold exB; rw [h]; omega
  have e2 : frB 23 (B.toInt64 &&& lz 4294967295) = frB 23 B.toInt64 := by unfold frB; rw [h]; omega
  unfold outT cfB
  rw [e1, e2]
def SMo (A : Nat → Prop) (kI vI kN vN : Nat) (U : State) (H : Heap) : Prop := SStr A kI vI infL U H ∧ SStr A kN vN nanL U H ∧ vk_R "ExactNotationModel" 132 "Infinity" kI U ∧ vk_R "ExactNotationModel" 130 "NaN" kN U
theorem zSt_SMo {A : Nat → Prop} {kI vI kN vN : Nat} : zSt (SMo A kI vI kN vN) := fun _ _ _ hv h => ⟨h.1.moved hv.alike, h.2.1.moved hv.alike, h.2.2.1.warm hv, h.2.2.2.warm hv⟩
def MR (D : va_G) (cB cL : ClassId) (mo rs ex xd li bo cu cd : Nat) (code : Int) (rt : List Int) (U : State) (H : Heap) : Prop := ∃ (bi le : Int) (bt : List Int) (V C : Int), MW D cB cL mo rs ex xd li bo cu cd code bi le rt bt V C U H
theorem zSa_MR {D : va_G} {cB cL : ClassId} {mo rs ex xd li bo cu cd : Nat} {code : Int} {rt : List Int} : zSa (MR D cB cL mo rs ex xd li bo cu cd code rt) := fun _ _ _ hv h => by
  obtain ⟨bi, le, bt, V, C, h⟩ := h
  exact ⟨bi, le, bt, V, C, MW.moved hv h⟩
theorem zSt_MR {D : va_G} {cB cL : ClassId} {mo rs ex xd li bo cu cd : Nat} {code : Int} {rt : List Int} : zSt (MR D cB cL mo rs ex xd li bo cu cd code rt) := zSt_of zSa_MR
theorem d_Mo_shownBad53_0 : decode b_Mo_shown 0 = .ok (.aload_n 0, 1) := by decide +kernel
theorem d_Mo_shownBad53_1 : decode b_Mo_shown 1 = .ok (.iload_n 1, 1) := by decide +kernel
theorem d_Mo_shownBad53_2 : decode b_Mo_shown 2 = .ok (.ifCond .lt (23), 3) := by decide +kernel
theorem d_Mo_shownBad53_5 : decode b_Mo_shown 5 = .ok (.iload_n 1, 1) := by decide +kernel
theorem d_Mo_shownBad53_6 : decode b_Mo_shown 6 = .ok (.iconst 2, 1) := by decide +kernel
theorem d_Mo_shownBad53_7 : decode b_Mo_shown 7 = .ok (.if_icmp .gt (18), 3) := by decide +kernel
theorem d_Mo_shownBad53_10 : decode b_Mo_shown 10 = .ok (.iload_n 2, 1) := by decide +kernel
theorem d_Mo_shownBad53_11 : decode b_Mo_shown 11 = .ok (.ifCond .lt (14), 3) := by decide +kernel
theorem d_Mo_shownBad53_14 : decode b_Mo_shown 14 = .ok (.iload_n 2, 1) := by decide +kernel
theorem d_Mo_shownBad53_15 : decode b_Mo_shown 15 = .ok (.sipush (1200), 3) := by decide +kernel
theorem d_Mo_shownBad53_18 : decode b_Mo_shown 18 = .ok (.if_icmp .gt (7), 3) := by decide +kernel
theorem d_Mo_shownBad53_25 : decode b_Mo_shown 25 = .ok (.iconst 0, 1) := by decide +kernel
theorem d_Mo_shownBad53_26 : decode b_Mo_shown 26 = .ok (.iconst 1, 1) := by decide +kernel
theorem d_Mo_shownBad53_27 : decode b_Mo_shown 27 = .ok (.invokevirtual 37, 3) := by decide +kernel
theorem d_Mo_shownBad53_30 : decode b_Mo_shown 30 = .ok (.ifCond .ne (5), 3) := by decide +kernel
theorem d_Mo_shownBad53_33 : decode b_Mo_shown 33 = .ok (.iconst 0, 1) := by decide +kernel
theorem d_Mo_shownBad53_34 : decode b_Mo_shown 34 = .ok (.ireturn, 1) := by decide +kernel
set_option maxHeartbeats 4000000 in
set_option maxRecDepth 100000 in
theorem c_Mo_shownBad53 (l : Launch) (D : va_G) (cB cL : ClassId) (mo rs ex xd li bo cu cd : Nat) (co : Int) (rt bt : List Int) (V C : Int) (kd pq gr pt : Int) (B : Int64) (hr9 : iR kd ∧ iR pq) (ho : kd < 0 ∨ 2 < kd ∨ pq < 0 ∨ 1200 < pq) : Ct l y_Mo_shown (ws_Mo_shown) 4 (AM mo rs ex xd li bo cu cd) [.ref mo, .int (iz kd), .int (iz pq), .int (iz gr), .int (iz pt), .long B] (MW D cB cL mo rs ex xd li bo cu cd co 53 (-1074) rt bt V C) (zR (some (.int (iz 0))) (MR D cB cL mo rs ex xd li bo cu cd 1 rt)) := by
  refine z_body zSt_MW (by decide +kernel) rfl (Nat.le_of_ble_eq_true rfl) ?_
  intro p e s m args below meth c ls hx hb hml hr hlk hts0 hown hpre0 H locs hpre hS hl
  have hts : ∀ w ∈ TBL, w.before args s = true := fun w hw => hts0 w (List.mem_cons_of_mem _ hw)
  have hl : lv_has ls 11 [(0, .ref mo), (1, .int (iz kd)), (2, .int (iz pq)), (3, .int (iz gr)), (4, .int (iz pt)), (5, .long B)] := hl
  have hw := hpre
  have hr1 := hr9.1
  have hr2 := hr9.2
  refine lv_aload_n hx hb d_Mo_shownBad53_0 rfl (lv_at hl 0 rfl) ?_
  refine lv_iload_n hx hb d_Mo_shownBad53_1 rfl (lv_at hl 1 rfl) ?_
  refine z_if_lt (tgt := 25) hx hb d_Mo_shownBad53_2 rfl hr1 (fun hc2 => ?_) (fun hc2 => ?_)
  · refine lv_iconst (v := iz 0) hx hb d_Mo_shownBad53_25 rfl ?_
    refine lv_iconst (v := iz 1) hx hb d_Mo_shownBad53_26 rfl ?_
    have hct := c_Mo_good l D cB cL mo rs ex xd li bo cu cd co 53 (-1074) rt bt V C 0 1 (by omega) ⟨by omega, by omega⟩
    have hw9 := hw
    obtain ⟨fc, nc, pp, ⟨len, used, bl, fr, fb, lm, fe, ne, pe, ⟨hK, hP, hD⟩, hrt, hbt, hE, hpe, hlm⟩, hC⟩ := hw9
    have hr1 := hrt.1
    have hr2 := hrt.2.1
    have hb1 := hbt.1
    have hb2 := hbt.2.1
    have hE1 := hE.1
    have hC1 := hC.1
    have hP : va_P D vwCl [(mo, .inr (3, [.ref rs, .int (iz len), .int (iz co), .ref ex, .int (iz 53), .int (iz (-1074)), .ref li, .int (iz used), .ref bo, .int (iz bl), .ref cu])), (rs, .inl (cB, 4096, .inl (az fr))), (ex, .inr (4, [.ref xd, .int (iz ne), .int (iz pe)])), (xd, .inl (cB, 1300, .inl (az fe))), (li, .inl (cL, 160, .inr (.inl (azl lm)))), (bo, .inl (cB, 4096, .inl (az fb))), (cu, .inr (4, [.ref cd, .int (iz nc), .int (iz pp)])), (cd, .inl (cB, 1300, .inl (az fc)))] H := hP
    have hD : va_D (AM mo rs ex xd li bo cu cd) [(mo, .inr (3, [.ref rs, .int (iz len), .int (iz co), .ref ex, .int (iz 53), .int (iz (-1074)), .ref li, .int (iz used), .ref bo, .int (iz bl), .ref cu])), (rs, .inl (cB, 4096, .inl (az fr))), (ex, .inr (4, [.ref xd, .int (iz ne), .int (iz pe)])), (xd, .inl (cB, 1300, .inl (az fe))), (li, .inl (cL, 160, .inr (.inl (azl lm)))), (bo, .inl (cB, 4096, .inl (az fb))), (cu, .inr (4, [.ref cd, .int (iz nc), .int (iz pp)])), (cd, .inl (cB, 1300, .inl (az fc)))] := hD
    refine z_go (va_runV (As := [.int (iz 0), .int (iz 1)]) (rest := []) ⟨hx, hb, hml, hown, hts⟩ hct.2 (z_cwV hts w_Mo_good tw_435 (by decide)) (z_preV hct.1 (va_recv hK hP (ci := 3) (q0 := 0) rfl rfl) hw) rfl rfl hl.1 rfl (lv_room (Nat.le_of_ble_eq_true rfl)) d_Mo_shownBad53_27 ⟨Nat.zero_le _, Nat.zero_le _⟩) hS (fun _ h9 => h9) (fun v9 t9 H locs hv9 hp9 hz9 hk9 hS => ?_)
    obtain ⟨rfl, hw⟩ := hp9
    have hw := MW.moved hv9.symm hw
    rw [if_pos rfl] at hw
    refine W.eq (g2 := F0 m 30 ls [.int (iz 0)]) rfl ?_
    refine z_if_ne (tgt := 35) hx hb d_Mo_shownBad53_30 rfl ⟨by omega, by omega⟩ (fun hc30 => ?_) (fun hc30 => ?_)
    · exfalso
      omega
    · refine lv_iconst (v := iz 0) hx hb d_Mo_shownBad53_33 rfl ?_
      exact z_iret hx hb hr hlk hS (zR_st zSt_MR) ⟨rfl, _, _, _, _, _, hw⟩ d_Mo_shownBad53_34
  · refine lv_iload_n hx hb d_Mo_shownBad53_5 rfl (lv_at hl 1 rfl) ?_
    refine lv_iconst (v := iz 2) hx hb d_Mo_shownBad53_6 rfl ?_
    refine z_icmp_gt (tgt := 25) hx hb d_Mo_shownBad53_7 rfl hr1 ⟨by omega, by omega⟩ (fun hc7 => ?_) (fun hc7 => ?_)
    · refine lv_iconst (v := iz 0) hx hb d_Mo_shownBad53_25 rfl ?_
      refine lv_iconst (v := iz 1) hx hb d_Mo_shownBad53_26 rfl ?_
      have hct := c_Mo_good l D cB cL mo rs ex xd li bo cu cd co 53 (-1074) rt bt V C 0 1 (by omega) ⟨by omega, by omega⟩
      have hw9 := hw
      obtain ⟨fc, nc, pp, ⟨len, used, bl, fr, fb, lm, fe, ne, pe, ⟨hK, hP, hD⟩, hrt, hbt, hE, hpe, hlm⟩, hC⟩ := hw9
      have hr1 := hrt.1
      have hr2 := hrt.2.1
      have hb1 := hbt.1
      have hb2 := hbt.2.1
      have hE1 := hE.1
      have hC1 := hC.1
      have hP : va_P D vwCl [(mo, .inr (3, [.ref rs, .int (iz len), .int (iz co), .ref ex, .int (iz 53), .int (iz (-1074)), .ref li, .int (iz used), .ref bo, .int (iz bl), .ref cu])), (rs, .inl (cB, 4096, .inl (az fr))), (ex, .inr (4, [.ref xd, .int (iz ne), .int (iz pe)])), (xd, .inl (cB, 1300, .inl (az fe))), (li, .inl (cL, 160, .inr (.inl (azl lm)))), (bo, .inl (cB, 4096, .inl (az fb))), (cu, .inr (4, [.ref cd, .int (iz nc), .int (iz pp)])), (cd, .inl (cB, 1300, .inl (az fc)))] H := hP
      have hD : va_D (AM mo rs ex xd li bo cu cd) [(mo, .inr (3, [.ref rs, .int (iz len), .int (iz co), .ref ex, .int (iz 53), .int (iz (-1074)), .ref li, .int (iz used), .ref bo, .int (iz bl), .ref cu])), (rs, .inl (cB, 4096, .inl (az fr))), (ex, .inr (4, [.ref xd, .int (iz ne), .int (iz pe)])), (xd, .inl (cB, 1300, .inl (az fe))), (li, .inl (cL, 160, .inr (.inl (azl lm)))), (bo, .inl (cB, 4096, .inl (az fb))), (cu, .inr (4, [.ref cd, .int (iz nc), .int (iz pp)])), (cd, .inl (cB, 1300, .inl (az fc)))] := hD
      refine z_go (va_runV (As := [.int (iz 0), .int (iz 1)]) (rest := []) ⟨hx, hb, hml, hown, hts⟩ hct.2 (z_cwV hts w_Mo_good tw_435 (by decide)) (z_preV hct.1 (va_recv hK hP (ci := 3) (q0 := 0) rfl rfl) hw) rfl rfl hl.1 rfl (lv_room (Nat.le_of_ble_eq_true rfl)) d_Mo_shownBad53_27 ⟨Nat.zero_le _, Nat.zero_le _⟩) hS (fun _ h9 => h9) (fun v9 t9 H locs hv9 hp9 hz9 hk9 hS => ?_)
      obtain ⟨rfl, hw⟩ := hp9
      have hw := MW.moved hv9.symm hw
      rw [if_pos rfl] at hw
      refine W.eq (g2 := F0 m 30 ls [.int (iz 0)]) rfl ?_
      refine z_if_ne (tgt := 35) hx hb d_Mo_shownBad53_30 rfl ⟨by omega, by omega⟩ (fun hc30 => ?_) (fun hc30 => ?_)
      · exfalso
        omega
      · refine lv_iconst (v := iz 0) hx hb d_Mo_shownBad53_33 rfl ?_
        exact z_iret hx hb hr hlk hS (zR_st zSt_MR) ⟨rfl, _, _, _, _, _, hw⟩ d_Mo_shownBad53_34
    · refine lv_iload_n hx hb d_Mo_shownBad53_10 rfl (lv_at hl 2 rfl) ?_
      refine z_if_lt (tgt := 25) hx hb d_Mo_shownBad53_11 rfl hr2 (fun hc11 => ?_) (fun hc11 => ?_)
      · refine lv_iconst (v := iz 0) hx hb d_Mo_shownBad53_25 rfl ?_
        refine lv_iconst (v := iz 1) hx hb d_Mo_shownBad53_26 rfl ?_
        have hct := c_Mo_good l D cB cL mo rs ex xd li bo cu cd co 53 (-1074) rt bt V C 0 1 (by omega) ⟨by omega, by omega⟩
        have hw9 := hw
        obtain ⟨fc, nc, pp, ⟨len, used, bl, fr, fb, lm, fe, ne, pe, ⟨hK, hP, hD⟩, hrt, hbt, hE, hpe, hlm⟩, hC⟩ := hw9
        have hr1 := hrt.1
        have hr2 := hrt.2.1
        have hb1 := hbt.1
        have hb2 := hbt.2.1
        have hE1 := hE.1
        have hC1 := hC.1
        have hP : va_P D vwCl [(mo, .inr (3, [.ref rs, .int (iz len), .int (iz co), .ref ex, .int (iz 53), .int (iz (-1074)), .ref li, .int (iz used), .ref bo, .int (iz bl), .ref cu])), (rs, .inl (cB, 4096, .inl (az fr))), (ex, .inr (4, [.ref xd, .int (iz ne), .int (iz pe)])), (xd, .inl (cB, 1300, .inl (az fe))), (li, .inl (cL, 160, .inr (.inl (azl lm)))), (bo, .inl (cB, 4096, .inl (az fb))), (cu, .inr (4, [.ref cd, .int (iz nc), .int (iz pp)])), (cd, .inl (cB, 1300, .inl (az fc)))] H := hP
        have hD : va_D (AM mo rs ex xd li bo cu cd) [(mo, .inr (3, [.ref rs, .int (iz len), .int (iz co), .ref ex, .int (iz 53), .int (iz (-1074)), .ref li, .int (iz used), .ref bo, .int (iz bl), .ref cu])), (rs, .inl (cB, 4096, .inl (az fr))), (ex, .inr (4, [.ref xd, .int (iz ne), .int (iz pe)])), (xd, .inl (cB, 1300, .inl (az fe))), (li, .inl (cL, 160, .inr (.inl (azl lm)))), (bo, .inl (cB, 4096, .inl (az fb))), (cu, .inr (4, [.ref cd, .int (iz nc), .int (iz pp)])), (cd, .inl (cB, 1300, .inl (az fc)))] := hD
        refine z_go (va_runV (As := [.int (iz 0), .int (iz 1)]) (rest := []) ⟨hx, hb, hml, hown, hts⟩ hct.2 (z_cwV hts w_Mo_good tw_435 (by decide)) (z_preV hct.1 (va_recv hK hP (ci := 3) (q0 := 0) rfl rfl) hw) rfl rfl hl.1 rfl (lv_room (Nat.le_of_ble_eq_true rfl)) d_Mo_shownBad53_27 ⟨Nat.zero_le _, Nat.zero_le _⟩) hS (fun _ h9 => h9) (fun v9 t9 H locs hv9 hp9 hz9 hk9 hS => ?_)
        obtain ⟨rfl, hw⟩ := hp9
        have hw := MW.moved hv9.symm hw
        rw [if_pos rfl] at hw
        refine W.eq (g2 := F0 m 30 ls [.int (iz 0)]) rfl ?_
        refine z_if_ne (tgt := 35) hx hb d_Mo_shownBad53_30 rfl ⟨by omega, by omega⟩ (fun hc30 => ?_) (fun hc30 => ?_)
        · exfalso
          omega
        · refine lv_iconst (v := iz 0) hx hb d_Mo_shownBad53_33 rfl ?_
          exact z_iret hx hb hr hlk hS (zR_st zSt_MR) ⟨rfl, _, _, _, _, _, hw⟩ d_Mo_shownBad53_34
      · refine lv_iload_n hx hb d_Mo_shownBad53_14 rfl (lv_at hl 2 rfl) ?_
        refine lv_sipush (v := iz 1200) hx hb d_Mo_shownBad53_15 (by decide) ?_
        refine z_icmp_gt (tgt := 25) hx hb d_Mo_shownBad53_18 rfl hr2 ⟨by omega, by omega⟩ (fun hc18 => ?_) (fun hc18 => ?_)
        · refine lv_iconst (v := iz 0) hx hb d_Mo_shownBad53_25 rfl ?_
          refine lv_iconst (v := iz 1) hx hb d_Mo_shownBad53_26 rfl ?_
          have hct := c_Mo_good l D cB cL mo rs ex xd li bo cu cd co 53 (-1074) rt bt V C 0 1 (by omega) ⟨by omega, by omega⟩
          have hw9 := hw
          obtain ⟨fc, nc, pp, ⟨len, used, bl, fr, fb, lm, fe, ne, pe, ⟨hK, hP, hD⟩, hrt, hbt, hE, hpe, hlm⟩, hC⟩ := hw9
          have hr1 := hrt.1
          have hr2 := hrt.2.1
          have hb1 := hbt.1
          have hb2 := hbt.2.1
          have hE1 := hE.1
          have hC1 := hC.1
          have hP : va_P D vwCl [(mo, .inr (3, [.ref rs, .int (iz len), .int (iz co), .ref ex, .int (iz 53), .int (iz (-1074)), .ref li, .int (iz used), .ref bo, .int (iz bl), .ref cu])), (rs, .inl (cB, 4096, .inl (az fr))), (ex, .inr (4, [.ref xd, .int (iz ne), .int (iz pe)])), (xd, .inl (cB, 1300, .inl (az fe))), (li, .inl (cL, 160, .inr (.inl (azl lm)))), (bo, .inl (cB, 4096, .inl (az fb))), (cu, .inr (4, [.ref cd, .int (iz nc), .int (iz pp)])), (cd, .inl (cB, 1300, .inl (az fc)))] H := hP
          have hD : va_D (AM mo rs ex xd li bo cu cd) [(mo, .inr (3, [.ref rs, .int (iz len), .int (iz co), .ref ex, .int (iz 53), .int (iz (-1074)), .ref li, .int (iz used), .ref bo, .int (iz bl), .ref cu])), (rs, .inl (cB, 4096, .inl (az fr))), (ex, .inr (4, [.ref xd, .int (iz ne), .int (iz pe)])), (xd, .inl (cB, 1300, .inl (az fe))), (li, .inl (cL, 160, .inr (.inl (azl lm)))), (bo, .inl (cB, 4096, .inl (az fb))), (cu, .inr (4, [.ref cd, .int (iz nc), .int (iz pp)])), (cd, .inl (cB, 1300, .inl (az fc)))] := hD
          refine z_go (va_runV (As := [.int (iz 0), .int (iz 1)]) (rest := []) ⟨hx, hb, hml, hown, hts⟩ hct.2 (z_cwV hts w_Mo_good tw_435 (by decide)) (z_preV hct.1 (va_recv hK hP (ci := 3) (q0 := 0) rfl rfl) hw) rfl rfl hl.1 rfl (lv_room (Nat.le_of_ble_eq_true rfl)) d_Mo_shownBad53_27 ⟨Nat.zero_le _, Nat.zero_le _⟩) hS (fun _ h9 => h9) (fun v9 t9 H locs hv9 hp9 hz9 hk9 hS => ?_)
          obtain ⟨rfl, hw⟩ := hp9
          have hw := MW.moved hv9.symm hw
          rw [if_pos rfl] at hw
          refine W.eq (g2 := F0 m 30 ls [.int (iz 0)]) rfl ?_
          refine z_if_ne (tgt := 35) hx hb d_Mo_shownBad53_30 rfl ⟨by omega, by omega⟩ (fun hc30 => ?_) (fun hc30 => ?_)
          · exfalso
            omega
          · refine lv_iconst (v := iz 0) hx hb d_Mo_shownBad53_33 rfl ?_
            exact z_iret hx hb hr hlk hS (zR_st zSt_MR) ⟨rfl, _, _, _, _, _, hw⟩ d_Mo_shownBad53_34
        · exfalso
          omega
theorem d_Mo_shownBad24_0 : decode b_Mo_shown 0 = .ok (.aload_n 0, 1) := by decide +kernel
theorem d_Mo_shownBad24_1 : decode b_Mo_shown 1 = .ok (.iload_n 1, 1) := by decide +kernel
theorem d_Mo_shownBad24_2 : decode b_Mo_shown 2 = .ok (.ifCond .lt (23), 3) := by decide +kernel
theorem d_Mo_shownBad24_5 : decode b_Mo_shown 5 = .ok (.iload_n 1, 1) := by decide +kernel
theorem d_Mo_shownBad24_6 : decode b_Mo_shown 6 = .ok (.iconst 2, 1) := by decide +kernel
theorem d_Mo_shownBad24_7 : decode b_Mo_shown 7 = .ok (.if_icmp .gt (18), 3) := by decide +kernel
theorem d_Mo_shownBad24_10 : decode b_Mo_shown 10 = .ok (.iload_n 2, 1) := by decide +kernel
theorem d_Mo_shownBad24_11 : decode b_Mo_shown 11 = .ok (.ifCond .lt (14), 3) := by decide +kernel
theorem d_Mo_shownBad24_14 : decode b_Mo_shown 14 = .ok (.iload_n 2, 1) := by decide +kernel
theorem d_Mo_shownBad24_15 : decode b_Mo_shown 15 = .ok (.sipush (1200), 3) := by decide +kernel
theorem d_Mo_shownBad24_18 : decode b_Mo_shown 18 = .ok (.if_icmp .gt (7), 3) := by decide +kernel
theorem d_Mo_shownBad24_25 : decode b_Mo_shown 25 = .ok (.iconst 0, 1) := by decide +kernel
theorem d_Mo_shownBad24_26 : decode b_Mo_shown 26 = .ok (.iconst 1, 1) := by decide +kernel
theorem d_Mo_shownBad24_27 : decode b_Mo_shown 27 = .ok (.invokevirtual 37, 3) := by decide +kernel
theorem d_Mo_shownBad24_30 : decode b_Mo_shown 30 = .ok (.ifCond .ne (5), 3) := by decide +kernel
theorem d_Mo_shownBad24_33 : decode b_Mo_shown 33 = .ok (.iconst 0, 1) := by decide +kernel
theorem d_Mo_shownBad24_34 : decode b_Mo_shown 34 = .ok (.ireturn, 1) := by decide +kernel
set_option maxHeartbeats 4000000 in
set_option maxRecDepth 100000 in
theorem c_Mo_shownBad24 (l : Launch) (D : va_G) (cB cL : ClassId) (mo rs ex xd li bo cu cd : Nat) (co : Int) (rt bt : List Int) (V C : Int) (kd pq gr pt : Int) (B : Int64) (hr9 : iR kd ∧ iR pq) (ho : kd < 0 ∨ 2 < kd ∨ pq < 0 ∨ 1200 < pq) : Ct l y_Mo_shown (ws_Mo_shown) 4 (AM mo rs ex xd li bo cu cd) [.ref mo, .int (iz kd), .int (iz pq), .int (iz gr), .int (iz pt), .long B] (MW D cB cL mo rs ex xd li bo cu cd co 24 (-149) rt bt V C) (zR (some (.int (iz 0))) (MR D cB cL mo rs ex xd li bo cu cd 1 rt)) := by
  refine z_body zSt_MW (by decide +kernel) rfl (Nat.le_of_ble_eq_true rfl) ?_
  intro p e s m args below meth c ls hx hb hml hr hlk hts0 hown hpre0 H locs hpre hS hl
  have hts : ∀ w ∈ TBL, w.before args s = true := fun w hw => hts0 w (List.mem_cons_of_mem _ hw)
  have hl : lv_has ls 11 [(0, .ref mo), (1, .int (iz kd)), (2, .int (iz pq)), (3, .int (iz gr)), (4, .int (iz pt)), (5, .long B)] := hl
  have hw := hpre
  have hr1 := hr9.1
  have hr2 := hr9.2
  refine lv_aload_n hx hb d_Mo_shownBad24_0 rfl (lv_at hl 0 rfl) ?_
  refine lv_iload_n hx hb d_Mo_shownBad24_1 rfl (lv_at hl 1 rfl) ?_
  refine z_if_lt (tgt := 25) hx hb d_Mo_shownBad24_2 rfl hr1 (fun hc2 => ?_) (fun hc2 => ?_)
  · refine lv_iconst (v := iz 0) hx hb d_Mo_shownBad24_25 rfl ?_
    refine lv_iconst (v := iz 1) hx hb d_Mo_shownBad24_26 rfl ?_
    have hct := c_Mo_good l D cB cL mo rs ex xd li bo cu cd co 24 (-149) rt bt V C 0 1 (by omega) ⟨by omega, by omega⟩
    have hw9 := hw
    obtain ⟨fc, nc, pp, ⟨len, used, bl, fr, fb, lm, fe, ne, pe, ⟨hK, hP, hD⟩, hrt, hbt, hE, hpe, hlm⟩, hC⟩ := hw9
    have hr1 := hrt.1
    have hr2 := hrt.2.1
    have hb1 := hbt.1
    have hb2 := hbt.2.1
    have hE1 := hE.1
    have hC1 := hC.1
    have hP : va_P D vwCl [(mo, .inr (3, [.ref rs, .int (iz len), .int (iz co), .ref ex, .int (iz 24), .int (iz (-149)), .ref li, .int (iz used), .ref bo, .int (iz bl), .ref cu])), (rs, .inl (cB, 4096, .inl (az fr))), (ex, .inr (4, [.ref xd, .int (iz ne), .int (iz pe)])), (xd, .inl (cB, 1300, .inl (az fe))), (li, .inl (cL, 160, .inr (.inl (azl lm)))), (bo, .inl (cB, 4096, .inl (az fb))), (cu, .inr (4, [.ref cd, .int (iz nc), .int (iz pp)])), (cd, .inl (cB, 1300, .inl (az fc)))] H := hP
    have hD : va_D (AM mo rs ex xd li bo cu cd) [(mo, .inr (3, [.ref rs, .int (iz len), .int (iz co), .ref ex, .int (iz 24), .int (iz (-149)), .ref li, .int (iz used), .ref bo, .int (iz bl), .ref cu])), (rs, .inl (cB, 4096, .inl (az fr))), (ex, .inr (4, [.ref xd, .int (iz ne), .int (iz pe)])), (xd, .inl (cB, 1300, .inl (az fe))), (li, .inl (cL, 160, .inr (.inl (azl lm)))), (bo, .inl (cB, 4096, .inl (az fb))), (cu, .inr (4, [.ref cd, .int (iz nc), .int (iz pp)])), (cd, .inl (cB, 1300, .inl (az fc)))] := hD
    refine z_go (va_runV (As := [.int (iz 0), .int (iz 1)]) (rest := []) ⟨hx, hb, hml, hown, hts⟩ hct.2 (z_cwV hts w_Mo_good tw_435 (by decide)) (z_preV hct.1 (va_recv hK hP (ci := 3) (q0 := 0) rfl rfl) hw) rfl rfl hl.1 rfl (lv_room (Nat.le_of_ble_eq_true rfl)) d_Mo_shownBad24_27 ⟨Nat.zero_le _, Nat.zero_le _⟩) hS (fun _ h9 => h9) (fun v9 t9 H locs hv9 hp9 hz9 hk9 hS => ?_)
    obtain ⟨rfl, hw⟩ := hp9
    have hw := MW.moved hv9.symm hw
    rw [if_pos rfl] at hw
    refine W.eq (g2 := F0 m 30 ls [.int (iz 0)]) rfl ?_
    refine z_if_ne (tgt := 35) hx hb d_Mo_shownBad24_30 rfl ⟨by omega, by omega⟩ (fun hc30 => ?_) (fun hc30 => ?_)
    · exfalso
      omega
    · refine lv_iconst (v := iz 0) hx hb d_Mo_shownBad24_33 rfl ?_
      exact z_iret hx hb hr hlk hS (zR_st zSt_MR) ⟨rfl, _, _, _, _, _, hw⟩ d_Mo_shownBad24_34
  · refine lv_iload_n hx hb d_Mo_shownBad24_5 rfl (lv_at hl 1 rfl) ?_
    refine lv_iconst (v := iz 2) hx hb d_Mo_shownBad24_6 rfl ?_
    refine z_icmp_gt (tgt := 25) hx hb d_Mo_shownBad24_7 rfl hr1 ⟨by omega, by omega⟩ (fun hc7 => ?_) (fun hc7 => ?_)
    · refine lv_iconst (v := iz 0) hx hb d_Mo_shownBad24_25 rfl ?_
      refine lv_iconst (v := iz 1) hx hb d_Mo_shownBad24_26 rfl ?_
      have hct := c_Mo_good l D cB cL mo rs ex xd li bo cu cd co 24 (-149) rt bt V C 0 1 (by omega) ⟨by omega, by omega⟩
      have hw9 := hw
      obtain ⟨fc, nc, pp, ⟨len, used, bl, fr, fb, lm, fe, ne, pe, ⟨hK, hP, hD⟩, hrt, hbt, hE, hpe, hlm⟩, hC⟩ := hw9
      have hr1 := hrt.1
      have hr2 := hrt.2.1
      have hb1 := hbt.1
      have hb2 := hbt.2.1
      have hE1 := hE.1
      have hC1 := hC.1
      have hP : va_P D vwCl [(mo, .inr (3, [.ref rs, .int (iz len), .int (iz co), .ref ex, .int (iz 24), .int (iz (-149)), .ref li, .int (iz used), .ref bo, .int (iz bl), .ref cu])), (rs, .inl (cB, 4096, .inl (az fr))), (ex, .inr (4, [.ref xd, .int (iz ne), .int (iz pe)])), (xd, .inl (cB, 1300, .inl (az fe))), (li, .inl (cL, 160, .inr (.inl (azl lm)))), (bo, .inl (cB, 4096, .inl (az fb))), (cu, .inr (4, [.ref cd, .int (iz nc), .int (iz pp)])), (cd, .inl (cB, 1300, .inl (az fc)))] H := hP
      have hD : va_D (AM mo rs ex xd li bo cu cd) [(mo, .inr (3, [.ref rs, .int (iz len), .int (iz co), .ref ex, .int (iz 24), .int (iz (-149)), .ref li, .int (iz used), .ref bo, .int (iz bl), .ref cu])), (rs, .inl (cB, 4096, .inl (az fr))), (ex, .inr (4, [.ref xd, .int (iz ne), .int (iz pe)])), (xd, .inl (cB, 1300, .inl (az fe))), (li, .inl (cL, 160, .inr (.inl (azl lm)))), (bo, .inl (cB, 4096, .inl (az fb))), (cu, .inr (4, [.ref cd, .int (iz nc), .int (iz pp)])), (cd, .inl (cB, 1300, .inl (az fc)))] := hD
      refine z_go (va_runV (As := [.int (iz 0), .int (iz 1)]) (rest := []) ⟨hx, hb, hml, hown, hts⟩ hct.2 (z_cwV hts w_Mo_good tw_435 (by decide)) (z_preV hct.1 (va_recv hK hP (ci := 3) (q0 := 0) rfl rfl) hw) rfl rfl hl.1 rfl (lv_room (Nat.le_of_ble_eq_true rfl)) d_Mo_shownBad24_27 ⟨Nat.zero_le _, Nat.zero_le _⟩) hS (fun _ h9 => h9) (fun v9 t9 H locs hv9 hp9 hz9 hk9 hS => ?_)
      obtain ⟨rfl, hw⟩ := hp9
      have hw := MW.moved hv9.symm hw
      rw [if_pos rfl] at hw
      refine W.eq (g2 := F0 m 30 ls [.int (iz 0)]) rfl ?_
      refine z_if_ne (tgt := 35) hx hb d_Mo_shownBad24_30 rfl ⟨by omega, by omega⟩ (fun hc30 => ?_) (fun hc30 => ?_)
      · exfalso
        omega
      · refine lv_iconst (v := iz 0) hx hb d_Mo_shownBad24_33 rfl ?_
        exact z_iret hx hb hr hlk hS (zR_st zSt_MR) ⟨rfl, _, _, _, _, _, hw⟩ d_Mo_shownBad24_34
    · refine lv_iload_n hx hb d_Mo_shownBad24_10 rfl (lv_at hl 2 rfl) ?_
      refine z_if_lt (tgt := 25) hx hb d_Mo_shownBad24_11 rfl hr2 (fun hc11 => ?_) (fun hc11 => ?_)
      · refine lv_iconst (v := iz 0) hx hb d_Mo_shownBad24_25 rfl ?_
        refine lv_iconst (v := iz 1) hx hb d_Mo_shownBad24_26 rfl ?_
        have hct := c_Mo_good l D cB cL mo rs ex xd li bo cu cd co 24 (-149) rt bt V C 0 1 (by omega) ⟨by omega, by omega⟩
        have hw9 := hw
        obtain ⟨fc, nc, pp, ⟨len, used, bl, fr, fb, lm, fe, ne, pe, ⟨hK, hP, hD⟩, hrt, hbt, hE, hpe, hlm⟩, hC⟩ := hw9
        have hr1 := hrt.1
        have hr2 := hrt.2.1
        have hb1 := hbt.1
        have hb2 := hbt.2.1
        have hE1 := hE.1
        have hC1 := hC.1
        have hP : va_P D vwCl [(mo, .inr (3, [.ref rs, .int (iz len), .int (iz co), .ref ex, .int (iz 24), .int (iz (-149)), .ref li, .int (iz used), .ref bo, .int (iz bl), .ref cu])), (rs, .inl (cB, 4096, .inl (az fr))), (ex, .inr (4, [.ref xd, .int (iz ne), .int (iz pe)])), (xd, .inl (cB, 1300, .inl (az fe))), (li, .inl (cL, 160, .inr (.inl (azl lm)))), (bo, .inl (cB, 4096, .inl (az fb))), (cu, .inr (4, [.ref cd, .int (iz nc), .int (iz pp)])), (cd, .inl (cB, 1300, .inl (az fc)))] H := hP
        have hD : va_D (AM mo rs ex xd li bo cu cd) [(mo, .inr (3, [.ref rs, .int (iz len), .int (iz co), .ref ex, .int (iz 24), .int (iz (-149)), .ref li, .int (iz used), .ref bo, .int (iz bl), .ref cu])), (rs, .inl (cB, 4096, .inl (az fr))), (ex, .inr (4, [.ref xd, .int (iz ne), .int (iz pe)])), (xd, .inl (cB, 1300, .inl (az fe))), (li, .inl (cL, 160, .inr (.inl (azl lm)))), (bo, .inl (cB, 4096, .inl (az fb))), (cu, .inr (4, [.ref cd, .int (iz nc), .int (iz pp)])), (cd, .inl (cB, 1300, .inl (az fc)))] := hD
        refine z_go (va_runV (As := [.int (iz 0), .int (iz 1)]) (rest := []) ⟨hx, hb, hml, hown, hts⟩ hct.2 (z_cwV hts w_Mo_good tw_435 (by decide)) (z_preV hct.1 (va_recv hK hP (ci := 3) (q0 := 0) rfl rfl) hw) rfl rfl hl.1 rfl (lv_room (Nat.le_of_ble_eq_true rfl)) d_Mo_shownBad24_27 ⟨Nat.zero_le _, Nat.zero_le _⟩) hS (fun _ h9 => h9) (fun v9 t9 H locs hv9 hp9 hz9 hk9 hS => ?_)
        obtain ⟨rfl, hw⟩ := hp9
        have hw := MW.moved hv9.symm hw
        rw [if_pos rfl] at hw
        refine W.eq (g2 := F0 m 30 ls [.int (iz 0)]) rfl ?_
        refine z_if_ne (tgt := 35) hx hb d_Mo_shownBad24_30 rfl ⟨by omega, by omega⟩ (fun hc30 => ?_) (fun hc30 => ?_)
        · exfalso
          omega
        · refine lv_iconst (v := iz 0) hx hb d_Mo_shownBad24_33 rfl ?_
          exact z_iret hx hb hr hlk hS (zR_st zSt_MR) ⟨rfl, _, _, _, _, _, hw⟩ d_Mo_shownBad24_34
      · refine lv_iload_n hx hb d_Mo_shownBad24_14 rfl (lv_at hl 2 rfl) ?_
        refine lv_sipush (v := iz 1200) hx hb d_Mo_shownBad24_15 (by decide) ?_
        refine z_icmp_gt (tgt := 25) hx hb d_Mo_shownBad24_18 rfl hr2 ⟨by omega, by omega⟩ (fun hc18 => ?_) (fun hc18 => ?_)
        · refine lv_iconst (v := iz 0) hx hb d_Mo_shownBad24_25 rfl ?_
          refine lv_iconst (v := iz 1) hx hb d_Mo_shownBad24_26 rfl ?_
          have hct := c_Mo_good l D cB cL mo rs ex xd li bo cu cd co 24 (-149) rt bt V C 0 1 (by omega) ⟨by omega, by omega⟩
          have hw9 := hw
          obtain ⟨fc, nc, pp, ⟨len, used, bl, fr, fb, lm, fe, ne, pe, ⟨hK, hP, hD⟩, hrt, hbt, hE, hpe, hlm⟩, hC⟩ := hw9
          have hr1 := hrt.1
          have hr2 := hrt.2.1
          have hb1 := hbt.1
          have hb2 := hbt.2.1
          have hE1 := hE.1
          have hC1 := hC.1
          have hP : va_P D vwCl [(mo, .inr (3, [.ref rs, .int (iz len), .int (iz co), .ref ex, .int (iz 24), .int (iz (-149)), .ref li, .int (iz used), .ref bo, .int (iz bl), .ref cu])), (rs, .inl (cB, 4096, .inl (az fr))), (ex, .inr (4, [.ref xd, .int (iz ne), .int (iz pe)])), (xd, .inl (cB, 1300, .inl (az fe))), (li, .inl (cL, 160, .inr (.inl (azl lm)))), (bo, .inl (cB, 4096, .inl (az fb))), (cu, .inr (4, [.ref cd, .int (iz nc), .int (iz pp)])), (cd, .inl (cB, 1300, .inl (az fc)))] H := hP
          have hD : va_D (AM mo rs ex xd li bo cu cd) [(mo, .inr (3, [.ref rs, .int (iz len), .int (iz co), .ref ex, .int (iz 24), .int (iz (-149)), .ref li, .int (iz used), .ref bo, .int (iz bl), .ref cu])), (rs, .inl (cB, 4096, .inl (az fr))), (ex, .inr (4, [.ref xd, .int (iz ne), .int (iz pe)])), (xd, .inl (cB, 1300, .inl (az fe))), (li, .inl (cL, 160, .inr (.inl (azl lm)))), (bo, .inl (cB, 4096, .inl (az fb))), (cu, .inr (4, [.ref cd, .int (iz nc), .int (iz pp)])), (cd, .inl (cB, 1300, .inl (az fc)))] := hD
          refine z_go (va_runV (As := [.int (iz 0), .int (iz 1)]) (rest := []) ⟨hx, hb, hml, hown, hts⟩ hct.2 (z_cwV hts w_Mo_good tw_435 (by decide)) (z_preV hct.1 (va_recv hK hP (ci := 3) (q0 := 0) rfl rfl) hw) rfl rfl hl.1 rfl (lv_room (Nat.le_of_ble_eq_true rfl)) d_Mo_shownBad24_27 ⟨Nat.zero_le _, Nat.zero_le _⟩) hS (fun _ h9 => h9) (fun v9 t9 H locs hv9 hp9 hz9 hk9 hS => ?_)
          obtain ⟨rfl, hw⟩ := hp9
          have hw := MW.moved hv9.symm hw
          rw [if_pos rfl] at hw
          refine W.eq (g2 := F0 m 30 ls [.int (iz 0)]) rfl ?_
          refine z_if_ne (tgt := 35) hx hb d_Mo_shownBad24_30 rfl ⟨by omega, by omega⟩ (fun hc30 => ?_) (fun hc30 => ?_)
          · exfalso
            omega
          · refine lv_iconst (v := iz 0) hx hb d_Mo_shownBad24_33 rfl ?_
            exact z_iret hx hb hr hlk hS (zR_st zSt_MR) ⟨rfl, _, _, _, _, _, hw⟩ d_Mo_shownBad24_34
        · exfalso
          omega
