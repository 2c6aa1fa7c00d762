theorem d_Mo_sci_0 : decode b_Mo_scientific 0 = .ok (.aload_n 0, 1) := by decide +kernel
theorem d_Mo_sci_1 : decode b_Mo_scientific 1 = .ok (.aload_n 1, 1) := by decide +kernel
theorem d_Mo_sci_2 : decode b_Mo_scientific 2 = .ok (.iload_n 2, 1) := by decide +kernel
theorem d_Mo_sci_3 : decode b_Mo_scientific 3 = .ok (.iconst 1, 1) := by decide +kernel
theorem d_Mo_sci_4 : decode b_Mo_scientific 4 = .ok (.iadd, 1) := by decide +kernel
theorem d_Mo_sci_5 : decode b_Mo_scientific 5 = .ok (.invokevirtual 99, 3) := by decide +kernel
theorem d_Mo_sci_8 : decode b_Mo_scientific 8 = .ok (.aload_n 0, 1) := by decide +kernel
theorem d_Mo_sci_9 : decode b_Mo_scientific 9 = .ok (.aload_n 1, 1) := by decide +kernel
theorem d_Mo_sci_10 : decode b_Mo_scientific 10 = .ok (.getfield 79, 3) := by decide +kernel
theorem d_Mo_sci_13 : decode b_Mo_scientific 13 = .ok (.ifCond .ne (8), 3) := by decide +kernel
theorem d_Mo_sci_16 : decode b_Mo_scientific 16 = .ok (.bipush (48), 2) := by decide +kernel
theorem d_Mo_sci_18 : decode b_Mo_scientific 18 = .ok (.goto (11), 3) := by decide +kernel
theorem d_Mo_sci_21 : decode b_Mo_scientific 21 = .ok (.aload_n 0, 1) := by decide +kernel
theorem d_Mo_sci_22 : decode b_Mo_scientific 22 = .ok (.getfield 27, 3) := by decide +kernel
theorem d_Mo_sci_25 : decode b_Mo_scientific 25 = .ok (.iconst 0, 1) := by decide +kernel
theorem d_Mo_sci_26 : decode b_Mo_scientific 26 = .ok (.invokestatic 103, 3) := by decide +kernel
theorem d_Mo_sci_29 : decode b_Mo_scientific 29 = .ok (.invokevirtual 107, 3) := by decide +kernel
theorem d_Mo_sci_32 : decode b_Mo_scientific 32 = .ok (.iload_n 2, 1) := by decide +kernel
theorem d_Mo_sci_33 : decode b_Mo_scientific 33 = .ok (.ifCond .gt (7), 3) := by decide +kernel
theorem d_Mo_sci_36 : decode b_Mo_scientific 36 = .ok (.iload_n 3, 1) := by decide +kernel
theorem d_Mo_sci_37 : decode b_Mo_scientific 37 = .ok (.ifCond .eq (9), 3) := by decide +kernel
theorem d_Mo_sci_40 : decode b_Mo_scientific 40 = .ok (.aload_n 0, 1) := by decide +kernel
theorem d_Mo_sci_41 : decode b_Mo_scientific 41 = .ok (.bipush (46), 2) := by decide +kernel
theorem d_Mo_sci_43 : decode b_Mo_scientific 43 = .ok (.invokevirtual 107, 3) := by decide +kernel
theorem d_Mo_sci_46 : decode b_Mo_scientific 46 = .ok (.iconst 1, 1) := by decide +kernel
theorem d_Mo_sci_47 : decode b_Mo_scientific 47 = .ok (.istore 4, 2) := by decide +kernel
theorem d_Mo_sci_49 : decode b_Mo_scientific 49 = .ok (.iload 4, 2) := by decide +kernel
theorem d_Mo_sci_51 : decode b_Mo_scientific 51 = .ok (.iload_n 2, 1) := by decide +kernel
theorem d_Mo_sci_52 : decode b_Mo_scientific 52 = .ok (.if_icmp .gt (34), 3) := by decide +kernel
theorem d_Mo_sci_55 : decode b_Mo_scientific 55 = .ok (.aload_n 0, 1) := by decide +kernel
theorem d_Mo_sci_56 : decode b_Mo_scientific 56 = .ok (.aload_n 1, 1) := by decide +kernel
theorem d_Mo_sci_57 : decode b_Mo_scientific 57 = .ok (.getfield 79, 3) := by decide +kernel
theorem d_Mo_sci_60 : decode b_Mo_scientific 60 = .ok (.ifCond .ne (8), 3) := by decide +kernel
theorem d_Mo_sci_63 : decode b_Mo_scientific 63 = .ok (.bipush (48), 2) := by decide +kernel
theorem d_Mo_sci_65 : decode b_Mo_scientific 65 = .ok (.goto (12), 3) := by decide +kernel
theorem d_Mo_sci_68 : decode b_Mo_scientific 68 = .ok (.aload_n 0, 1) := by decide +kernel
theorem d_Mo_sci_69 : decode b_Mo_scientific 69 = .ok (.getfield 27, 3) := by decide +kernel
theorem d_Mo_sci_72 : decode b_Mo_scientific 72 = .ok (.iload 4, 2) := by decide +kernel
theorem d_Mo_sci_74 : decode b_Mo_scientific 74 = .ok (.invokestatic 103, 3) := by decide +kernel
theorem d_Mo_sci_77 : decode b_Mo_scientific 77 = .ok (.invokevirtual 107, 3) := by decide +kernel
theorem d_Mo_sci_80 : decode b_Mo_scientific 80 = .ok (.iinc 4 (1), 3) := by decide +kernel
theorem d_Mo_sci_83 : decode b_Mo_scientific 83 = .ok (.goto (-34), 3) := by decide +kernel
theorem d_Mo_sci_86 : decode b_Mo_scientific 86 = .ok (.aload_n 1, 1) := by decide +kernel
theorem d_Mo_sci_87 : decode b_Mo_scientific 87 = .ok (.getfield 79, 3) := by decide +kernel
theorem d_Mo_sci_90 : decode b_Mo_scientific 90 = .ok (.ifCond .ne (7), 3) := by decide +kernel
theorem d_Mo_sci_93 : decode b_Mo_scientific 93 = .ok (.iconst 0, 1) := by decide +kernel
theorem d_Mo_sci_94 : decode b_Mo_scientific 94 = .ok (.goto (12), 3) := by decide +kernel
theorem d_Mo_sci_97 : decode b_Mo_scientific 97 = .ok (.aload_n 0, 1) := by decide +kernel
theorem d_Mo_sci_98 : decode b_Mo_scientific 98 = .ok (.getfield 27, 3) := by decide +kernel
theorem d_Mo_sci_101 : decode b_Mo_scientific 101 = .ok (.getfield 89, 3) := by decide +kernel
theorem d_Mo_sci_104 : decode b_Mo_scientific 104 = .ok (.iconst 1, 1) := by decide +kernel
theorem d_Mo_sci_105 : decode b_Mo_scientific 105 = .ok (.isub, 1) := by decide +kernel
theorem d_Mo_sci_106 : decode b_Mo_scientific 106 = .ok (.istore 4, 2) := by decide +kernel
theorem d_Mo_sci_108 : decode b_Mo_scientific 108 = .ok (.aload_n 0, 1) := by decide +kernel
theorem d_Mo_sci_109 : decode b_Mo_scientific 109 = .ok (.bipush (101), 2) := by decide +kernel
theorem d_Mo_sci_111 : decode b_Mo_scientific 111 = .ok (.invokevirtual 107, 3) := by decide +kernel
theorem d_Mo_sci_114 : decode b_Mo_scientific 114 = .ok (.aload_n 0, 1) := by decide +kernel
theorem d_Mo_sci_115 : decode b_Mo_scientific 115 = .ok (.iload 4, 2) := by decide +kernel
theorem d_Mo_sci_117 : decode b_Mo_scientific 117 = .ok (.ifCond .ge (8), 3) := by decide +kernel
theorem d_Mo_sci_120 : decode b_Mo_scientific 120 = .ok (.bipush (45), 2) := by decide +kernel
theorem d_Mo_sci_122 : decode b_Mo_scientific 122 = .ok (.goto (5), 3) := by decide +kernel
theorem d_Mo_sci_125 : decode b_Mo_scientific 125 = .ok (.bipush (43), 2) := by decide +kernel
theorem d_Mo_sci_127 : decode b_Mo_scientific 127 = .ok (.invokevirtual 107, 3) := by decide +kernel
theorem d_Mo_sci_130 : decode b_Mo_scientific 130 = .ok (.iload 4, 2) := by decide +kernel
theorem d_Mo_sci_132 : decode b_Mo_scientific 132 = .ok (.ifCond .ge (9), 3) := by decide +kernel
theorem d_Mo_sci_135 : decode b_Mo_scientific 135 = .ok (.iload 4, 2) := by decide +kernel
theorem d_Mo_sci_137 : decode b_Mo_scientific 137 = .ok (.ineg, 1) := by decide +kernel
theorem d_Mo_sci_138 : decode b_Mo_scientific 138 = .ok (.goto (5), 3) := by decide +kernel
theorem d_Mo_sci_141 : decode b_Mo_scientific 141 = .ok (.iload 4, 2) := by decide +kernel
theorem d_Mo_sci_143 : decode b_Mo_scientific 143 = .ok (.istore 5, 2) := by decide +kernel
theorem d_Mo_sci_145 : decode b_Mo_scientific 145 = .ok (.iload 5, 2) := by decide +kernel
theorem d_Mo_sci_147 : decode b_Mo_scientific 147 = .ok (.bipush (99), 2) := by decide +kernel
theorem d_Mo_sci_149 : decode b_Mo_scientific 149 = .ok (.if_icmp .le (15), 3) := by decide +kernel
theorem d_Mo_sci_152 : decode b_Mo_scientific 152 = .ok (.aload_n 0, 1) := by decide +kernel
theorem d_Mo_sci_153 : decode b_Mo_scientific 153 = .ok (.bipush (48), 2) := by decide +kernel
theorem d_Mo_sci_155 : decode b_Mo_scientific 155 = .ok (.iload 5, 2) := by decide +kernel
theorem d_Mo_sci_157 : decode b_Mo_scientific 157 = .ok (.bipush (100), 2) := by decide +kernel
theorem d_Mo_sci_159 : decode b_Mo_scientific 159 = .ok (.idiv, 1) := by decide +kernel
theorem d_Mo_sci_160 : decode b_Mo_scientific 160 = .ok (.iadd, 1) := by decide +kernel
theorem d_Mo_sci_161 : decode b_Mo_scientific 161 = .ok (.invokevirtual 107, 3) := by decide +kernel
theorem d_Mo_sci_164 : decode b_Mo_scientific 164 = .ok (.aload_n 0, 1) := by decide +kernel
theorem d_Mo_sci_165 : decode b_Mo_scientific 165 = .ok (.bipush (48), 2) := by decide +kernel
theorem d_Mo_sci_167 : decode b_Mo_scientific 167 = .ok (.iload 5, 2) := by decide +kernel
theorem d_Mo_sci_169 : decode b_Mo_scientific 169 = .ok (.bipush (10), 2) := by decide +kernel
theorem d_Mo_sci_171 : decode b_Mo_scientific 171 = .ok (.idiv, 1) := by decide +kernel
theorem d_Mo_sci_172 : decode b_Mo_scientific 172 = .ok (.bipush (10), 2) := by decide +kernel
theorem d_Mo_sci_174 : decode b_Mo_scientific 174 = .ok (.irem, 1) := by decide +kernel
theorem d_Mo_sci_175 : decode b_Mo_scientific 175 = .ok (.iadd, 1) := by decide +kernel
theorem d_Mo_sci_176 : decode b_Mo_scientific 176 = .ok (.invokevirtual 107, 3) := by decide +kernel
theorem d_Mo_sci_179 : decode b_Mo_scientific 179 = .ok (.aload_n 0, 1) := by decide +kernel
theorem d_Mo_sci_180 : decode b_Mo_scientific 180 = .ok (.bipush (48), 2) := by decide +kernel
theorem d_Mo_sci_182 : decode b_Mo_scientific 182 = .ok (.iload 5, 2) := by decide +kernel
theorem d_Mo_sci_184 : decode b_Mo_scientific 184 = .ok (.bipush (10), 2) := by decide +kernel
theorem d_Mo_sci_186 : decode b_Mo_scientific 186 = .ok (.irem, 1) := by decide +kernel
theorem d_Mo_sci_187 : decode b_Mo_scientific 187 = .ok (.iadd, 1) := by decide +kernel
theorem d_Mo_sci_188 : decode b_Mo_scientific 188 = .ok (.invokevirtual 107, 3) := by decide +kernel
theorem d_Mo_sci_191 : decode b_Mo_scientific 191 = .ok (.return_, 1) := by decide +kernel
set_option maxHeartbeats 4000000 in
set_option maxRecDepth 100000 in
theorem c_Mo_sci (l : Launch) (D : va_G) (cB cL : ClassId) (mo rs ex xd li bo cu cd : Nat) (co bi le : Int) (rt bt : List Int) (V C : Int) (cn : Nat) (pt Cx : Int) (hCx : Cx = rnd V (lead V + 1 - ((cn : Int) + 1))) (hcn : cn ≤ 1300) (hpt : pt = 0 ∨ pt = 1) (hr0 : -999 ≤ lead Cx ∧ lead Cx ≤ 999) (hlen : bt.length + cn + 8 ≤ 4096) : Ct l y_Mo_scientific (ws_Mo_scientific) 2 (AM mo rs ex xd li bo cu cd) [.ref mo, .ref ex, .int (iz (cn : Int)), .int (iz pt)] (MW D cB cL mo rs ex xd li bo cu cd co bi le rt bt V C) (zR none (MW D cB cL mo rs ex xd li bo cu cd co bi le rt (bt ++ sciL Cx (lead Cx) cn pt) V Cx)) := by
  refine z_body zSt_MW (by decide +kernel) rfl (Nat.le_of_ble_eq_true rfl) ?_
  intro p e s m args below meth c ls hx hb hml hr hlk hts0 hown hpre0 H locs hpre hS hl
  have hts : ∀ w ∈ TBL, w.before args s = true := fun w hw => hts0 w (List.mem_cons_of_mem _ hw)
  have hl : lv_has ls 6 [(0, .ref mo), (1, .ref ex), (2, .int (iz (cn : Int))), (3, .int (iz pt))] := hl
  have hw := hpre
  have L108 : ∀  (H : Heap) (locs : List Loc) (ls : Array Slot), MW D cB cL mo rs ex xd li bo cu cd co bi le rt ((bt ++ [48 + dgt Cx (lead Cx)]) ++ behL Cx (lead Cx - 1) cn pt) V Cx s H → va_S (AM mo rs ex xd li bo cu cd) s.heap H locs → lv_has ls 6 [(0, .ref mo), (4, .int (iz (lead Cx)))] → W p l e (zrm 2) s m args below meth c H locs 0 0 (MQ below (zQ (AM mo rs ex xd li bo cu cd) (zR none (MW D cB cL mo rs ex xd li bo cu cd co bi le rt (bt ++ sciL Cx (lead Cx) cn pt) V Cx))) args s 0 0 (AM mo rs ex xd li bo cu cd)) (F0 m 108 ls []) := by
    intro  H locs ls hw hS hl 
    have hbl := behL_len Cx (lead Cx - 1) cn pt
    refine lv_aload_n hx hb d_Mo_sci_108 rfl (lv_at hl 0 rfl) ?_
    refine lv_bipush (v := iz 101) hx hb d_Mo_sci_109 (by decide) ?_
    have hct := c_Mo_add l D cB cL mo rs ex xd li bo cu cd co bi le rt (((bt ++ [48 + dgt Cx (lead Cx)]) ++ behL Cx (lead Cx - 1) cn pt)) V Cx (101) ⟨by omega, by omega⟩ (by (try simp only [List.length_append, List.length_cons, List.length_nil]); omega)
    have hw9 := hw
    obtain ⟨fc, nc, pp, ⟨len, used, bl, fr, fb, lm, fe, ne, pe, ⟨hK, hP, hD⟩, hrt, hbt, hE, hpe, hlm⟩, hC⟩ := hw9
    have hr1 := hrt.1
    have hr2 := hrt.2.1
    have hb1 := hbt.1
    have hb2 := hbt.2.1
    have hE1 := hE.1
    have hC1 := hC.1
    have hP : va_P D vwCl [(mo, .inr (3, [.ref rs, .int (iz len), .int (iz co), .ref ex, .int (iz bi), .int (iz le), .ref li, .int (iz used), .ref bo, .int (iz bl), .ref cu])), (rs, .inl (cB, 4096, .inl (az fr))), (ex, .inr (4, [.ref xd, .int (iz ne), .int (iz pe)])), (xd, .inl (cB, 1300, .inl (az fe))), (li, .inl (cL, 160, .inr (.inl (azl lm)))), (bo, .inl (cB, 4096, .inl (az fb))), (cu, .inr (4, [.ref cd, .int (iz nc), .int (iz pp)])), (cd, .inl (cB, 1300, .inl (az fc)))] H := hP
    have hD : va_D (AM mo rs ex xd li bo cu cd) [(mo, .inr (3, [.ref rs, .int (iz len), .int (iz co), .ref ex, .int (iz bi), .int (iz le), .ref li, .int (iz used), .ref bo, .int (iz bl), .ref cu])), (rs, .inl (cB, 4096, .inl (az fr))), (ex, .inr (4, [.ref xd, .int (iz ne), .int (iz pe)])), (xd, .inl (cB, 1300, .inl (az fe))), (li, .inl (cL, 160, .inr (.inl (azl lm)))), (bo, .inl (cB, 4096, .inl (az fb))), (cu, .inr (4, [.ref cd, .int (iz nc), .int (iz pp)])), (cd, .inl (cB, 1300, .inl (az fc)))] := hD
    refine z_go (va_runV (As := [.int (iz 101)]) (rest := []) ⟨hx, hb, hml, hown, hts⟩ hct.2 (z_cwV hts w_Mo_add tw_474 (by decide)) (z_preV hct.1 (va_recv hK hP (ci := 3) (q0 := 0) rfl rfl) hw) rfl rfl hl.1 rfl (lv_room (Nat.le_of_ble_eq_true rfl)) d_Mo_sci_111 ⟨Nat.zero_le _, Nat.zero_le _⟩) hS (fun _ h9 => h9) (fun v9 t9 H locs hv9 hp9 hz9 hk9 hS => ?_)
    obtain ⟨rfl, hw⟩ := hp9
    have hw := MW.moved hv9.symm hw
    refine W.eq (g2 := F0 m 114 ls []) rfl ?_
    refine lv_aload_n hx hb d_Mo_sci_114 rfl (lv_at hl 0 rfl) ?_
    refine lv_iload hx hb d_Mo_sci_115 (lv_at hl 1 rfl) ?_
    refine z_if_ge (tgt := 125) hx hb d_Mo_sci_117 rfl ⟨by omega, by omega⟩ (fun hc117 => ?_) (fun hc117 => ?_)
    · refine lv_bipush (v := iz 43) hx hb d_Mo_sci_125 (by decide) ?_
      have hct := c_Mo_add l D cB cL mo rs ex xd li bo cu cd co bi le rt ((((bt ++ [48 + dgt Cx (lead Cx)]) ++ behL Cx (lead Cx - 1) cn pt) ++ [101])) V Cx (43) ⟨by omega, by omega⟩ (by (try simp only [List.length_append, List.length_cons, List.length_nil]); omega)
      have hw9 := hw
      obtain ⟨fc, nc, pp, ⟨len, used, bl, fr, fb, lm, fe, ne, pe, ⟨hK, hP, hD⟩, hrt, hbt, hE, hpe, hlm⟩, hC⟩ := hw9
      have hr1 := hrt.1
      have hr2 := hrt.2.1
      have hb1 := hbt.1
      have hb2 := hbt.2.1
      have hE1 := hE.1
      have hC1 := hC.1
      have hP : va_P D vwCl [(mo, .inr (3, [.ref rs, .int (iz len), .int (iz co), .ref ex, .int (iz bi), .int (iz le), .ref li, .int (iz used), .ref bo, .int (iz bl), .ref cu])), (rs, .inl (cB, 4096, .inl (az fr))), (ex, .inr (4, [.ref xd, .int (iz ne), .int (iz pe)])), (xd, .inl (cB, 1300, .inl (az fe))), (li, .inl (cL, 160, .inr (.inl (azl lm)))), (bo, .inl (cB, 4096, .inl (az fb))), (cu, .inr (4, [.ref cd, .int (iz nc), .int (iz pp)])), (cd, .inl (cB, 1300, .inl (az fc)))] H := hP
      have hD : va_D (AM mo rs ex xd li bo cu cd) [(mo, .inr (3, [.ref rs, .int (iz len), .int (iz co), .ref ex, .int (iz bi), .int (iz le), .ref li, .int (iz used), .ref bo, .int (iz bl), .ref cu])), (rs, .inl (cB, 4096, .inl (az fr))), (ex, .inr (4, [.ref xd, .int (iz ne), .int (iz pe)])), (xd, .inl (cB, 1300, .inl (az fe))), (li, .inl (cL, 160, .inr (.inl (azl lm)))), (bo, .inl (cB, 4096, .inl (az fb))), (cu, .inr (4, [.ref cd, .int (iz nc), .int (iz pp)])), (cd, .inl (cB, 1300, .inl (az fc)))] := hD
      refine z_go (va_runV (As := [.int (iz 43)]) (rest := []) ⟨hx, hb, hml, hown, hts⟩ hct.2 (z_cwV hts w_Mo_add tw_474 (by decide)) (z_preV hct.1 (va_recv hK hP (ci := 3) (q0 := 0) rfl rfl) hw) rfl rfl hl.1 rfl (lv_room (Nat.le_of_ble_eq_true rfl)) d_Mo_sci_127 ⟨Nat.zero_le _, Nat.zero_le _⟩) hS (fun _ h9 => h9) (fun v9 t9 H locs hv9 hp9 hz9 hk9 hS => ?_)
      obtain ⟨rfl, hw⟩ := hp9
      have hw := MW.moved hv9.symm hw
      refine W.eq (g2 := F0 m 130 ls []) rfl ?_
      refine lv_iload hx hb d_Mo_sci_130 (lv_at hl 1 rfl) ?_
      refine z_if_ge (tgt := 141) hx hb d_Mo_sci_132 rfl ⟨by omega, by omega⟩ (fun hc132 => ?_) (fun hc132 => ?_)
      · refine lv_iload hx hb d_Mo_sci_141 (lv_at hl 1 rfl) ?_
        refine z_ri (b := max (lead Cx) (-lead Cx)) (by omega) ?_
        refine lv_istore hx hb d_Mo_sci_143 hl (by decide) rfl (fun ls hl => ?_)
        have hl : lv_has ls 6 [(5, .int (iz (max (lead Cx) (-lead Cx)))), (0, .ref mo), (4, .int (iz (lead Cx)))] := hl
        refine lv_iload hx hb d_Mo_sci_145 (lv_at hl 0 rfl) ?_
        refine lv_bipush (v := iz 99) hx hb d_Mo_sci_147 (by decide) ?_
        refine z_icmp_le (tgt := 164) hx hb d_Mo_sci_149 rfl ⟨by omega, by omega⟩ ⟨by omega, by omega⟩ (fun hc149 => ?_) (fun hc149 => ?_)
        · refine lv_aload_n hx hb d_Mo_sci_164 rfl (lv_at hl 1 rfl) ?_
          refine lv_bipush (v := iz 48) hx hb d_Mo_sci_165 (by decide) ?_
          refine lv_iload hx hb d_Mo_sci_167 (lv_at hl 0 rfl) ?_
          refine lv_bipush (v := iz 10) hx hb d_Mo_sci_169 (by decide) ?_
          refine z_idiv hx hb d_Mo_sci_171 ⟨by omega, by omega⟩ ⟨by omega, by omega⟩ ?_
          refine lv_bipush (v := iz 10) hx hb d_Mo_sci_172 (by decide) ?_
          refine z_irem hx hb d_Mo_sci_174 ⟨by omega, by omega⟩ ⟨by omega, by omega⟩ ?_
          refine z_iadd hx hb d_Mo_sci_175 ?_
          have hct := c_Mo_add l D cB cL mo rs ex xd li bo cu cd co bi le rt (((((bt ++ [48 + dgt Cx (lead Cx)]) ++ behL Cx (lead Cx - 1) cn pt) ++ [101]) ++ [43])) V Cx (48 + (((max (lead Cx) (-lead Cx)) / 10) % 10)) ⟨by omega, by omega⟩ (by (try simp only [List.length_append, List.length_cons, List.length_nil]); omega)
          have hw9 := hw
          obtain ⟨fc, nc, pp, ⟨len, used, bl, fr, fb, lm, fe, ne, pe, ⟨hK, hP, hD⟩, hrt, hbt, hE, hpe, hlm⟩, hC⟩ := hw9
          have hr1 := hrt.1
          have hr2 := hrt.2.1
          have hb1 := hbt.1
          have hb2 := hbt.2.1
          have hE1 := hE.1
          have hC1 := hC.1
          have hP : va_P D vwCl [(mo, .inr (3, [.ref rs, .int (iz len), .int (iz co), .ref ex, .int (iz bi), .int (iz le), .ref li, .int (iz used), .ref bo, .int (iz bl), .ref cu])), (rs, .inl (cB, 4096, .inl (az fr))), (ex, .inr (4, [.ref xd, .int (iz ne), .int (iz pe)])), (xd, .inl (cB, 1300, .inl (az fe))), (li, .inl (cL, 160, .inr (.inl (azl lm)))), (bo, .inl (cB, 4096, .inl (az fb))), (cu, .inr (4, [.ref cd, .int (iz nc), .int (iz pp)])), (cd, .inl (cB, 1300, .inl (az fc)))] H := hP
          have hD : va_D (AM mo rs ex xd li bo cu cd) [(mo, .inr (3, [.ref rs, .int (iz len), .int (iz co), .ref ex, .int (iz bi), .int (iz le), .ref li, .int (iz used), .ref bo, .int (iz bl), .ref cu])), (rs, .inl (cB, 4096, .inl (az fr))), (ex, .inr (4, [.ref xd, .int (iz ne), .int (iz pe)])), (xd, .inl (cB, 1300, .inl (az fe))), (li, .inl (cL, 160, .inr (.inl (azl lm)))), (bo, .inl (cB, 4096, .inl (az fb))), (cu, .inr (4, [.ref cd, .int (iz nc), .int (iz pp)])), (cd, .inl (cB, 1300, .inl (az fc)))] := hD
          refine z_go (va_runV (As := [.int (iz (48 + (((max (lead Cx) (-lead Cx)) / 10) % 10)))]) (rest := []) ⟨hx, hb, hml, hown, hts⟩ hct.2 (z_cwV hts w_Mo_add tw_474 (by decide)) (z_preV hct.1 (va_recv hK hP (ci := 3) (q0 := 0) rfl rfl) hw) rfl rfl hl.1 rfl (lv_room (Nat.le_of_ble_eq_true rfl)) d_Mo_sci_176 ⟨Nat.zero_le _, Nat.zero_le _⟩) hS (fun _ h9 => h9) (fun v9 t9 H locs hv9 hp9 hz9 hk9 hS => ?_)
          obtain ⟨rfl, hw⟩ := hp9
          have hw := MW.moved hv9.symm hw
          refine W.eq (g2 := F0 m 179 ls []) rfl ?_
          refine lv_aload_n hx hb d_Mo_sci_179 rfl (lv_at hl 1 rfl) ?_
          refine lv_bipush (v := iz 48) hx hb d_Mo_sci_180 (by decide) ?_
          refine lv_iload hx hb d_Mo_sci_182 (lv_at hl 0 rfl) ?_
          refine lv_bipush (v := iz 10) hx hb d_Mo_sci_184 (by decide) ?_
          refine z_irem hx hb d_Mo_sci_186 ⟨by omega, by omega⟩ ⟨by omega, by omega⟩ ?_
          refine z_iadd hx hb d_Mo_sci_187 ?_
          have hct := c_Mo_add l D cB cL mo rs ex xd li bo cu cd co bi le rt ((((((bt ++ [48 + dgt Cx (lead Cx)]) ++ behL Cx (lead Cx - 1) cn pt) ++ [101]) ++ [43]) ++ [48 + (((max (lead Cx) (-lead Cx)) / 10) % 10)])) V Cx (48 + ((max (lead Cx) (-lead Cx)) % 10)) ⟨by omega, by omega⟩ (by (try simp only [List.length_append, List.length_cons, List.length_nil]); omega)
          have hw9 := hw
          obtain ⟨fc, nc, pp, ⟨len, used, bl, fr, fb, lm, fe, ne, pe, ⟨hK, hP, hD⟩, hrt, hbt, hE, hpe, hlm⟩, hC⟩ := hw9
          have hr1 := hrt.1
          have hr2 := hrt.2.1
          have hb1 := hbt.1
          have hb2 := hbt.2.1
          have hE1 := hE.1
          have hC1 := hC.1
          have hP : va_P D vwCl [(mo, .inr (3, [.ref rs, .int (iz len), .int (iz co), .ref ex, .int (iz bi), .int (iz le), .ref li, .int (iz used), .ref bo, .int (iz bl), .ref cu])), (rs, .inl (cB, 4096, .inl (az fr))), (ex, .inr (4, [.ref xd, .int (iz ne), .int (iz pe)])), (xd, .inl (cB, 1300, .inl (az fe))), (li, .inl (cL, 160, .inr (.inl (azl lm)))), (bo, .inl (cB, 4096, .inl (az fb))), (cu, .inr (4, [.ref cd, .int (iz nc), .int (iz pp)])), (cd, .inl (cB, 1300, .inl (az fc)))] H := hP
          have hD : va_D (AM mo rs ex xd li bo cu cd) [(mo, .inr (3, [.ref rs, .int (iz len), .int (iz co), .ref ex, .int (iz bi), .int (iz le), .ref li, .int (iz used), .ref bo, .int (iz bl), .ref cu])), (rs, .inl (cB, 4096, .inl (az fr))), (ex, .inr (4, [.ref xd, .int (iz ne), .int (iz pe)])), (xd, .inl (cB, 1300, .inl (az fe))), (li, .inl (cL, 160, .inr (.inl (azl lm)))), (bo, .inl (cB, 4096, .inl (az fb))), (cu, .inr (4, [.ref cd, .int (iz nc), .int (iz pp)])), (cd, .inl (cB, 1300, .inl (az fc)))] := hD
          refine z_go (va_runV (As := [.int (iz (48 + ((max (lead Cx) (-lead Cx)) % 10)))]) (rest := []) ⟨hx, hb, hml, hown, hts⟩ hct.2 (z_cwV hts w_Mo_add tw_474 (by decide)) (z_preV hct.1 (va_recv hK hP (ci := 3) (q0 := 0) rfl rfl) hw) rfl rfl hl.1 rfl (lv_room (Nat.le_of_ble_eq_true rfl)) d_Mo_sci_188 ⟨Nat.zero_le _, Nat.zero_le _⟩) hS (fun _ h9 => h9) (fun v9 t9 H locs hv9 hp9 hz9 hk9 hS => ?_)
          obtain ⟨rfl, hw⟩ := hp9
          have hw := MW.moved hv9.symm hw
          refine W.eq (g2 := F0 m 191 ls []) rfl ?_
          exact z_vret hx hb hr hlk hS (zR_st zSt_MW) ⟨rfl, by
              unfold sciL expL
              first
                | rw [if_pos (show lead Cx < 0 by omega)]
                | rw [if_neg (show ¬ lead Cx < 0 by omega)]
              first
                | rw [if_pos (show 100 ≤ max (lead Cx) (-lead Cx) by omega)]
                | rw [if_neg (show ¬ 100 ≤ max (lead Cx) (-lead Cx) by omega)]
              simpa [List.append_assoc] using hw⟩ d_Mo_sci_191
        · refine lv_aload_n hx hb d_Mo_sci_152 rfl (lv_at hl 1 rfl) ?_
          refine lv_bipush (v := iz 48) hx hb d_Mo_sci_153 (by decide) ?_
          refine lv_iload hx hb d_Mo_sci_155 (lv_at hl 0 rfl) ?_
          refine lv_bipush (v := iz 100) hx hb d_Mo_sci_157 (by decide) ?_
          refine z_idiv hx hb d_Mo_sci_159 ⟨by omega, by omega⟩ ⟨by omega, by omega⟩ ?_
          refine z_iadd hx hb d_Mo_sci_160 ?_
          have hct := c_Mo_add l D cB cL mo rs ex xd li bo cu cd co bi le rt (((((bt ++ [48 + dgt Cx (lead Cx)]) ++ behL Cx (lead Cx - 1) cn pt) ++ [101]) ++ [43])) V Cx (48 + ((max (lead Cx) (-lead Cx)) / 100)) ⟨by omega, by omega⟩ (by (try simp only [List.length_append, List.length_cons, List.length_nil]); omega)
          have hw9 := hw
          obtain ⟨fc, nc, pp, ⟨len, used, bl, fr, fb, lm, fe, ne, pe, ⟨hK, hP, hD⟩, hrt, hbt, hE, hpe, hlm⟩, hC⟩ := hw9
          have hr1 := hrt.1
          have hr2 := hrt.2.1
          have hb1 := hbt.1
          have hb2 := hbt.2.1
          have hE1 := hE.1
          have hC1 := hC.1
          have hP : va_P D vwCl [(mo, .inr (3, [.ref rs, .int (iz len), .int (iz co), .ref ex, .int (iz bi), .int (iz le), .ref li, .int (iz used), .ref bo, .int (iz bl), .ref cu])), (rs, .inl (cB, 4096, .inl (az fr))), (ex, .inr (4, [.ref xd, .int (iz ne), .int (iz pe)])), (xd, .inl (cB, 1300, .inl (az fe))), (li, .inl (cL, 160, .inr (.inl (azl lm)))), (bo, .inl (cB, 4096, .inl (az fb))), (cu, .inr (4, [.ref cd, .int (iz nc), .int (iz pp)])), (cd, .inl (cB, 1300, .inl (az fc)))] H := hP
          have hD : va_D (AM mo rs ex xd li bo cu cd) [(mo, .inr (3, [.ref rs, .int (iz len), .int (iz co), .ref ex, .int (iz bi), .int (iz le), .ref li, .int (iz used), .ref bo, .int (iz bl), .ref cu])), (rs, .inl (cB, 4096, .inl (az fr))), (ex, .inr (4, [.ref xd, .int (iz ne), .int (iz pe)])), (xd, .inl (cB, 1300, .inl (az fe))), (li, .inl (cL, 160, .inr (.inl (azl lm)))), (bo, .inl (cB, 4096, .inl (az fb))), (cu, .inr (4, [.ref cd, .int (iz nc), .int (iz pp)])), (cd, .inl (cB, 1300, .inl (az fc)))] := hD
          refine z_go (va_runV (As := [.int (iz (48 + ((max (lead Cx) (-lead Cx)) / 100)))]) (rest := []) ⟨hx, hb, hml, hown, hts⟩ hct.2 (z_cwV hts w_Mo_add tw_474 (by decide)) (z_preV hct.1 (va_recv hK hP (ci := 3) (q0 := 0) rfl rfl) hw) rfl rfl hl.1 rfl (lv_room (Nat.le_of_ble_eq_true rfl)) d_Mo_sci_161 ⟨Nat.zero_le _, Nat.zero_le _⟩) hS (fun _ h9 => h9) (fun v9 t9 H locs hv9 hp9 hz9 hk9 hS => ?_)
          obtain ⟨rfl, hw⟩ := hp9
          have hw := MW.moved hv9.symm hw
          refine W.eq (g2 := F0 m 164 ls []) rfl ?_
          refine lv_aload_n hx hb d_Mo_sci_164 rfl (lv_at hl 1 rfl) ?_
          refine lv_bipush (v := iz 48) hx hb d_Mo_sci_165 (by decide) ?_
          refine lv_iload hx hb d_Mo_sci_167 (lv_at hl 0 rfl) ?_
          refine lv_bipush (v := iz 10) hx hb d_Mo_sci_169 (by decide) ?_
          refine z_idiv hx hb d_Mo_sci_171 ⟨by omega, by omega⟩ ⟨by omega, by omega⟩ ?_
          refine lv_bipush (v := iz 10) hx hb d_Mo_sci_172 (by decide) ?_
          refine z_irem hx hb d_Mo_sci_174 ⟨by omega, by omega⟩ ⟨by omega, by omega⟩ ?_
          refine z_iadd hx hb d_Mo_sci_175 ?_
          have hct := c_Mo_add l D cB cL mo rs ex xd li bo cu cd co bi le rt ((((((bt ++ [48 + dgt Cx (lead Cx)]) ++ behL Cx (lead Cx - 1) cn pt) ++ [101]) ++ [43]) ++ [48 + ((max (lead Cx) (-lead Cx)) / 100)])) V Cx (48 + (((max (lead Cx) (-lead Cx)) / 10) % 10)) ⟨by omega, by omega⟩ (by (try simp only [List.length_append, List.length_cons, List.length_nil]); omega)
          have hw9 := hw
          obtain ⟨fc, nc, pp, ⟨len, used, bl, fr, fb, lm, fe, ne, pe, ⟨hK, hP, hD⟩, hrt, hbt, hE, hpe, hlm⟩, hC⟩ := hw9
          have hr1 := hrt.1
          have hr2 := hrt.2.1
          have hb1 := hbt.1
          have hb2 := hbt.2.1
          have hE1 := hE.1
          have hC1 := hC.1
          have hP : va_P D vwCl [(mo, .inr (3, [.ref rs, .int (iz len), .int (iz co), .ref ex, .int (iz bi), .int (iz le), .ref li, .int (iz used), .ref bo, .int (iz bl), .ref cu])), (rs, .inl (cB, 4096, .inl (az fr))), (ex, .inr (4, [.ref xd, .int (iz ne), .int (iz pe)])), (xd, .inl (cB, 1300, .inl (az fe))), (li, .inl (cL, 160, .inr (.inl (azl lm)))), (bo, .inl (cB, 4096, .inl (az fb))), (cu, .inr (4, [.ref cd, .int (iz nc), .int (iz pp)])), (cd, .inl (cB, 1300, .inl (az fc)))] H := hP
          have hD : va_D (AM mo rs ex xd li bo cu cd) [(mo, .inr (3, [.ref rs, .int (iz len), .int (iz co), .ref ex, .int (iz bi), .int (iz le), .ref li, .int (iz used), .ref bo, .int (iz bl), .ref cu])), (rs, .inl (cB, 4096, .inl (az fr))), (ex, .inr (4, [.ref xd, .int (iz ne), .int (iz pe)])), (xd, .inl (cB, 1300, .inl (az fe))), (li, .inl (cL, 160, .inr (.inl (azl lm)))), (bo, .inl (cB, 4096, .inl (az fb))), (cu, .inr (4, [.ref cd, .int (iz nc), .int (iz pp)])), (cd, .inl (cB, 1300, .inl (az fc)))] := hD
          refine z_go (va_runV (As := [.int (iz (48 + (((max (lead Cx) (-lead Cx)) / 10) % 10)))]) (rest := []) ⟨hx, hb, hml, hown, hts⟩ hct.2 (z_cwV hts w_Mo_add tw_474 (by decide)) (z_preV hct.1 (va_recv hK hP (ci := 3) (q0 := 0) rfl rfl) hw) rfl rfl hl.1 rfl (lv_room (Nat.le_of_ble_eq_true rfl)) d_Mo_sci_176 ⟨Nat.zero_le _, Nat.zero_le _⟩) hS (fun _ h9 => h9) (fun v9 t9 H locs hv9 hp9 hz9 hk9 hS => ?_)
          obtain ⟨rfl, hw⟩ := hp9
          have hw := MW.moved hv9.symm hw
          refine W.eq (g2 := F0 m 179 ls []) rfl ?_
          refine lv_aload_n hx hb d_Mo_sci_179 rfl (lv_at hl 1 rfl) ?_
          refine lv_bipush (v := iz 48) hx hb d_Mo_sci_180 (by decide) ?_
          refine lv_iload hx hb d_Mo_sci_182 (lv_at hl 0 rfl) ?_
          refine lv_bipush (v := iz 10) hx hb d_Mo_sci_184 (by decide) ?_
          refine z_irem hx hb d_Mo_sci_186 ⟨by omega, by omega⟩ ⟨by omega, by omega⟩ ?_
          refine z_iadd hx hb d_Mo_sci_187 ?_
          have hct := c_Mo_add l D cB cL mo rs ex xd li bo cu cd co bi le rt (((((((bt ++ [48 + dgt Cx (lead Cx)]) ++ behL Cx (lead Cx - 1) cn pt) ++ [101]) ++ [43]) ++ [48 + ((max (lead Cx) (-lead Cx)) / 100)]) ++ [48 + (((max (lead Cx) (-lead Cx)) / 10) % 10)])) V Cx (48 + ((max (lead Cx) (-lead Cx)) % 10)) ⟨by omega, by omega⟩ (by (try simp only [List.length_append, List.length_cons, List.length_nil]); omega)
          have hw9 := hw
          obtain ⟨fc, nc, pp, ⟨len, used, bl, fr, fb, lm, fe, ne, pe, ⟨hK, hP, hD⟩, hrt, hbt, hE, hpe, hlm⟩, hC⟩ := hw9
          have hr1 := hrt.1
          have hr2 := hrt.2.1
          have hb1 := hbt.1
          have hb2 := hbt.2.1
          have hE1 := hE.1
          have hC1 := hC.1
          have hP : va_P D vwCl [(mo, .inr (3, [.ref rs, .int (iz len), .int (iz co), .ref ex, .int (iz bi), .int (iz le), .ref li, .int (iz used), .ref bo, .int (iz bl), .ref cu])), (rs, .inl (cB, 4096, .inl (az fr))), (ex, .inr (4, [.ref xd, .int (iz ne), .int (iz pe)])), (xd, .inl (cB, 1300, .inl (az fe))), (li, .inl (cL, 160, .inr (.inl (azl lm)))), (bo, .inl (cB, 4096, .inl (az fb))), (cu, .inr (4, [.ref cd, .int (iz nc), .int (iz pp)])), (cd, .inl (cB, 1300, .inl (az fc)))] H := hP
          have hD : va_D (AM mo rs ex xd li bo cu cd) [(mo, .inr (3, [.ref rs, .int (iz len), .int (iz co), .ref ex, .int (iz bi), .int (iz le), .ref li, .int (iz used), .ref bo, .int (iz bl), .ref cu])), (rs, .inl (cB, 4096, .inl (az fr))), (ex, .inr (4, [.ref xd, .int (iz ne), .int (iz pe)])), (xd, .inl (cB, 1300, .inl (az fe))), (li, .inl (cL, 160, .inr (.inl (azl lm)))), (bo, .inl (cB, 4096, .inl (az fb))), (cu, .inr (4, [.ref cd, .int (iz nc), .int (iz pp)])), (cd, .inl (cB, 1300, .inl (az fc)))] := hD
          refine z_go (va_runV (As := [.int (iz (48 + ((max (lead Cx) (-lead Cx)) % 10)))]) (rest := []) ⟨hx, hb, hml, hown, hts⟩ hct.2 (z_cwV hts w_Mo_add tw_474 (by decide)) (z_preV hct.1 (va_recv hK hP (ci := 3) (q0 := 0) rfl rfl) hw) rfl rfl hl.1 rfl (lv_room (Nat.le_of_ble_eq_true rfl)) d_Mo_sci_188 ⟨Nat.zero_le _, Nat.zero_le _⟩) hS (fun _ h9 => h9) (fun v9 t9 H locs hv9 hp9 hz9 hk9 hS => ?_)
          obtain ⟨rfl, hw⟩ := hp9
          have hw := MW.moved hv9.symm hw
          refine W.eq (g2 := F0 m 191 ls []) rfl ?_
          exact z_vret hx hb hr hlk hS (zR_st zSt_MW) ⟨rfl, by
              unfold sciL expL
              first
                | rw [if_pos (show lead Cx < 0 by omega)]
                | rw [if_neg (show ¬ lead Cx < 0 by omega)]
              first
                | rw [if_pos (show 100 ≤ max (lead Cx) (-lead Cx) by omega)]
                | rw [if_neg (show ¬ 100 ≤ max (lead Cx) (-lead Cx) by omega)]
              simpa [List.append_assoc] using hw⟩ d_Mo_sci_191
      · exfalso
        omega
    · refine lv_bipush (v := iz 45) hx hb d_Mo_sci_120 (by decide) ?_
      refine lv_goto (tgt := 127) hx hb d_Mo_sci_122 rfl ?_
      have hct := c_Mo_add l D cB cL mo rs ex xd li bo cu cd co bi le rt ((((bt ++ [48 + dgt Cx (lead Cx)]) ++ behL Cx (lead Cx - 1) cn pt) ++ [101])) V Cx (45) ⟨by omega, by omega⟩ (by (try simp only [List.length_append, List.length_cons, List.length_nil]); omega)
      have hw9 := hw
      obtain ⟨fc, nc, pp, ⟨len, used, bl, fr, fb, lm, fe, ne, pe, ⟨hK, hP, hD⟩, hrt, hbt, hE, hpe, hlm⟩, hC⟩ := hw9
      have hr1 := hrt.1
      have hr2 := hrt.2.1
      have hb1 := hbt.1
      have hb2 := hbt.2.1
      have hE1 := hE.1
      have hC1 := hC.1
      have hP : va_P D vwCl [(mo, .inr (3, [.ref rs, .int (iz len), .int (iz co), .ref ex, .int (iz bi), .int (iz le), .ref li, .int (iz used), .ref bo, .int (iz bl), .ref cu])), (rs, .inl (cB, 4096, .inl (az fr))), (ex, .inr (4, [.ref xd, .int (iz ne), .int (iz pe)])), (xd, .inl (cB, 1300, .inl (az fe))), (li, .inl (cL, 160, .inr (.inl (azl lm)))), (bo, .inl (cB, 4096, .inl (az fb))), (cu, .inr (4, [.ref cd, .int (iz nc), .int (iz pp)])), (cd, .inl (cB, 1300, .inl (az fc)))] H := hP
      have hD : va_D (AM mo rs ex xd li bo cu cd) [(mo, .inr (3, [.ref rs, .int (iz len), .int (iz co), .ref ex, .int (iz bi), .int (iz le), .ref li, .int (iz used), .ref bo, .int (iz bl), .ref cu])), (rs, .inl (cB, 4096, .inl (az fr))), (ex, .inr (4, [.ref xd, .int (iz ne), .int (iz pe)])), (xd, .inl (cB, 1300, .inl (az fe))), (li, .inl (cL, 160, .inr (.inl (azl lm)))), (bo, .inl (cB, 4096, .inl (az fb))), (cu, .inr (4, [.ref cd, .int (iz nc), .int (iz pp)])), (cd, .inl (cB, 1300, .inl (az fc)))] := hD
      refine z_go (va_runV (As := [.int (iz 45)]) (rest := []) ⟨hx, hb, hml, hown, hts⟩ hct.2 (z_cwV hts w_Mo_add tw_474 (by decide)) (z_preV hct.1 (va_recv hK hP (ci := 3) (q0 := 0) rfl rfl) hw) rfl rfl hl.1 rfl (lv_room (Nat.le_of_ble_eq_true rfl)) d_Mo_sci_127 ⟨Nat.zero_le _, Nat.zero_le _⟩) hS (fun _ h9 => h9) (fun v9 t9 H locs hv9 hp9 hz9 hk9 hS => ?_)
      obtain ⟨rfl, hw⟩ := hp9
      have hw := MW.moved hv9.symm hw
      refine W.eq (g2 := F0 m 130 ls []) rfl ?_
      refine lv_iload hx hb d_Mo_sci_130 (lv_at hl 1 rfl) ?_
      refine z_if_ge (tgt := 141) hx hb d_Mo_sci_132 rfl ⟨by omega, by omega⟩ (fun hc132 => ?_) (fun hc132 => ?_)
      · exfalso
        omega
      · refine lv_iload hx hb d_Mo_sci_135 (lv_at hl 1 rfl) ?_
        refine z_ineg hx hb d_Mo_sci_137 ?_
        refine z_ri (b := max (lead Cx) (-lead Cx)) (by omega) ?_
        refine lv_goto (tgt := 143) hx hb d_Mo_sci_138 rfl ?_
        refine lv_istore hx hb d_Mo_sci_143 hl (by decide) rfl (fun ls hl => ?_)
        have hl : lv_has ls 6 [(5, .int (iz (max (lead Cx) (-lead Cx)))), (0, .ref mo), (4, .int (iz (lead Cx)))] := hl
        refine lv_iload hx hb d_Mo_sci_145 (lv_at hl 0 rfl) ?_
        refine lv_bipush (v := iz 99) hx hb d_Mo_sci_147 (by decide) ?_
        refine z_icmp_le (tgt := 164) hx hb d_Mo_sci_149 rfl ⟨by omega, by omega⟩ ⟨by omega, by omega⟩ (fun hc149 => ?_) (fun hc149 => ?_)
        · refine lv_aload_n hx hb d_Mo_sci_164 rfl (lv_at hl 1 rfl) ?_
          refine lv_bipush (v := iz 48) hx hb d_Mo_sci_165 (by decide) ?_
          refine lv_iload hx hb d_Mo_sci_167 (lv_at hl 0 rfl) ?_
          refine lv_bipush (v := iz 10) hx hb d_Mo_sci_169 (by decide) ?_
          refine z_idiv hx hb d_Mo_sci_171 ⟨by omega, by omega⟩ ⟨by omega, by omega⟩ ?_
          refine lv_bipush (v := iz 10) hx hb d_Mo_sci_172 (by decide) ?_
          refine z_irem hx hb d_Mo_sci_174 ⟨by omega, by omega⟩ ⟨by omega, by omega⟩ ?_
          refine z_iadd hx hb d_Mo_sci_175 ?_
          have hct := c_Mo_add l D cB cL mo rs ex xd li bo cu cd co bi le rt (((((bt ++ [48 + dgt Cx (lead Cx)]) ++ behL Cx (lead Cx - 1) cn pt) ++ [101]) ++ [45])) V Cx (48 + (((max (lead Cx) (-lead Cx)) / 10) % 10)) ⟨by omega, by omega⟩ (by (try simp only [List.length_append, List.length_cons, List.length_nil]); omega)
          have hw9 := hw
          obtain ⟨fc, nc, pp, ⟨len, used, bl, fr, fb, lm, fe, ne, pe, ⟨hK, hP, hD⟩, hrt, hbt, hE, hpe, hlm⟩, hC⟩ := hw9
          have hr1 := hrt.1
          have hr2 := hrt.2.1
          have hb1 := hbt.1
          have hb2 := hbt.2.1
          have hE1 := hE.1
          have hC1 := hC.1
          have hP : va_P D vwCl [(mo, .inr (3, [.ref rs, .int (iz len), .int (iz co), .ref ex, .int (iz bi), .int (iz le), .ref li, .int (iz used), .ref bo, .int (iz bl), .ref cu])), (rs, .inl (cB, 4096, .inl (az fr))), (ex, .inr (4, [.ref xd, .int (iz ne), .int (iz pe)])), (xd, .inl (cB, 1300, .inl (az fe))), (li, .inl (cL, 160, .inr (.inl (azl lm)))), (bo, .inl (cB, 4096, .inl (az fb))), (cu, .inr (4, [.ref cd, .int (iz nc), .int (iz pp)])), (cd, .inl (cB, 1300, .inl (az fc)))] H := hP
          have hD : va_D (AM mo rs ex xd li bo cu cd) [(mo, .inr (3, [.ref rs, .int (iz len), .int (iz co), .ref ex, .int (iz bi), .int (iz le), .ref li, .int (iz used), .ref bo, .int (iz bl), .ref cu])), (rs, .inl (cB, 4096, .inl (az fr))), (ex, .inr (4, [.ref xd, .int (iz ne), .int (iz pe)])), (xd, .inl (cB, 1300, .inl (az fe))), (li, .inl (cL, 160, .inr (.inl (azl lm)))), (bo, .inl (cB, 4096, .inl (az fb))), (cu, .inr (4, [.ref cd, .int (iz nc), .int (iz pp)])), (cd, .inl (cB, 1300, .inl (az fc)))] := hD
          refine z_go (va_runV (As := [.int (iz (48 + (((max (lead Cx) (-lead Cx)) / 10) % 10)))]) (rest := []) ⟨hx, hb, hml, hown, hts⟩ hct.2 (z_cwV hts w_Mo_add tw_474 (by decide)) (z_preV hct.1 (va_recv hK hP (ci := 3) (q0 := 0) rfl rfl) hw) rfl rfl hl.1 rfl (lv_room (Nat.le_of_ble_eq_true rfl)) d_Mo_sci_176 ⟨Nat.zero_le _, Nat.zero_le _⟩) hS (fun _ h9 => h9) (fun v9 t9 H locs hv9 hp9 hz9 hk9 hS => ?_)
          obtain ⟨rfl, hw⟩ := hp9
          have hw := MW.moved hv9.symm hw
          refine W.eq (g2 := F0 m 179 ls []) rfl ?_
          refine lv_aload_n hx hb d_Mo_sci_179 rfl (lv_at hl 1 rfl) ?_
          refine lv_bipush (v := iz 48) hx hb d_Mo_sci_180 (by decide) ?_
          refine lv_iload hx hb d_Mo_sci_182 (lv_at hl 0 rfl) ?_
          refine lv_bipush (v := iz 10) hx hb d_Mo_sci_184 (by decide) ?_
          refine z_irem hx hb d_Mo_sci_186 ⟨by omega, by omega⟩ ⟨by omega, by omega⟩ ?_
          refine z_iadd hx hb d_Mo_sci_187 ?_
          have hct := c_Mo_add l D cB cL mo rs ex xd li bo cu cd co bi le rt ((((((bt ++ [48 + dgt Cx (lead Cx)]) ++ behL Cx (lead Cx - 1) cn pt) ++ [101]) ++ [45]) ++ [48 + (((max (lead Cx) (-lead Cx)) / 10) % 10)])) V Cx (48 + ((max (lead Cx) (-lead Cx)) % 10)) ⟨by omega, by omega⟩ (by (try simp only [List.length_append, List.length_cons, List.length_nil]); omega)
          have hw9 := hw
          obtain ⟨fc, nc, pp, ⟨len, used, bl, fr, fb, lm, fe, ne, pe, ⟨hK, hP, hD⟩, hrt, hbt, hE, hpe, hlm⟩, hC⟩ := hw9
          have hr1 := hrt.1
          have hr2 := hrt.2.1
          have hb1 := hbt.1
          have hb2 := hbt.2.1
          have hE1 := hE.1
          have hC1 := hC.1
          have hP : va_P D vwCl [(mo, .inr (3, [.ref rs, .int (iz len), .int (iz co), .ref ex, .int (iz bi), .int (iz le), .ref li, .int (iz used), .ref bo, .int (iz bl), .ref cu])), (rs, .inl (cB, 4096, .inl (az fr))), (ex, .inr (4, [.ref xd, .int (iz ne), .int (iz pe)])), (xd, .inl (cB, 1300, .inl (az fe))), (li, .inl (cL, 160, .inr (.inl (azl lm)))), (bo, .inl (cB, 4096, .inl (az fb))), (cu, .inr (4, [.ref cd, .int (iz nc), .int (iz pp)])), (cd, .inl (cB, 1300, .inl (az fc)))] H := hP
          have hD : va_D (AM mo rs ex xd li bo cu cd) [(mo, .inr (3, [.ref rs, .int (iz len), .int (iz co), .ref ex, .int (iz bi), .int (iz le), .ref li, .int (iz used), .ref bo, .int (iz bl), .ref cu])), (rs, .inl (cB, 4096, .inl (az fr))), (ex, .inr (4, [.ref xd, .int (iz ne), .int (iz pe)])), (xd, .inl (cB, 1300, .inl (az fe))), (li, .inl (cL, 160, .inr (.inl (azl lm)))), (bo, .inl (cB, 4096, .inl (az fb))), (cu, .inr (4, [.ref cd, .int (iz nc), .int (iz pp)])), (cd, .inl (cB, 1300, .inl (az fc)))] := hD
          refine z_go (va_runV (As := [.int (iz (48 + ((max (lead Cx) (-lead Cx)) % 10)))]) (rest := []) ⟨hx, hb, hml, hown, hts⟩ hct.2 (z_cwV hts w_Mo_add tw_474 (by decide)) (z_preV hct.1 (va_recv hK hP (ci := 3) (q0 := 0) rfl rfl) hw) rfl rfl hl.1 rfl (lv_room (Nat.le_of_ble_eq_true rfl)) d_Mo_sci_188 ⟨Nat.zero_le _, Nat.zero_le _⟩) hS (fun _ h9 => h9) (fun v9 t9 H locs hv9 hp9 hz9 hk9 hS => ?_)
          obtain ⟨rfl, hw⟩ := hp9
          have hw := MW.moved hv9.symm hw
          refine W.eq (g2 := F0 m 191 ls []) rfl ?_
          exact z_vret hx hb hr hlk hS (zR_st zSt_MW) ⟨rfl, by
              unfold sciL expL
              first
                | rw [if_pos (show lead Cx < 0 by omega)]
                | rw [if_neg (show ¬ lead Cx < 0 by omega)]
              first
                | rw [if_pos (show 100 ≤ max (lead Cx) (-lead Cx) by omega)]
                | rw [if_neg (show ¬ 100 ≤ max (lead Cx) (-lead Cx) by omega)]
              simpa [List.append_assoc] using hw⟩ d_Mo_sci_191
        · refine lv_aload_n hx hb d_Mo_sci_152 rfl (lv_at hl 1 rfl) ?_
          refine lv_bipush (v := iz 48) hx hb d_Mo_sci_153 (by decide) ?_
          refine lv_iload hx hb d_Mo_sci_155 (lv_at hl 0 rfl) ?_
          refine lv_bipush (v := iz 100) hx hb d_Mo_sci_157 (by decide) ?_
          refine z_idiv hx hb d_Mo_sci_159 ⟨by omega, by omega⟩ ⟨by omega, by omega⟩ ?_
          refine z_iadd hx hb d_Mo_sci_160 ?_
          have hct := c_Mo_add l D cB cL mo rs ex xd li bo cu cd co bi le rt (((((bt ++ [48 + dgt Cx (lead Cx)]) ++ behL Cx (lead Cx - 1) cn pt) ++ [101]) ++ [45])) V Cx (48 + ((max (lead Cx) (-lead Cx)) / 100)) ⟨by omega, by omega⟩ (by (try simp only [List.length_append, List.length_cons, List.length_nil]); omega)
          have hw9 := hw
          obtain ⟨fc, nc, pp, ⟨len, used, bl, fr, fb, lm, fe, ne, pe, ⟨hK, hP, hD⟩, hrt, hbt, hE, hpe, hlm⟩, hC⟩ := hw9
          have hr1 := hrt.1
          have hr2 := hrt.2.1
          have hb1 := hbt.1
          have hb2 := hbt.2.1
          have hE1 := hE.1
          have hC1 := hC.1
          have hP : va_P D vwCl [(mo, .inr (3, [.ref rs, .int (iz len), .int (iz co), .ref ex, .int (iz bi), .int (iz le), .ref li, .int (iz used), .ref bo, .int (iz bl), .ref cu])), (rs, .inl (cB, 4096, .inl (az fr))), (ex, .inr (4, [.ref xd, .int (iz ne), .int (iz pe)])), (xd, .inl (cB, 1300, .inl (az fe))), (li, .inl (cL, 160, .inr (.inl (azl lm)))), (bo, .inl (cB, 4096, .inl (az fb))), (cu, .inr (4, [.ref cd, .int (iz nc), .int (iz pp)])), (cd, .inl (cB, 1300, .inl (az fc)))] H := hP
          have hD : va_D (AM mo rs ex xd li bo cu cd) [(mo, .inr (3, [.ref rs, .int (iz len), .int (iz co), .ref ex, .int (iz bi), .int (iz le), .ref li, .int (iz used), .ref bo, .int (iz bl), .ref cu])), (rs, .inl (cB, 4096, .inl (az fr))), (ex, .inr (4, [.ref xd, .int (iz ne), .int (iz pe)])), (xd, .inl (cB, 1300, .inl (az fe))), (li, .inl (cL, 160, .inr (.inl (azl lm)))), (bo, .inl (cB, 4096, .inl (az fb))), (cu, .inr (4, [.ref cd, .int (iz nc), .int (iz pp)])), (cd, .inl (cB, 1300, .inl (az fc)))] := hD
          refine z_go (va_runV (As := [.int (iz (48 + ((max (lead Cx) (-lead Cx)) / 100)))]) (rest := []) ⟨hx, hb, hml, hown, hts⟩ hct.2 (z_cwV hts w_Mo_add tw_474 (by decide)) (z_preV hct.1 (va_recv hK hP (ci := 3) (q0 := 0) rfl rfl) hw) rfl rfl hl.1 rfl (lv_room (Nat.le_of_ble_eq_true rfl)) d_Mo_sci_161 ⟨Nat.zero_le _, Nat.zero_le _⟩) hS (fun _ h9 => h9) (fun v9 t9 H locs hv9 hp9 hz9 hk9 hS => ?_)
          obtain ⟨rfl, hw⟩ := hp9
          have hw := MW.moved hv9.symm hw
          refine W.eq (g2 := F0 m 164 ls []) rfl ?_
          refine lv_aload_n hx hb d_Mo_sci_164 rfl (lv_at hl 1 rfl) ?_
          refine lv_bipush (v := iz 48) hx hb d_Mo_sci_165 (by decide) ?_
          refine lv_iload hx hb d_Mo_sci_167 (lv_at hl 0 rfl) ?_
          refine lv_bipush (v := iz 10) hx hb d_Mo_sci_169 (by decide) ?_
          refine z_idiv hx hb d_Mo_sci_171 ⟨by omega, by omega⟩ ⟨by omega, by omega⟩ ?_
          refine lv_bipush (v := iz 10) hx hb d_Mo_sci_172 (by decide) ?_
          refine z_irem hx hb d_Mo_sci_174 ⟨by omega, by omega⟩ ⟨by omega, by omega⟩ ?_
          refine z_iadd hx hb d_Mo_sci_175 ?_
          have hct := c_Mo_add l D cB cL mo rs ex xd li bo cu cd co bi le rt ((((((bt ++ [48 + dgt Cx (lead Cx)]) ++ behL Cx (lead Cx - 1) cn pt) ++ [101]) ++ [45]) ++ [48 + ((max (lead Cx) (-lead Cx)) / 100)])) V Cx (48 + (((max (lead Cx) (-lead Cx)) / 10) % 10)) ⟨by omega, by omega⟩ (by (try simp only [List.length_append, List.length_cons, List.length_nil]); omega)
          have hw9 := hw
          obtain ⟨fc, nc, pp, ⟨len, used, bl, fr, fb, lm, fe, ne, pe, ⟨hK, hP, hD⟩, hrt, hbt, hE, hpe, hlm⟩, hC⟩ := hw9
          have hr1 := hrt.1
          have hr2 := hrt.2.1
          have hb1 := hbt.1
          have hb2 := hbt.2.1
          have hE1 := hE.1
          have hC1 := hC.1
          have hP : va_P D vwCl [(mo, .inr (3, [.ref rs, .int (iz len), .int (iz co), .ref ex, .int (iz bi), .int (iz le), .ref li, .int (iz used), .ref bo, .int (iz bl), .ref cu])), (rs, .inl (cB, 4096, .inl (az fr))), (ex, .inr (4, [.ref xd, .int (iz ne), .int (iz pe)])), (xd, .inl (cB, 1300, .inl (az fe))), (li, .inl (cL, 160, .inr (.inl (azl lm)))), (bo, .inl (cB, 4096, .inl (az fb))), (cu, .inr (4, [.ref cd, .int (iz nc), .int (iz pp)])), (cd, .inl (cB, 1300, .inl (az fc)))] H := hP
          have hD : va_D (AM mo rs ex xd li bo cu cd) [(mo, .inr (3, [.ref rs, .int (iz len), .int (iz co), .ref ex, .int (iz bi), .int (iz le), .ref li, .int (iz used), .ref bo, .int (iz bl), .ref cu])), (rs, .inl (cB, 4096, .inl (az fr))), (ex, .inr (4, [.ref xd, .int (iz ne), .int (iz pe)])), (xd, .inl (cB, 1300, .inl (az fe))), (li, .inl (cL, 160, .inr (.inl (azl lm)))), (bo, .inl (cB, 4096, .inl (az fb))), (cu, .inr (4, [.ref cd, .int (iz nc), .int (iz pp)])), (cd, .inl (cB, 1300, .inl (az fc)))] := hD
          refine z_go (va_runV (As := [.int (iz (48 + (((max (lead Cx) (-lead Cx)) / 10) % 10)))]) (rest := []) ⟨hx, hb, hml, hown, hts⟩ hct.2 (z_cwV hts w_Mo_add tw_474 (by decide)) (z_preV hct.1 (va_recv hK hP (ci := 3) (q0 := 0) rfl rfl) hw) rfl rfl hl.1 rfl (lv_room (Nat.le_of_ble_eq_true rfl)) d_Mo_sci_176 ⟨Nat.zero_le _, Nat.zero_le _⟩) hS (fun _ h9 => h9) (fun v9 t9 H locs hv9 hp9 hz9 hk9 hS => ?_)
          obtain ⟨rfl, hw⟩ := hp9
          have hw := MW.moved hv9.symm hw
          refine W.eq (g2 := F0 m 179 ls []) rfl ?_
          refine lv_aload_n hx hb d_Mo_sci_179 rfl (lv_at hl 1 rfl) ?_
          refine lv_bipush (v := iz 48) hx hb d_Mo_sci_180 (by decide) ?_
          refine lv_iload hx hb d_Mo_sci_182 (lv_at hl 0 rfl) ?_
          refine lv_bipush (v := iz 10) hx hb d_Mo_sci_184 (by decide) ?_
          refine z_irem hx hb d_Mo_sci_186 ⟨by omega, by omega⟩ ⟨by omega, by omega⟩ ?_
          refine z_iadd hx hb d_Mo_sci_187 ?_
          have hct := c_Mo_add l D cB cL mo rs ex xd li bo cu cd co bi le rt (((((((bt ++ [48 + dgt Cx (lead Cx)]) ++ behL Cx (lead Cx - 1) cn pt) ++ [101]) ++ [45]) ++ [48 + ((max (lead Cx) (-lead Cx)) / 100)]) ++ [48 + (((max (lead Cx) (-lead Cx)) / 10) % 10)])) V Cx (48 + ((max (lead Cx) (-lead Cx)) % 10)) ⟨by omega, by omega⟩ (by (try simp only [List.length_append, List.length_cons, List.length_nil]); omega)
          have hw9 := hw
          obtain ⟨fc, nc, pp, ⟨len, used, bl, fr, fb, lm, fe, ne, pe, ⟨hK, hP, hD⟩, hrt, hbt, hE, hpe, hlm⟩, hC⟩ := hw9
          have hr1 := hrt.1
          have hr2 := hrt.2.1
          have hb1 := hbt.1
          have hb2 := hbt.2.1
          have hE1 := hE.1
          have hC1 := hC.1
          have hP : va_P D vwCl [(mo, .inr (3, [.ref rs, .int (iz len), .int (iz co), .ref ex, .int (iz bi), .int (iz le), .ref li, .int (iz used), .ref bo, .int (iz bl), .ref cu])), (rs, .inl (cB, 4096, .inl (az fr))), (ex, .inr (4, [.ref xd, .int (iz ne), .int (iz pe)])), (xd, .inl (cB, 1300, .inl (az fe))), (li, .inl (cL, 160, .inr (.inl (azl lm)))), (bo, .inl (cB, 4096, .inl (az fb))), (cu, .inr (4, [.ref cd, .int (iz nc), .int (iz pp)])), (cd, .inl (cB, 1300, .inl (az fc)))] H := hP
          have hD : va_D (AM mo rs ex xd li bo cu cd) [(mo, .inr (3, [.ref rs, .int (iz len), .int (iz co), .ref ex, .int (iz bi), .int (iz le), .ref li, .int (iz used), .ref bo, .int (iz bl), .ref cu])), (rs, .inl (cB, 4096, .inl (az fr))), (ex, .inr (4, [.ref xd, .int (iz ne), .int (iz pe)])), (xd, .inl (cB, 1300, .inl (az fe))), (li, .inl (cL, 160, .inr (.inl (azl lm)))), (bo, .inl (cB, 4096, .inl (az fb))), (cu, .inr (4, [.ref cd, .int (iz nc), .int (iz pp)])), (cd, .inl (cB, 1300, .inl (az fc)))] := hD
          refine z_go (va_runV (As := [.int (iz (48 + ((max (lead Cx) (-lead Cx)) % 10)))]) (rest := []) ⟨hx, hb, hml, hown, hts⟩ hct.2 (z_cwV hts w_Mo_add tw_474 (by decide)) (z_preV hct.1 (va_recv hK hP (ci := 3) (q0 := 0) rfl rfl) hw) rfl rfl hl.1 rfl (lv_room (Nat.le_of_ble_eq_true rfl)) d_Mo_sci_188 ⟨Nat.zero_le _, Nat.zero_le _⟩) hS (fun _ h9 => h9) (fun v9 t9 H locs hv9 hp9 hz9 hk9 hS => ?_)
          obtain ⟨rfl, hw⟩ := hp9
          have hw := MW.moved hv9.symm hw
          refine W.eq (g2 := F0 m 191 ls []) rfl ?_
          exact z_vret hx hb hr hlk hS (zR_st zSt_MW) ⟨rfl, by
              unfold sciL expL
              first
                | rw [if_pos (show lead Cx < 0 by omega)]
                | rw [if_neg (show ¬ lead Cx < 0 by omega)]
              first
                | rw [if_pos (show 100 ≤ max (lead Cx) (-lead Cx) by omega)]
                | rw [if_neg (show ¬ 100 ≤ max (lead Cx) (-lead Cx) by omega)]
              simpa [List.append_assoc] using hw⟩ d_Mo_sci_191
  have L49 : ∀ (N49 : Nat) (bt0 : List Int) (i : Nat) (k : Int) (H : Heap) (locs : List Loc) (ls : Array Slot), MW D cB cL mo rs ex xd li bo cu cd co bi le rt (bt0 ++ dl Cx (lead Cx - 1) i) V Cx s H → va_S (AM mo rs ex xd li bo cu cd) s.heap H locs → lv_has ls 6 [(0, .ref mo), (1, .ref ex), (2, .int (iz (cn : Int))), (4, .int (iz k))] → (k = (i : Int) + 1 ∧ i ≤ cn) → (bt0 = (bt ++ [48 + dgt Cx (lead Cx)]) ++ dotL cn pt) → cn - i < N49 → W p l e (zrm 2) s m args below meth c H locs 0 0 (MQ below (zQ (AM mo rs ex xd li bo cu cd) (zR none (MW D cB cL mo rs ex xd li bo cu cd co bi le rt (bt ++ sciL Cx (lead Cx) cn pt) V Cx))) args s 0 0 (AM mo rs ex xd li bo cu cd)) (F0 m 49 ls []) := by
    intro N49
    induction N49 with
    | zero => intro bt0 i k H locs ls hw hS hl hk hbt0 hN49; exact absurd hN49 (Nat.not_lt_zero _)
    | succ N49 ih49 =>
      intro bt0 i k H locs ls hw hS hl hk hbt0 hN49
      have hl1 := dl_len Cx (lead Cx - 1) i
      have hl2 := dotL_len cn pt
      have hl3 : bt0.length = bt.length + 1 + (dotL cn pt).length := by rw [hbt0, List.length_append, List.length_append]; rfl
      refine lv_iload hx hb d_Mo_sci_49 (lv_at hl 3 rfl) ?_
      refine lv_iload_n hx hb d_Mo_sci_51 rfl (lv_at hl 2 rfl) ?_
      refine z_icmp_gt (tgt := 86) hx hb d_Mo_sci_52 rfl ⟨by omega, by omega⟩ ⟨by omega, by omega⟩ (fun hc52 => ?_) (fun hc52 => ?_)
      · refine lv_aload_n hx hb d_Mo_sci_86 rfl (lv_at hl 1 rfl) ?_
        have hw9 := hw
        obtain ⟨fc, nc, pp, ⟨len, used, bl, fr, fb, lm, fe, ne, pe, ⟨hK, hP, hD⟩, hrt, hbt, hE, hpe, hlm⟩, hC⟩ := hw9
        have hr1 := hrt.1
        have hr2 := hrt.2.1
        have hb1 := hbt.1
        have hb2 := hbt.2.1
        have hE1 := hE.1
        have hC1 := hC.1
        have hP : va_P D vwCl [(mo, .inr (3, [.ref rs, .int (iz len), .int (iz co), .ref ex, .int (iz bi), .int (iz le), .ref li, .int (iz used), .ref bo, .int (iz bl), .ref cu])), (rs, .inl (cB, 4096, .inl (az fr))), (ex, .inr (4, [.ref xd, .int (iz ne), .int (iz pe)])), (xd, .inl (cB, 1300, .inl (az fe))), (li, .inl (cL, 160, .inr (.inl (azl lm)))), (bo, .inl (cB, 4096, .inl (az fb))), (cu, .inr (4, [.ref cd, .int (iz nc), .int (iz pp)])), (cd, .inl (cB, 1300, .inl (az fc)))] H := hP
        have hD : va_D (AM mo rs ex xd li bo cu cd) [(mo, .inr (3, [.ref rs, .int (iz len), .int (iz co), .ref ex, .int (iz bi), .int (iz le), .ref li, .int (iz used), .ref bo, .int (iz bl), .ref cu])), (rs, .inl (cB, 4096, .inl (az fr))), (ex, .inr (4, [.ref xd, .int (iz ne), .int (iz pe)])), (xd, .inl (cB, 1300, .inl (az fe))), (li, .inl (cL, 160, .inr (.inl (azl lm)))), (bo, .inl (cB, 4096, .inl (az fb))), (cu, .inr (4, [.ref cd, .int (iz nc), .int (iz pp)])), (cd, .inl (cB, 1300, .inl (az fc)))] := hD
        refine va_get (D := D) (ci := 4) (v := .int (iz ne)) (C := R_4) (T := T_4) (N := 3) hx hb hts in_4 hown hK hP 2 rfl rfl 1 (by decide) (hts _ tw_383) (fun _ h9 => h9) rfl d_Mo_sci_87 ?_
        refine z_if_ne (tgt := 97) hx hb d_Mo_sci_90 rfl ⟨by omega, by omega⟩ (fun hc90 => ?_) (fun hc90 => ?_)
        · refine lv_aload_n hx hb d_Mo_sci_97 rfl (lv_at hl 0 rfl) ?_
          refine va_get (D := D) (ci := 3) (v := .ref cu) (C := R_3) (T := T_3) (N := 11) hx hb hts in_3 hown hK hP 0 rfl rfl 10 (by decide) (hts _ tw_402) (fun _ h9 => h9) rfl d_Mo_sci_98 ?_
          refine va_get (D := D) (ci := 4) (v := .int (iz pp)) (C := R_4) (T := T_4) (N := 3) hx hb hts in_4 hown hK hP 6 rfl rfl 2 (by decide) (hts _ tw_384) (fun _ h9 => h9) rfl d_Mo_sci_101 ?_
          have hpl : pp - 1 = lead Cx := by
            have h8 := rnd_pos hE (by omega) (k := (cn : Int) + 1) (by omega)
            rw [← hCx] at h8
            have h9 : nc ≠ 0 := fun q => by have := hC.zero q; omega
            exact (hC.leadv (by omega)).symm
          refine lv_iconst (v := iz 1) hx hb d_Mo_sci_104 rfl ?_
          refine z_isub hx hb d_Mo_sci_105 ?_
          refine z_ri (b := lead Cx) hpl ?_
          refine lv_istore hx hb d_Mo_sci_106 hl (by decide) rfl (fun ls hl => ?_)
          have hl : lv_has ls 6 [(4, .int (iz (lead Cx))), (0, .ref mo), (1, .ref ex), (2, .int (iz (cn : Int)))] := hl
          have hw : MW D cB cL mo rs ex xd li bo cu cd co bi le rt ((bt ++ [48 + dgt Cx (lead Cx)]) ++ behL Cx (lead Cx - 1) cn pt) V Cx s H := by
            have e8 : i = cn := by omega
            unfold behL
            rw [e8, hbt0, List.append_assoc] at hw
            exact hw
          exact L108  _ _ _ hw hS (lv_sub hl [1, 0] rfl) 
        · have hC0 : Cx = 0 := by
            rw [hCx, hE.zero hc90]
            exact rnd_0 _
          refine lv_iconst (v := iz 0) hx hb d_Mo_sci_93 rfl ?_
          refine z_ri (b := lead Cx) (by rw [hC0, lead_0]) ?_
          refine lv_goto (tgt := 106) hx hb d_Mo_sci_94 rfl ?_
          refine lv_istore hx hb d_Mo_sci_106 hl (by decide) rfl (fun ls hl => ?_)
          have hl : lv_has ls 6 [(4, .int (iz (lead Cx))), (0, .ref mo), (1, .ref ex), (2, .int (iz (cn : Int)))] := hl
          have hw : MW D cB cL mo rs ex xd li bo cu cd co bi le rt ((bt ++ [48 + dgt Cx (lead Cx)]) ++ behL Cx (lead Cx - 1) cn pt) V Cx s H := by
            have e8 : i = cn := by omega
            unfold behL
            rw [e8, hbt0, List.append_assoc] at hw
            exact hw
          exact L108  _ _ _ hw hS (lv_sub hl [1, 0] rfl) 
      · refine lv_aload_n hx hb d_Mo_sci_55 rfl (lv_at hl 0 rfl) ?_
        refine lv_aload_n hx hb d_Mo_sci_56 rfl (lv_at hl 1 rfl) ?_
        have hw9 := hw
        obtain ⟨fc, nc, pp, ⟨len, used, bl, fr, fb, lm, fe, ne, pe, ⟨hK, hP, hD⟩, hrt, hbt, hE, hpe, hlm⟩, hC⟩ := hw9
        have hr1 := hrt.1
        have hr2 := hrt.2.1
        have hb1 := hbt.1
        have hb2 := hbt.2.1
        have hE1 := hE.1
        have hC1 := hC.1
        have hP : va_P D vwCl [(mo, .inr (3, [.ref rs, .int (iz len), .int (iz co), .ref ex, .int (iz bi), .int (iz le), .ref li, .int (iz used), .ref bo, .int (iz bl), .ref cu])), (rs, .inl (cB, 4096, .inl (az fr))), (ex, .inr (4, [.ref xd, .int (iz ne), .int (iz pe)])), (xd, .inl (cB, 1300, .inl (az fe))), (li, .inl (cL, 160, .inr (.inl (azl lm)))), (bo, .inl (cB, 4096, .inl (az fb))), (cu, .inr (4, [.ref cd, .int (iz nc), .int (iz pp)])), (cd, .inl (cB, 1300, .inl (az fc)))] H := hP
        have hD : va_D (AM mo rs ex xd li bo cu cd) [(mo, .inr (3, [.ref rs, .int (iz len), .int (iz co), .ref ex, .int (iz bi), .int (iz le), .ref li, .int (iz used), .ref bo, .int (iz bl), .ref cu])), (rs, .inl (cB, 4096, .inl (az fr))), (ex, .inr (4, [.ref xd, .int (iz ne), .int (iz pe)])), (xd, .inl (cB, 1300, .inl (az fe))), (li, .inl (cL, 160, .inr (.inl (azl lm)))), (bo, .inl (cB, 4096, .inl (az fb))), (cu, .inr (4, [.ref cd, .int (iz nc), .int (iz pp)])), (cd, .inl (cB, 1300, .inl (az fc)))] := hD
        refine va_get (D := D) (ci := 4) (v := .int (iz ne)) (C := R_4) (T := T_4) (N := 3) hx hb hts in_4 hown hK hP 2 rfl rfl 1 (by decide) (hts _ tw_383) (fun _ h9 => h9) rfl d_Mo_sci_57 ?_
        refine z_if_ne (tgt := 68) hx hb d_Mo_sci_60 rfl ⟨by omega, by omega⟩ (fun hc60 => ?_) (fun hc60 => ?_)
        · refine lv_aload_n hx hb d_Mo_sci_68 rfl (lv_at hl 0 rfl) ?_
          refine va_get (D := D) (ci := 3) (v := .ref cu) (C := R_3) (T := T_3) (N := 11) hx hb hts in_3 hown hK hP 0 rfl rfl 10 (by decide) (hts _ tw_402) (fun _ h9 => h9) rfl d_Mo_sci_69 ?_
          refine lv_iload hx hb d_Mo_sci_72 (lv_at hl 3 rfl) ?_
          have hct := c_Mo_digit l D cB cL mo rs ex xd li bo cu cd co bi le rt (bt0 ++ dl Cx (lead Cx - 1) i) V Cx k ⟨by omega, by omega⟩
          refine z_go (va_runS (As := [.ref cu, .int (iz k)]) (rest := [.ref mo]) ⟨hx, hb, hml, hown, hts⟩ hct.2 (z_cwS hts w_Mo_digit tw_515 (by decide)) (z_preS hct.1 hw) rfl rfl hl.1 rfl (lv_room (Nat.le_of_ble_eq_true rfl)) d_Mo_sci_74 ⟨Nat.zero_le _, Nat.zero_le _⟩) hS (fun _ h9 => h9) (fun v9 t9 H locs hv9 hp9 hz9 hk9 hS => ?_)
          obtain ⟨rfl, hw⟩ := hp9
          have hw := MW.moved hv9.symm hw
          refine W.eq (g2 := F0 m 77 ls [.int (iz (48 + dgt Cx (lead Cx - k))), .ref mo]) rfl ?_
          refine z_ri (b := 48 + dgt Cx (lead Cx - 1 - (i : Int))) (by rw [show lead Cx - k = lead Cx - 1 - (i : Int) by omega]) ?_
          have hct := c_Mo_add l D cB cL mo rs ex xd li bo cu cd co bi le rt (bt0 ++ dl Cx (lead Cx - 1) i) V Cx (48 + dgt Cx (lead Cx - 1 - (i : Int))) (dg48 _ _) (by (try simp only [List.length_append, List.length_cons, List.length_nil]); omega)
          have hw9 := hw
          obtain ⟨fc, nc, pp, ⟨len, used, bl, fr, fb, lm, fe, ne, pe, ⟨hK, hP, hD⟩, hrt, hbt, hE, hpe, hlm⟩, hC⟩ := hw9
          have hr1 := hrt.1
          have hr2 := hrt.2.1
          have hb1 := hbt.1
          have hb2 := hbt.2.1
          have hE1 := hE.1
          have hC1 := hC.1
          have hP : va_P D vwCl [(mo, .inr (3, [.ref rs, .int (iz len), .int (iz co), .ref ex, .int (iz bi), .int (iz le), .ref li, .int (iz used), .ref bo, .int (iz bl), .ref cu])), (rs, .inl (cB, 4096, .inl (az fr))), (ex, .inr (4, [.ref xd, .int (iz ne), .int (iz pe)])), (xd, .inl (cB, 1300, .inl (az fe))), (li, .inl (cL, 160, .inr (.inl (azl lm)))), (bo, .inl (cB, 4096, .inl (az fb))), (cu, .inr (4, [.ref cd, .int (iz nc), .int (iz pp)])), (cd, .inl (cB, 1300, .inl (az fc)))] H := hP
          have hD : va_D (AM mo rs ex xd li bo cu cd) [(mo, .inr (3, [.ref rs, .int (iz len), .int (iz co), .ref ex, .int (iz bi), .int (iz le), .ref li, .int (iz used), .ref bo, .int (iz bl), .ref cu])), (rs, .inl (cB, 4096, .inl (az fr))), (ex, .inr (4, [.ref xd, .int (iz ne), .int (iz pe)])), (xd, .inl (cB, 1300, .inl (az fe))), (li, .inl (cL, 160, .inr (.inl (azl lm)))), (bo, .inl (cB, 4096, .inl (az fb))), (cu, .inr (4, [.ref cd, .int (iz nc), .int (iz pp)])), (cd, .inl (cB, 1300, .inl (az fc)))] := hD
          refine z_go (va_runV (As := [.int (iz (48 + dgt Cx (lead Cx - 1 - (i : Int))))]) (rest := []) ⟨hx, hb, hml, hown, hts⟩ hct.2 (z_cwV hts w_Mo_add tw_474 (by decide)) (z_preV hct.1 (va_recv hK hP (ci := 3) (q0 := 0) rfl rfl) hw) rfl rfl hl.1 rfl (lv_room (Nat.le_of_ble_eq_true rfl)) d_Mo_sci_77 ⟨Nat.zero_le _, Nat.zero_le _⟩) hS (fun _ h9 => h9) (fun v9 t9 H locs hv9 hp9 hz9 hk9 hS => ?_)
          obtain ⟨rfl, hw⟩ := hp9
          have hw := MW.moved hv9.symm hw
          refine W.eq (g2 := F0 m 80 ls []) rfl ?_
          refine lv_iinc (k := 3) (v := (iz (k + 1))) hx hb d_Mo_sci_80 hl rfl (by show iz _ + iz (1) = _; rw [← iz_add]; try rfl) (by decide) rfl (fun ls hl => ?_)
          have hl : lv_has ls 6 [(4, .int (iz (k + 1))), (0, .ref mo), (1, .ref ex), (2, .int (iz (cn : Int)))] := hl
          refine lv_goto (tgt := 49) hx hb d_Mo_sci_83 rfl ?_
          have hw : MW D cB cL mo rs ex xd li bo cu cd co bi le rt (bt0 ++ dl Cx (lead Cx - 1) (i + 1)) V Cx s H := by
            show MW _ _ _ _ _ _ _ _ _ _ _ _ _ _ _ (_ ++ (_ ++ _)) _ _ _ _
            rw [← List.append_assoc]
            exact hw
          exact ih49 bt0 (i + 1) (k + 1) _ _ _ hw hS (lv_sub hl [1, 2, 3, 0] rfl) ⟨by omega, by omega⟩ hbt0 (by omega)
        · have hC0 : Cx = 0 := by
            rw [hCx, hE.zero hc60]
            exact rnd_0 _
          refine lv_bipush (v := iz 48) hx hb d_Mo_sci_63 (by decide) ?_
          refine z_ri (b := 48 + dgt Cx (lead Cx - 1 - (i : Int))) (by rw [hC0, dgt_zero]; rfl) ?_
          refine lv_goto (tgt := 77) hx hb d_Mo_sci_65 rfl ?_
          have hct := c_Mo_add l D cB cL mo rs ex xd li bo cu cd co bi le rt (bt0 ++ dl Cx (lead Cx - 1) i) V Cx (48 + dgt Cx (lead Cx - 1 - (i : Int))) (dg48 _ _) (by (try simp only [List.length_append, List.length_cons, List.length_nil]); omega)
          refine z_go (va_runV (As := [.int (iz (48 + dgt Cx (lead Cx - 1 - (i : Int))))]) (rest := []) ⟨hx, hb, hml, hown, hts⟩ hct.2 (z_cwV hts w_Mo_add tw_474 (by decide)) (z_preV hct.1 (va_recv hK hP (ci := 3) (q0 := 0) rfl rfl) hw) rfl rfl hl.1 rfl (lv_room (Nat.le_of_ble_eq_true rfl)) d_Mo_sci_77 ⟨Nat.zero_le _, Nat.zero_le _⟩) hS (fun _ h9 => h9) (fun v9 t9 H locs hv9 hp9 hz9 hk9 hS => ?_)
          obtain ⟨rfl, hw⟩ := hp9
          have hw := MW.moved hv9.symm hw
          refine W.eq (g2 := F0 m 80 ls []) rfl ?_
          refine lv_iinc (k := 3) (v := (iz (k + 1))) hx hb d_Mo_sci_80 hl rfl (by show iz _ + iz (1) = _; rw [← iz_add]; try rfl) (by decide) rfl (fun ls hl => ?_)
          have hl : lv_has ls 6 [(4, .int (iz (k + 1))), (0, .ref mo), (1, .ref ex), (2, .int (iz (cn : Int)))] := hl
          refine lv_goto (tgt := 49) hx hb d_Mo_sci_83 rfl ?_
          have hw : MW D cB cL mo rs ex xd li bo cu cd co bi le rt (bt0 ++ dl Cx (lead Cx - 1) (i + 1)) V Cx s H := by
            show MW _ _ _ _ _ _ _ _ _ _ _ _ _ _ _ (_ ++ (_ ++ _)) _ _ _ _
            rw [← List.append_assoc]
            exact hw
          exact ih49 bt0 (i + 1) (k + 1) _ _ _ hw hS (lv_sub hl [1, 2, 3, 0] rfl) ⟨by omega, by omega⟩ hbt0 (by omega)
  refine lv_aload_n hx hb d_Mo_sci_0 rfl (lv_at hl 0 rfl) ?_
  refine lv_aload_n hx hb d_Mo_sci_1 rfl (lv_at hl 1 rfl) ?_
  refine lv_iload_n hx hb d_Mo_sci_2 rfl (lv_at hl 2 rfl) ?_
  refine lv_iconst (v := iz 1) hx hb d_Mo_sci_3 rfl ?_
  refine z_iadd hx hb d_Mo_sci_4 ?_
  have hct := c_Mo_round l D cB cL mo rs ex xd li bo cu cd co bi le rt bt V C ((cn : Int) + 1) ⟨by omega, by omega⟩
  have hw9 := hw
  obtain ⟨fc, nc, pp, ⟨len, used, bl, fr, fb, lm, fe, ne, pe, ⟨hK, hP, hD⟩, hrt, hbt, hE, hpe, hlm⟩, hC⟩ := hw9
  have hr1 := hrt.1
  have hr2 := hrt.2.1
  have hb1 := hbt.1
  have hb2 := hbt.2.1
  have hE1 := hE.1
  have hC1 := hC.1
  have hP : va_P D vwCl [(mo, .inr (3, [.ref rs, .int (iz len), .int (iz co), .ref ex, .int (iz bi), .int (iz le), .ref li, .int (iz used), .ref bo, .int (iz bl), .ref cu])), (rs, .inl (cB, 4096, .inl (az fr))), (ex, .inr (4, [.ref xd, .int (iz ne), .int (iz pe)])), (xd, .inl (cB, 1300, .inl (az fe))), (li, .inl (cL, 160, .inr (.inl (azl lm)))), (bo, .inl (cB, 4096, .inl (az fb))), (cu, .inr (4, [.ref cd, .int (iz nc), .int (iz pp)])), (cd, .inl (cB, 1300, .inl (az fc)))] H := hP
  have hD : va_D (AM mo rs ex xd li bo cu cd) [(mo, .inr (3, [.ref rs, .int (iz len), .int (iz co), .ref ex, .int (iz bi), .int (iz le), .ref li, .int (iz used), .ref bo, .int (iz bl), .ref cu])), (rs, .inl (cB, 4096, .inl (az fr))), (ex, .inr (4, [.ref xd, .int (iz ne), .int (iz pe)])), (xd, .inl (cB, 1300, .inl (az fe))), (li, .inl (cL, 160, .inr (.inl (azl lm)))), (bo, .inl (cB, 4096, .inl (az fb))), (cu, .inr (4, [.ref cd, .int (iz nc), .int (iz pp)])), (cd, .inl (cB, 1300, .inl (az fc)))] := hD
  refine z_go (va_runV (As := [.ref ex, .int (iz ((cn : Int) + 1))]) (rest := []) ⟨hx, hb, hml, hown, hts⟩ hct.2 (z_cwV hts w_Mo_rounded tw_508 (by decide)) (z_preV hct.1 (va_recv hK hP (ci := 3) (q0 := 0) rfl rfl) hw) rfl rfl hl.1 rfl (lv_room (Nat.le_of_ble_eq_true rfl)) d_Mo_sci_5 ⟨Nat.zero_le _, Nat.zero_le _⟩) hS (fun _ h9 => h9) (fun v9 t9 H locs hv9 hp9 hz9 hk9 hS => ?_)
  obtain ⟨rfl, hw⟩ := hp9
  have hw := MW.moved hv9.symm hw
  rw [← hCx] at hw
  refine W.eq (g2 := F0 m 8 ls []) rfl ?_
  refine lv_aload_n hx hb d_Mo_sci_8 rfl (lv_at hl 0 rfl) ?_
  refine lv_aload_n hx hb d_Mo_sci_9 rfl (lv_at hl 1 rfl) ?_
  have hw9 := hw
  obtain ⟨fc, nc, pp, ⟨len, used, bl, fr, fb, lm, fe, ne, pe, ⟨hK, hP, hD⟩, hrt, hbt, hE, hpe, hlm⟩, hC⟩ := hw9
  have hr1 := hrt.1
  have hr2 := hrt.2.1
  have hb1 := hbt.1
  have hb2 := hbt.2.1
  have hE1 := hE.1
  have hC1 := hC.1
  have hP : va_P D vwCl [(mo, .inr (3, [.ref rs, .int (iz len), .int (iz co), .ref ex, .int (iz bi), .int (iz le), .ref li, .int (iz used), .ref bo, .int (iz bl), .ref cu])), (rs, .inl (cB, 4096, .inl (az fr))), (ex, .inr (4, [.ref xd, .int (iz ne), .int (iz pe)])), (xd, .inl (cB, 1300, .inl (az fe))), (li, .inl (cL, 160, .inr (.inl (azl lm)))), (bo, .inl (cB, 4096, .inl (az fb))), (cu, .inr (4, [.ref cd, .int (iz nc), .int (iz pp)])), (cd, .inl (cB, 1300, .inl (az fc)))] H := hP
  have hD : va_D (AM mo rs ex xd li bo cu cd) [(mo, .inr (3, [.ref rs, .int (iz len), .int (iz co), .ref ex, .int (iz bi), .int (iz le), .ref li, .int (iz used), .ref bo, .int (iz bl), .ref cu])), (rs, .inl (cB, 4096, .inl (az fr))), (ex, .inr (4, [.ref xd, .int (iz ne), .int (iz pe)])), (xd, .inl (cB, 1300, .inl (az fe))), (li, .inl (cL, 160, .inr (.inl (azl lm)))), (bo, .inl (cB, 4096, .inl (az fb))), (cu, .inr (4, [.ref cd, .int (iz nc), .int (iz pp)])), (cd, .inl (cB, 1300, .inl (az fc)))] := hD
  refine va_get (D := D) (ci := 4) (v := .int (iz ne)) (C := R_4) (T := T_4) (N := 3) hx hb hts in_4 hown hK hP 2 rfl rfl 1 (by decide) (hts _ tw_383) (fun _ h9 => h9) rfl d_Mo_sci_10 ?_
  refine z_if_ne (tgt := 21) hx hb d_Mo_sci_13 rfl ⟨by omega, by omega⟩ (fun hc13 => ?_) (fun hc13 => ?_)
  · refine lv_aload_n hx hb d_Mo_sci_21 rfl (lv_at hl 0 rfl) ?_
    refine va_get (D := D) (ci := 3) (v := .ref cu) (C := R_3) (T := T_3) (N := 11) hx hb hts in_3 hown hK hP 0 rfl rfl 10 (by decide) (hts _ tw_402) (fun _ h9 => h9) rfl d_Mo_sci_22 ?_
    refine lv_iconst (v := iz 0) hx hb d_Mo_sci_25 rfl ?_
    have hct := c_Mo_digit l D cB cL mo rs ex xd li bo cu cd co bi le rt bt V Cx 0 ⟨by omega, by omega⟩
    refine z_go (va_runS (As := [.ref cu, .int (iz 0)]) (rest := [.ref mo]) ⟨hx, hb, hml, hown, hts⟩ hct.2 (z_cwS hts w_Mo_digit tw_515 (by decide)) (z_preS hct.1 hw) rfl rfl hl.1 rfl (lv_room (Nat.le_of_ble_eq_true rfl)) d_Mo_sci_26 ⟨Nat.zero_le _, Nat.zero_le _⟩) hS (fun _ h9 => h9) (fun v9 t9 H locs hv9 hp9 hz9 hk9 hS => ?_)
    obtain ⟨rfl, hw⟩ := hp9
    have hw := MW.moved hv9.symm hw
    refine W.eq (g2 := F0 m 29 ls [.int (iz (48 + dgt Cx (lead Cx - 0))), .ref mo]) rfl ?_
    refine z_ri (b := 48 + dgt Cx (lead Cx)) (by rw [Int.sub_zero]) ?_
    have hct := c_Mo_add l D cB cL mo rs ex xd li bo cu cd co bi le rt (bt) V Cx (48 + dgt Cx (lead Cx)) (dg48 _ _) (by (try simp only [List.length_append, List.length_cons, List.length_nil]); omega)
    have hw9 := hw
    obtain ⟨fc, nc, pp, ⟨len, used, bl, fr, fb, lm, fe, ne, pe, ⟨hK, hP, hD⟩, hrt, hbt, hE, hpe, hlm⟩, hC⟩ := hw9
    have hr1 := hrt.1
    have hr2 := hrt.2.1
    have hb1 := hbt.1
    have hb2 := hbt.2.1
    have hE1 := hE.1
    have hC1 := hC.1
    have hP : va_P D vwCl [(mo, .inr (3, [.ref rs, .int (iz len), .int (iz co), .ref ex, .int (iz bi), .int (iz le), .ref li, .int (iz used), .ref bo, .int (iz bl), .ref cu])), (rs, .inl (cB, 4096, .inl (az fr))), (ex, .inr (4, [.ref xd, .int (iz ne), .int (iz pe)])), (xd, .inl (cB, 1300, .inl (az fe))), (li, .inl (cL, 160, .inr (.inl (azl lm)))), (bo, .inl (cB, 4096, .inl (az fb))), (cu, .inr (4, [.ref cd, .int (iz nc), .int (iz pp)])), (cd, .inl (cB, 1300, .inl (az fc)))] H := hP
    have hD : va_D (AM mo rs ex xd li bo cu cd) [(mo, .inr (3, [.ref rs, .int (iz len), .int (iz co), .ref ex, .int (iz bi), .int (iz le), .ref li, .int (iz used), .ref bo, .int (iz bl), .ref cu])), (rs, .inl (cB, 4096, .inl (az fr))), (ex, .inr (4, [.ref xd, .int (iz ne), .int (iz pe)])), (xd, .inl (cB, 1300, .inl (az fe))), (li, .inl (cL, 160, .inr (.inl (azl lm)))), (bo, .inl (cB, 4096, .inl (az fb))), (cu, .inr (4, [.ref cd, .int (iz nc), .int (iz pp)])), (cd, .inl (cB, 1300, .inl (az fc)))] := hD
    refine z_go (va_runV (As := [.int (iz (48 + dgt Cx (lead Cx)))]) (rest := []) ⟨hx, hb, hml, hown, hts⟩ hct.2 (z_cwV hts w_Mo_add tw_474 (by decide)) (z_preV hct.1 (va_recv hK hP (ci := 3) (q0 := 0) rfl rfl) hw) rfl rfl hl.1 rfl (lv_room (Nat.le_of_ble_eq_true rfl)) d_Mo_sci_29 ⟨Nat.zero_le _, Nat.zero_le _⟩) hS (fun _ h9 => h9) (fun v9 t9 H locs hv9 hp9 hz9 hk9 hS => ?_)
    obtain ⟨rfl, hw⟩ := hp9
    have hw := MW.moved hv9.symm hw
    refine W.eq (g2 := F0 m 32 ls []) rfl ?_
    refine lv_iload_n hx hb d_Mo_sci_32 rfl (lv_at hl 2 rfl) ?_
    refine z_if_gt (tgt := 40) hx hb d_Mo_sci_33 rfl ⟨by omega, by omega⟩ (fun hc33 => ?_) (fun hc33 => ?_)
    · refine lv_aload_n hx hb d_Mo_sci_40 rfl (lv_at hl 0 rfl) ?_
      refine lv_bipush (v := iz 46) hx hb d_Mo_sci_41 (by decide) ?_
      have hct := c_Mo_add l D cB cL mo rs ex xd li bo cu cd co bi le rt ((bt ++ [48 + dgt Cx (lead Cx)])) V Cx (46) ⟨by omega, by omega⟩ (by (try simp only [List.length_append, List.length_cons, List.length_nil]); omega)
      have hw9 := hw
      obtain ⟨fc, nc, pp, ⟨len, used, bl, fr, fb, lm, fe, ne, pe, ⟨hK, hP, hD⟩, hrt, hbt, hE, hpe, hlm⟩, hC⟩ := hw9
      have hr1 := hrt.1
      have hr2 := hrt.2.1
      have hb1 := hbt.1
      have hb2 := hbt.2.1
      have hE1 := hE.1
      have hC1 := hC.1
      have hP : va_P D vwCl [(mo, .inr (3, [.ref rs, .int (iz len), .int (iz co), .ref ex, .int (iz bi), .int (iz le), .ref li, .int (iz used), .ref bo, .int (iz bl), .ref cu])), (rs, .inl (cB, 4096, .inl (az fr))), (ex, .inr (4, [.ref xd, .int (iz ne), .int (iz pe)])), (xd, .inl (cB, 1300, .inl (az fe))), (li, .inl (cL, 160, .inr (.inl (azl lm)))), (bo, .inl (cB, 4096, .inl (az fb))), (cu, .inr (4, [.ref cd, .int (iz nc), .int (iz pp)])), (cd, .inl (cB, 1300, .inl (az fc)))] H := hP
      have hD : va_D (AM mo rs ex xd li bo cu cd) [(mo, .inr (3, [.ref rs, .int (iz len), .int (iz co), .ref ex, .int (iz bi), .int (iz le), .ref li, .int (iz used), .ref bo, .int (iz bl), .ref cu])), (rs, .inl (cB, 4096, .inl (az fr))), (ex, .inr (4, [.ref xd, .int (iz ne), .int (iz pe)])), (xd, .inl (cB, 1300, .inl (az fe))), (li, .inl (cL, 160, .inr (.inl (azl lm)))), (bo, .inl (cB, 4096, .inl (az fb))), (cu, .inr (4, [.ref cd, .int (iz nc), .int (iz pp)])), (cd, .inl (cB, 1300, .inl (az fc)))] := hD
      refine z_go (va_runV (As := [.int (iz 46)]) (rest := []) ⟨hx, hb, hml, hown, hts⟩ hct.2 (z_cwV hts w_Mo_add tw_474 (by decide)) (z_preV hct.1 (va_recv hK hP (ci := 3) (q0 := 0) rfl rfl) hw) rfl rfl hl.1 rfl (lv_room (Nat.le_of_ble_eq_true rfl)) d_Mo_sci_43 ⟨Nat.zero_le _, Nat.zero_le _⟩) hS (fun _ h9 => h9) (fun v9 t9 H locs hv9 hp9 hz9 hk9 hS => ?_)
      obtain ⟨rfl, hw⟩ := hp9
      have hw := MW.moved hv9.symm hw
      refine W.eq (g2 := F0 m 46 ls []) rfl ?_
      refine lv_iconst (v := iz 1) hx hb d_Mo_sci_46 rfl ?_
      refine lv_istore hx hb d_Mo_sci_47 hl (by decide) rfl (fun ls hl => ?_)
      have hl : lv_has ls 6 [(4, .int (iz 1)), (0, .ref mo), (1, .ref ex), (2, .int (iz (cn : Int))), (3, .int (iz pt))] := hl
      have hw : MW D cB cL mo rs ex xd li bo cu cd co bi le rt (((bt ++ [48 + dgt Cx (lead Cx)]) ++ [46]) ++ dl Cx (lead Cx - 1) 0) V Cx s H := by
        show MW _ _ _ _ _ _ _ _ _ _ _ _ _ _ _ (_ ++ []) _ _ _ _
        rw [List.append_nil]
        exact hw
      exact L49 _ ((bt ++ [48 + dgt Cx (lead Cx)]) ++ [46]) 0 1 _ _ _ hw hS (lv_sub hl [1, 2, 3, 0] rfl) ⟨by omega, Nat.zero_le _⟩ (by unfold dotL; first | rw [if_pos (by omega)] | (rw [if_neg (by omega), List.append_nil])) (Nat.lt_succ_self _)
    · refine lv_iload_n hx hb d_Mo_sci_36 rfl (lv_at hl 3 rfl) ?_
      refine z_if_eq (tgt := 46) hx hb d_Mo_sci_37 rfl ⟨by omega, by omega⟩ (fun hc37 => ?_) (fun hc37 => ?_)
      · refine lv_iconst (v := iz 1) hx hb d_Mo_sci_46 rfl ?_
        refine lv_istore hx hb d_Mo_sci_47 hl (by decide) rfl (fun ls hl => ?_)
        have hl : lv_has ls 6 [(4, .int (iz 1)), (0, .ref mo), (1, .ref ex), (2, .int (iz (cn : Int))), (3, .int (iz pt))] := hl
        have hw : MW D cB cL mo rs ex xd li bo cu cd co bi le rt ((bt ++ [48 + dgt Cx (lead Cx)]) ++ dl Cx (lead Cx - 1) 0) V Cx s H := by
          show MW _ _ _ _ _ _ _ _ _ _ _ _ _ _ _ (_ ++ []) _ _ _ _
          rw [List.append_nil]
          exact hw
        exact L49 _ (bt ++ [48 + dgt Cx (lead Cx)]) 0 1 _ _ _ hw hS (lv_sub hl [1, 2, 3, 0] rfl) ⟨by omega, Nat.zero_le _⟩ (by unfold dotL; first | rw [if_pos (by omega)] | (rw [if_neg (by omega), List.append_nil])) (Nat.lt_succ_self _)
      · refine lv_aload_n hx hb d_Mo_sci_40 rfl (lv_at hl 0 rfl) ?_
        refine lv_bipush (v := iz 46) hx hb d_Mo_sci_41 (by decide) ?_
        have hct := c_Mo_add l D cB cL mo rs ex xd li bo cu cd co bi le rt ((bt ++ [48 + dgt Cx (lead Cx)])) V Cx (46) ⟨by omega, by omega⟩ (by (try simp only [List.length_append, List.length_cons, List.length_nil]); omega)
        have hw9 := hw
        obtain ⟨fc, nc, pp, ⟨len, used, bl, fr, fb, lm, fe, ne, pe, ⟨hK, hP, hD⟩, hrt, hbt, hE, hpe, hlm⟩, hC⟩ := hw9
        have hr1 := hrt.1
        have hr2 := hrt.2.1
        have hb1 := hbt.1
        have hb2 := hbt.2.1
        have hE1 := hE.1
        have hC1 := hC.1
        have hP : va_P D vwCl [(mo, .inr (3, [.ref rs, .int (iz len), .int (iz co), .ref ex, .int (iz bi), .int (iz le), .ref li, .int (iz used), .ref bo, .int (iz bl), .ref cu])), (rs, .inl (cB, 4096, .inl (az fr))), (ex, .inr (4, [.ref xd, .int (iz ne), .int (iz pe)])), (xd, .inl (cB, 1300, .inl (az fe))), (li, .inl (cL, 160, .inr (.inl (azl lm)))), (bo, .inl (cB, 4096, .inl (az fb))), (cu, .inr (4, [.ref cd, .int (iz nc), .int (iz pp)])), (cd, .inl (cB, 1300, .inl (az fc)))] H := hP
        have hD : va_D (AM mo rs ex xd li bo cu cd) [(mo, .inr (3, [.ref rs, .int (iz len), .int (iz co), .ref ex, .int (iz bi), .int (iz le), .ref li, .int (iz used), .ref bo, .int (iz bl), .ref cu])), (rs, .inl (cB, 4096, .inl (az fr))), (ex, .inr (4, [.ref xd, .int (iz ne), .int (iz pe)])), (xd, .inl (cB, 1300, .inl (az fe))), (li, .inl (cL, 160, .inr (.inl (azl lm)))), (bo, .inl (cB, 4096, .inl (az fb))), (cu, .inr (4, [.ref cd, .int (iz nc), .int (iz pp)])), (cd, .inl (cB, 1300, .inl (az fc)))] := hD
        refine z_go (va_runV (As := [.int (iz 46)]) (rest := []) ⟨hx, hb, hml, hown, hts⟩ hct.2 (z_cwV hts w_Mo_add tw_474 (by decide)) (z_preV hct.1 (va_recv hK hP (ci := 3) (q0 := 0) rfl rfl) hw) rfl rfl hl.1 rfl (lv_room (Nat.le_of_ble_eq_true rfl)) d_Mo_sci_43 ⟨Nat.zero_le _, Nat.zero_le _⟩) hS (fun _ h9 => h9) (fun v9 t9 H locs hv9 hp9 hz9 hk9 hS => ?_)
        obtain ⟨rfl, hw⟩ := hp9
        have hw := MW.moved hv9.symm hw
        refine W.eq (g2 := F0 m 46 ls []) rfl ?_
        refine lv_iconst (v := iz 1) hx hb d_Mo_sci_46 rfl ?_
        refine lv_istore hx hb d_Mo_sci_47 hl (by decide) rfl (fun ls hl => ?_)
        have hl : lv_has ls 6 [(4, .int (iz 1)), (0, .ref mo), (1, .ref ex), (2, .int (iz (cn : Int))), (3, .int (iz pt))] := hl
        have hw : MW D cB cL mo rs ex xd li bo cu cd co bi le rt (((bt ++ [48 + dgt Cx (lead Cx)]) ++ [46]) ++ dl Cx (lead Cx - 1) 0) V Cx s H := by
          show MW _ _ _ _ _ _ _ _ _ _ _ _ _ _ _ (_ ++ []) _ _ _ _
          rw [List.append_nil]
          exact hw
        exact L49 _ ((bt ++ [48 + dgt Cx (lead Cx)]) ++ [46]) 0 1 _ _ _ hw hS (lv_sub hl [1, 2, 3, 0] rfl) ⟨by omega, Nat.zero_le _⟩ (by unfold dotL; first | rw [if_pos (by omega)] | (rw [if_neg (by omega), List.append_nil])) (Nat.lt_succ_self _)
  · have hC0 : Cx = 0 := by
      rw [hCx, hE.zero hc13]
      exact rnd_0 _
    refine lv_bipush (v := iz 48) hx hb d_Mo_sci_16 (by decide) ?_
    refine z_ri (b := 48 + dgt Cx (lead Cx)) (by rw [hC0, dgt_zero]; rfl) ?_
    refine lv_goto (tgt := 29) hx hb d_Mo_sci_18 rfl ?_
    have hct := c_Mo_add l D cB cL mo rs ex xd li bo cu cd co bi le rt (bt) V Cx (48 + dgt Cx (lead Cx)) (dg48 _ _) (by (try simp only [List.length_append, List.length_cons, List.length_nil]); omega)
    refine z_go (va_runV (As := [.int (iz (48 + dgt Cx (lead Cx)))]) (rest := []) ⟨hx, hb, hml, hown, hts⟩ hct.2 (z_cwV hts w_Mo_add tw_474 (by decide)) (z_preV hct.1 (va_recv hK hP (ci := 3) (q0 := 0) rfl rfl) hw) rfl rfl hl.1 rfl (lv_room (Nat.le_of_ble_eq_true rfl)) d_Mo_sci_29 ⟨Nat.zero_le _, Nat.zero_le _⟩) hS (fun _ h9 => h9) (fun v9 t9 H locs hv9 hp9 hz9 hk9 hS => ?_)
    obtain ⟨rfl, hw⟩ := hp9
    have hw := MW.moved hv9.symm hw
    refine W.eq (g2 := F0 m 32 ls []) rfl ?_
    refine lv_iload_n hx hb d_Mo_sci_32 rfl (lv_at hl 2 rfl) ?_
    refine z_if_gt (tgt := 40) hx hb d_Mo_sci_33 rfl ⟨by omega, by omega⟩ (fun hc33 => ?_) (fun hc33 => ?_)
    · refine lv_aload_n hx hb d_Mo_sci_40 rfl (lv_at hl 0 rfl) ?_
      refine lv_bipush (v := iz 46) hx hb d_Mo_sci_41 (by decide) ?_
      have hct := c_Mo_add l D cB cL mo rs ex xd li bo cu cd co bi le rt ((bt ++ [48 + dgt Cx (lead Cx)])) V Cx (46) ⟨by omega, by omega⟩ (by (try simp only [List.length_append, List.length_cons, List.length_nil]); omega)
      have hw9 := hw
      obtain ⟨fc, nc, pp, ⟨len, used, bl, fr, fb, lm, fe, ne, pe, ⟨hK, hP, hD⟩, hrt, hbt, hE, hpe, hlm⟩, hC⟩ := hw9
      have hr1 := hrt.1
      have hr2 := hrt.2.1
      have hb1 := hbt.1
      have hb2 := hbt.2.1
      have hE1 := hE.1
      have hC1 := hC.1
      have hP : va_P D vwCl [(mo, .inr (3, [.ref rs, .int (iz len), .int (iz co), .ref ex, .int (iz bi), .int (iz le), .ref li, .int (iz used), .ref bo, .int (iz bl), .ref cu])), (rs, .inl (cB, 4096, .inl (az fr))), (ex, .inr (4, [.ref xd, .int (iz ne), .int (iz pe)])), (xd, .inl (cB, 1300, .inl (az fe))), (li, .inl (cL, 160, .inr (.inl (azl lm)))), (bo, .inl (cB, 4096, .inl (az fb))), (cu, .inr (4, [.ref cd, .int (iz nc), .int (iz pp)])), (cd, .inl (cB, 1300, .inl (az fc)))] H := hP
      have hD : va_D (AM mo rs ex xd li bo cu cd) [(mo, .inr (3, [.ref rs, .int (iz len), .int (iz co), .ref ex, .int (iz bi), .int (iz le), .ref li, .int (iz used), .ref bo, .int (iz bl), .ref cu])), (rs, .inl (cB, 4096, .inl (az fr))), (ex, .inr (4, [.ref xd, .int (iz ne), .int (iz pe)])), (xd, .inl (cB, 1300, .inl (az fe))), (li, .inl (cL, 160, .inr (.inl (azl lm)))), (bo, .inl (cB, 4096, .inl (az fb))), (cu, .inr (4, [.ref cd, .int (iz nc), .int (iz pp)])), (cd, .inl (cB, 1300, .inl (az fc)))] := hD
      refine z_go (va_runV (As := [.int (iz 46)]) (rest := []) ⟨hx, hb, hml, hown, hts⟩ hct.2 (z_cwV hts w_Mo_add tw_474 (by decide)) (z_preV hct.1 (va_recv hK hP (ci := 3) (q0 := 0) rfl rfl) hw) rfl rfl hl.1 rfl (lv_room (Nat.le_of_ble_eq_true rfl)) d_Mo_sci_43 ⟨Nat.zero_le _, Nat.zero_le _⟩) hS (fun _ h9 => h9) (fun v9 t9 H locs hv9 hp9 hz9 hk9 hS => ?_)
      obtain ⟨rfl, hw⟩ := hp9
      have hw := MW.moved hv9.symm hw
      refine W.eq (g2 := F0 m 46 ls []) rfl ?_
      refine lv_iconst (v := iz 1) hx hb d_Mo_sci_46 rfl ?_
      refine lv_istore hx hb d_Mo_sci_47 hl (by decide) rfl (fun ls hl => ?_)
      have hl : lv_has ls 6 [(4, .int (iz 1)), (0, .ref mo), (1, .ref ex), (2, .int (iz (cn : Int))), (3, .int (iz pt))] := hl
      have hw : MW D cB cL mo rs ex xd li bo cu cd co bi le rt (((bt ++ [48 + dgt Cx (lead Cx)]) ++ [46]) ++ dl Cx (lead Cx - 1) 0) V Cx s H := by
        show MW _ _ _ _ _ _ _ _ _ _ _ _ _ _ _ (_ ++ []) _ _ _ _
        rw [List.append_nil]
        exact hw
      exact L49 _ ((bt ++ [48 + dgt Cx (lead Cx)]) ++ [46]) 0 1 _ _ _ hw hS (lv_sub hl [1, 2, 3, 0] rfl) ⟨by omega, Nat.zero_le _⟩ (by unfold dotL; first | rw [if_pos (by omega)] | (rw [if_neg (by omega), List.append_nil])) (Nat.lt_succ_self _)
    · refine lv_iload_n hx hb d_Mo_sci_36 rfl (lv_at hl 3 rfl) ?_
      refine z_if_eq (tgt := 46) hx hb d_Mo_sci_37 rfl ⟨by omega, by omega⟩ (fun hc37 => ?_) (fun hc37 => ?_)
      · refine lv_iconst (v := iz 1) hx hb d_Mo_sci_46 rfl ?_
        refine lv_istore hx hb d_Mo_sci_47 hl (by decide) rfl (fun ls hl => ?_)
        have hl : lv_has ls 6 [(4, .int (iz 1)), (0, .ref mo), (1, .ref ex), (2, .int (iz (cn : Int))), (3, .int (iz pt))] := hl
        have hw : MW D cB cL mo rs ex xd li bo cu cd co bi le rt ((bt ++ [48 + dgt Cx (lead Cx)]) ++ dl Cx (lead Cx - 1) 0) V Cx s H := by
          show MW _ _ _ _ _ _ _ _ _ _ _ _ _ _ _ (_ ++ []) _ _ _ _
          rw [List.append_nil]
          exact hw
        exact L49 _ (bt ++ [48 + dgt Cx (lead Cx)]) 0 1 _ _ _ hw hS (lv_sub hl [1, 2, 3, 0] rfl) ⟨by omega, Nat.zero_le _⟩ (by unfold dotL; first | rw [if_pos (by omega)] | (rw [if_neg (by omega), List.append_nil])) (Nat.lt_succ_self _)
      · refine lv_aload_n hx hb d_Mo_sci_40 rfl (lv_at hl 0 rfl) ?_
        refine lv_bipush (v := iz 46) hx hb d_Mo_sci_41 (by decide) ?_
        have hct := c_Mo_add l D cB cL mo rs ex xd li bo cu cd co bi le rt ((bt ++ [48 + dgt Cx (lead Cx)])) V Cx (46) ⟨by omega, by omega⟩ (by (try simp only [List.length_append, List.length_cons, List.length_nil]); omega)
        have hw9 := hw
        obtain ⟨fc, nc, pp, ⟨len, used, bl, fr, fb, lm, fe, ne, pe, ⟨hK, hP, hD⟩, hrt, hbt, hE, hpe, hlm⟩, hC⟩ := hw9
        have hr1 := hrt.1
        have hr2 := hrt.2.1
        have hb1 := hbt.1
        have hb2 := hbt.2.1
        have hE1 := hE.1
        have hC1 := hC.1
        have hP : va_P D vwCl [(mo, .inr (3, [.ref rs, .int (iz len), .int (iz co), .ref ex, .int (iz bi), .int (iz le), .ref li, .int (iz used), .ref bo, .int (iz bl), .ref cu])), (rs, .inl (cB, 4096, .inl (az fr))), (ex, .inr (4, [.ref xd, .int (iz ne), .int (iz pe)])), (xd, .inl (cB, 1300, .inl (az fe))), (li, .inl (cL, 160, .inr (.inl (azl lm)))), (bo, .inl (cB, 4096, .inl (az fb))), (cu, .inr (4, [.ref cd, .int (iz nc), .int (iz pp)])), (cd, .inl (cB, 1300, .inl (az fc)))] H := hP
        have hD : va_D (AM mo rs ex xd li bo cu cd) [(mo, .inr (3, [.ref rs, .int (iz len), .int (iz co), .ref ex, .int (iz bi), .int (iz le), .ref li, .int (iz used), .ref bo, .int (iz bl), .ref cu])), (rs, .inl (cB, 4096, .inl (az fr))), (ex, .inr (4, [.ref xd, .int (iz ne), .int (iz pe)])), (xd, .inl (cB, 1300, .inl (az fe))), (li, .inl (cL, 160, .inr (.inl (azl lm)))), (bo, .inl (cB, 4096, .inl (az fb))), (cu, .inr (4, [.ref cd, .int (iz nc), .int (iz pp)])), (cd, .inl (cB, 1300, .inl (az fc)))] := hD
        refine z_go (va_runV (As := [.int (iz 46)]) (rest := []) ⟨hx, hb, hml, hown, hts⟩ hct.2 (z_cwV hts w_Mo_add tw_474 (by decide)) (z_preV hct.1 (va_recv hK hP (ci := 3) (q0 := 0) rfl rfl) hw) rfl rfl hl.1 rfl (lv_room (Nat.le_of_ble_eq_true rfl)) d_Mo_sci_43 ⟨Nat.zero_le _, Nat.zero_le _⟩) hS (fun _ h9 => h9) (fun v9 t9 H locs hv9 hp9 hz9 hk9 hS => ?_)
        obtain ⟨rfl, hw⟩ := hp9
        have hw := MW.moved hv9.symm hw
        refine W.eq (g2 := F0 m 46 ls []) rfl ?_
        refine lv_iconst (v := iz 1) hx hb d_Mo_sci_46 rfl ?_
        refine lv_istore hx hb d_Mo_sci_47 hl (by decide) rfl (fun ls hl => ?_)
        have hl : lv_has ls 6 [(4, .int (iz 1)), (0, .ref mo), (1, .ref ex), (2, .int (iz (cn : Int))), (3, .int (iz pt))] := hl
        have hw : MW D cB cL mo rs ex xd li bo cu cd co bi le rt (((bt ++ [48 + dgt Cx (lead Cx)]) ++ [46]) ++ dl Cx (lead Cx - 1) 0) V Cx s H := by
          show MW _ _ _ _ _ _ _ _ _ _ _ _ _ _ _ (_ ++ []) _ _ _ _
          rw [List.append_nil]
          exact hw
        exact L49 _ ((bt ++ [48 + dgt Cx (lead Cx)]) ++ [46]) 0 1 _ _ _ hw hS (lv_sub hl [1, 2, 3, 0] rfl) ⟨by omega, Nat.zero_le _⟩ (by unfold dotL; first | rw [if_pos (by omega)] | (rw [if_neg (by omega), List.append_nil])) (Nat.lt_succ_self _)
