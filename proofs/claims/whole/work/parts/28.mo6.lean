theorem d_Mo_fix_0 : decode b_Mo_fixed 0 = .ok (.aload_n 1, 1) := by decide +kernel
theorem d_Mo_fix_1 : decode b_Mo_fixed 1 = .ok (.getfield 79, 3) := by decide +kernel
theorem d_Mo_fix_4 : decode b_Mo_fixed 4 = .ok (.ifCond .ne (7), 3) := by decide +kernel
theorem d_Mo_fix_7 : decode b_Mo_fixed 7 = .ok (.iconst 0, 1) := by decide +kernel
theorem d_Mo_fix_8 : decode b_Mo_fixed 8 = .ok (.goto (9), 3) := by decide +kernel
theorem d_Mo_fix_11 : decode b_Mo_fixed 11 = .ok (.aload_n 1, 1) := by decide +kernel
theorem d_Mo_fix_12 : decode b_Mo_fixed 12 = .ok (.getfield 89, 3) := by decide +kernel
theorem d_Mo_fix_15 : decode b_Mo_fixed 15 = .ok (.iload_n 2, 1) := by decide +kernel
theorem d_Mo_fix_16 : decode b_Mo_fixed 16 = .ok (.iadd, 1) := by decide +kernel
theorem d_Mo_fix_17 : decode b_Mo_fixed 17 = .ok (.istore 5, 2) := by decide +kernel
theorem d_Mo_fix_19 : decode b_Mo_fixed 19 = .ok (.aload_n 0, 1) := by decide +kernel
theorem d_Mo_fix_20 : decode b_Mo_fixed 20 = .ok (.aload_n 1, 1) := by decide +kernel
theorem d_Mo_fix_21 : decode b_Mo_fixed 21 = .ok (.iload 5, 2) := by decide +kernel
theorem d_Mo_fix_23 : decode b_Mo_fixed 23 = .ok (.invokevirtual 99, 3) := by decide +kernel
theorem d_Mo_fix_26 : decode b_Mo_fixed 26 = .ok (.aload_n 1, 1) := by decide +kernel
theorem d_Mo_fix_27 : decode b_Mo_fixed 27 = .ok (.getfield 79, 3) := by decide +kernel
theorem d_Mo_fix_30 : decode b_Mo_fixed 30 = .ok (.ifCond .eq (13), 3) := by decide +kernel
theorem d_Mo_fix_33 : decode b_Mo_fixed 33 = .ok (.aload_n 0, 1) := by decide +kernel
theorem d_Mo_fix_34 : decode b_Mo_fixed 34 = .ok (.getfield 27, 3) := by decide +kernel
theorem d_Mo_fix_37 : decode b_Mo_fixed 37 = .ok (.getfield 79, 3) := by decide +kernel
theorem d_Mo_fix_40 : decode b_Mo_fixed 40 = .ok (.ifCond .ne (7), 3) := by decide +kernel
theorem d_Mo_fix_43 : decode b_Mo_fixed 43 = .ok (.iconst 1, 1) := by decide +kernel
theorem d_Mo_fix_44 : decode b_Mo_fixed 44 = .ok (.goto (4), 3) := by decide +kernel
theorem d_Mo_fix_47 : decode b_Mo_fixed 47 = .ok (.iconst 0, 1) := by decide +kernel
theorem d_Mo_fix_48 : decode b_Mo_fixed 48 = .ok (.istore 6, 2) := by decide +kernel
theorem d_Mo_fix_50 : decode b_Mo_fixed 50 = .ok (.iload 6, 2) := by decide +kernel
theorem d_Mo_fix_52 : decode b_Mo_fixed 52 = .ok (.ifCond .ne (14), 3) := by decide +kernel
theorem d_Mo_fix_55 : decode b_Mo_fixed 55 = .ok (.aload_n 0, 1) := by decide +kernel
theorem d_Mo_fix_56 : decode b_Mo_fixed 56 = .ok (.getfield 27, 3) := by decide +kernel
theorem d_Mo_fix_59 : decode b_Mo_fixed 59 = .ok (.getfield 89, 3) := by decide +kernel
theorem d_Mo_fix_62 : decode b_Mo_fixed 62 = .ok (.iconst 1, 1) := by decide +kernel
theorem d_Mo_fix_63 : decode b_Mo_fixed 63 = .ok (.if_icmp .ge (7), 3) := by decide +kernel
theorem d_Mo_fix_66 : decode b_Mo_fixed 66 = .ok (.iconst 0, 1) := by decide +kernel
theorem d_Mo_fix_67 : decode b_Mo_fixed 67 = .ok (.goto (10), 3) := by decide +kernel
theorem d_Mo_fix_70 : decode b_Mo_fixed 70 = .ok (.aload_n 0, 1) := by decide +kernel
theorem d_Mo_fix_71 : decode b_Mo_fixed 71 = .ok (.getfield 27, 3) := by decide +kernel
theorem d_Mo_fix_74 : decode b_Mo_fixed 74 = .ok (.getfield 89, 3) := by decide +kernel
theorem d_Mo_fix_77 : decode b_Mo_fixed 77 = .ok (.istore 7, 2) := by decide +kernel
theorem d_Mo_fix_79 : decode b_Mo_fixed 79 = .ok (.iload 7, 2) := by decide +kernel
theorem d_Mo_fix_81 : decode b_Mo_fixed 81 = .ok (.ifCond .ne (9), 3) := by decide +kernel
theorem d_Mo_fix_84 : decode b_Mo_fixed 84 = .ok (.aload_n 0, 1) := by decide +kernel
theorem d_Mo_fix_85 : decode b_Mo_fixed 85 = .ok (.bipush (48), 2) := by decide +kernel
theorem d_Mo_fix_87 : decode b_Mo_fixed 87 = .ok (.invokevirtual 107, 3) := by decide +kernel
theorem d_Mo_fix_90 : decode b_Mo_fixed 90 = .ok (.iconst 0, 1) := by decide +kernel
theorem d_Mo_fix_91 : decode b_Mo_fixed 91 = .ok (.istore 8, 2) := by decide +kernel
theorem d_Mo_fix_93 : decode b_Mo_fixed 93 = .ok (.iload 8, 2) := by decide +kernel
theorem d_Mo_fix_95 : decode b_Mo_fixed 95 = .ok (.iload 7, 2) := by decide +kernel
theorem d_Mo_fix_97 : decode b_Mo_fixed 97 = .ok (.if_icmp .ge (47), 3) := by decide +kernel
theorem d_Mo_fix_100 : decode b_Mo_fixed 100 = .ok (.iload_n 3, 1) := by decide +kernel
theorem d_Mo_fix_101 : decode b_Mo_fixed 101 = .ok (.ifCond .eq (24), 3) := by decide +kernel
theorem d_Mo_fix_104 : decode b_Mo_fixed 104 = .ok (.iload 8, 2) := by decide +kernel
theorem d_Mo_fix_106 : decode b_Mo_fixed 106 = .ok (.ifCond .le (19), 3) := by decide +kernel
theorem d_Mo_fix_109 : decode b_Mo_fixed 109 = .ok (.iload 7, 2) := by decide +kernel
theorem d_Mo_fix_111 : decode b_Mo_fixed 111 = .ok (.iload 8, 2) := by decide +kernel
theorem d_Mo_fix_113 : decode b_Mo_fixed 113 = .ok (.isub, 1) := by decide +kernel
theorem d_Mo_fix_114 : decode b_Mo_fixed 114 = .ok (.iconst 3, 1) := by decide +kernel
theorem d_Mo_fix_115 : decode b_Mo_fixed 115 = .ok (.irem, 1) := by decide +kernel
theorem d_Mo_fix_116 : decode b_Mo_fixed 116 = .ok (.ifCond .ne (9), 3) := by decide +kernel
theorem d_Mo_fix_119 : decode b_Mo_fixed 119 = .ok (.aload_n 0, 1) := by decide +kernel
theorem d_Mo_fix_120 : decode b_Mo_fixed 120 = .ok (.bipush (44), 2) := by decide +kernel
theorem d_Mo_fix_122 : decode b_Mo_fixed 122 = .ok (.invokevirtual 107, 3) := by decide +kernel
theorem d_Mo_fix_125 : decode b_Mo_fixed 125 = .ok (.aload_n 0, 1) := by decide +kernel
theorem d_Mo_fix_126 : decode b_Mo_fixed 126 = .ok (.aload_n 0, 1) := by decide +kernel
theorem d_Mo_fix_127 : decode b_Mo_fixed 127 = .ok (.getfield 27, 3) := by decide +kernel
theorem d_Mo_fix_130 : decode b_Mo_fixed 130 = .ok (.iload 8, 2) := by decide +kernel
theorem d_Mo_fix_132 : decode b_Mo_fixed 132 = .ok (.invokestatic 103, 3) := by decide +kernel
theorem d_Mo_fix_135 : decode b_Mo_fixed 135 = .ok (.invokevirtual 107, 3) := by decide +kernel
theorem d_Mo_fix_138 : decode b_Mo_fixed 138 = .ok (.iinc 8 (1), 3) := by decide +kernel
theorem d_Mo_fix_141 : decode b_Mo_fixed 141 = .ok (.goto (-48), 3) := by decide +kernel
theorem d_Mo_fix_144 : decode b_Mo_fixed 144 = .ok (.iload_n 2, 1) := by decide +kernel
theorem d_Mo_fix_145 : decode b_Mo_fixed 145 = .ok (.ifCond .gt (8), 3) := by decide +kernel
theorem d_Mo_fix_148 : decode b_Mo_fixed 148 = .ok (.iload 4, 2) := by decide +kernel
theorem d_Mo_fix_150 : decode b_Mo_fixed 150 = .ok (.ifCond .eq (9), 3) := by decide +kernel
theorem d_Mo_fix_153 : decode b_Mo_fixed 153 = .ok (.aload_n 0, 1) := by decide +kernel
theorem d_Mo_fix_154 : decode b_Mo_fixed 154 = .ok (.bipush (46), 2) := by decide +kernel
theorem d_Mo_fix_156 : decode b_Mo_fixed 156 = .ok (.invokevirtual 107, 3) := by decide +kernel
theorem d_Mo_fix_159 : decode b_Mo_fixed 159 = .ok (.iconst 0, 1) := by decide +kernel
theorem d_Mo_fix_160 : decode b_Mo_fixed 160 = .ok (.istore 8, 2) := by decide +kernel
theorem d_Mo_fix_162 : decode b_Mo_fixed 162 = .ok (.iload 8, 2) := by decide +kernel
theorem d_Mo_fix_164 : decode b_Mo_fixed 164 = .ok (.iload_n 2, 1) := by decide +kernel
theorem d_Mo_fix_165 : decode b_Mo_fixed 165 = .ok (.if_icmp .ge (53), 3) := by decide +kernel
theorem d_Mo_fix_168 : decode b_Mo_fixed 168 = .ok (.iload 6, 2) := by decide +kernel
theorem d_Mo_fix_170 : decode b_Mo_fixed 170 = .ok (.ifCond .eq (7), 3) := by decide +kernel
theorem d_Mo_fix_173 : decode b_Mo_fixed 173 = .ok (.iconst (-1), 1) := by decide +kernel
theorem d_Mo_fix_174 : decode b_Mo_fixed 174 = .ok (.goto (13), 3) := by decide +kernel
theorem d_Mo_fix_177 : decode b_Mo_fixed 177 = .ok (.aload_n 0, 1) := by decide +kernel
theorem d_Mo_fix_178 : decode b_Mo_fixed 178 = .ok (.getfield 27, 3) := by decide +kernel
theorem d_Mo_fix_181 : decode b_Mo_fixed 181 = .ok (.getfield 89, 3) := by decide +kernel
theorem d_Mo_fix_184 : decode b_Mo_fixed 184 = .ok (.iload 8, 2) := by decide +kernel
theorem d_Mo_fix_186 : decode b_Mo_fixed 186 = .ok (.iadd, 1) := by decide +kernel
theorem d_Mo_fix_187 : decode b_Mo_fixed 187 = .ok (.istore 9, 2) := by decide +kernel
theorem d_Mo_fix_189 : decode b_Mo_fixed 189 = .ok (.aload_n 0, 1) := by decide +kernel
theorem d_Mo_fix_190 : decode b_Mo_fixed 190 = .ok (.iload 9, 2) := by decide +kernel
theorem d_Mo_fix_192 : decode b_Mo_fixed 192 = .ok (.ifCond .ge (8), 3) := by decide +kernel
theorem d_Mo_fix_195 : decode b_Mo_fixed 195 = .ok (.bipush (48), 2) := by decide +kernel
theorem d_Mo_fix_197 : decode b_Mo_fixed 197 = .ok (.goto (12), 3) := by decide +kernel
theorem d_Mo_fix_200 : decode b_Mo_fixed 200 = .ok (.aload_n 0, 1) := by decide +kernel
theorem d_Mo_fix_201 : decode b_Mo_fixed 201 = .ok (.getfield 27, 3) := by decide +kernel
theorem d_Mo_fix_204 : decode b_Mo_fixed 204 = .ok (.iload 9, 2) := by decide +kernel
theorem d_Mo_fix_206 : decode b_Mo_fixed 206 = .ok (.invokestatic 103, 3) := by decide +kernel
theorem d_Mo_fix_209 : decode b_Mo_fixed 209 = .ok (.invokevirtual 107, 3) := by decide +kernel
theorem d_Mo_fix_212 : decode b_Mo_fixed 212 = .ok (.iinc 8 (1), 3) := by decide +kernel
theorem d_Mo_fix_215 : decode b_Mo_fixed 215 = .ok (.goto (-53), 3) := by decide +kernel
theorem d_Mo_fix_218 : decode b_Mo_fixed 218 = .ok (.return_, 1) := by decide +kernel
set_option maxHeartbeats 4000000 in
set_option maxRecDepth 100000 in
theorem c_Mo_fix (l : Launch) (D : va_G) (cB cL : ClassId) (mo rs ex xd li bo cu cd : Nat) (co bi le : Int) (rt bt : List Int) (V C : Int) (cn : Nat) (gr pt Cx : Int) (hCx : Cx = rnd V (-(cn : Int))) (hcn : cn ≤ 2000) (hgr : gr = 0 ∨ gr = 1) (hpt : pt = 0 ∨ pt = 1) (hr0 : lead Cx ≤ 999) (hlen : bt.length + (ipR Cx gr (max (lead Cx) 0)).length + cn + 2 ≤ 4096) : Ct l y_Mo_fixed (ws_Mo_fixed) 2 (AM mo rs ex xd li bo cu cd) [.ref mo, .ref ex, .int (iz (cn : Int)), .int (iz gr), .int (iz pt)] (MW D cB cL mo rs ex xd li bo cu cd co bi le rt bt V C) (zR none (MW D cB cL mo rs ex xd li bo cu cd co bi le rt (bt ++ fixL Cx (lead Cx) cn gr pt) V Cx)) := by
  refine z_body zSt_MW (by decide +kernel) rfl (Nat.le_of_ble_eq_true rfl) ?_
  intro p e s m args below meth c ls hx hb hml hr hlk hts0 hown hpre0 H locs hpre hS hl
  have hts : ∀ w ∈ TBL, w.before args s = true := fun w hw => hts0 w (List.mem_cons_of_mem _ hw)
  have hl : lv_has ls 10 [(0, .ref mo), (1, .ref ex), (2, .int (iz (cn : Int))), (3, .int (iz gr)), (4, .int (iz pt))] := hl
  have hw := hpre
  have hV0 : 0 ≤ V := by
    obtain ⟨_, _, _, ⟨_, _, _, _, _, _, _, _, _, _, _, _, h8, _⟩, _⟩ := hw
    exact h8.nn
  have hCn : 0 ≤ Cx := by rw [hCx]; exact rnd_nn hV0
  have L162 : ∀ (N162 : Nat) (bt0 : List Int) (i : Nat) (k : Int) (nn : Int) (bf : Int) (H : Heap) (locs : List Loc) (ls : Array Slot), MW D cB cL mo rs ex xd li bo cu cd co bi le rt (bt0 ++ dl Cx (-1) i) V Cx s H → va_S (AM mo rs ex xd li bo cu cd) s.heap H locs → lv_has ls 10 [(0, .ref mo), (2, .int (iz (cn : Int))), (6, .int (iz nn)), (8, .int (iz k))] → (k = (i : Int) ∧ i ≤ cn) → ((nn = 1 ∧ Cx = 0 ∧ bf = 0) ∨ (nn = 0 ∧ Cx ≠ 0 ∧ bf = max (lead Cx + 1) 0)) → (bt0 = (bt ++ ipR Cx gr (max (lead Cx) 0)) ++ dotL cn pt) → cn - i < N162 → W p l e (zrm 2) s m args below meth c H locs 0 0 (MQ below (zQ (AM mo rs ex xd li bo cu cd) (zR none (MW D cB cL mo rs ex xd li bo cu cd co bi le rt (bt ++ fixL Cx (lead Cx) cn gr pt) V Cx))) args s 0 0 (AM mo rs ex xd li bo cu cd)) (F0 m 162 ls []) := by
    intro N162
    induction N162 with
    | zero => intro bt0 i k nn bf H locs ls hw hS hl hk hnn hbt0 hN162; exact absurd hN162 (Nat.not_lt_zero _)
    | succ N162 ih162 =>
      intro bt0 i k nn bf H locs ls hw hS hl hk hnn hbt0 hN162
      have hl1 := dl_len Cx (-1) i
      have hl2 := dotL_len cn pt
      have hl3 : bt0.length = bt.length + (ipR Cx gr (max (lead Cx) 0)).length + (dotL cn pt).length := by rw [hbt0, List.length_append, List.length_append]
      refine lv_iload hx hb d_Mo_fix_162 (lv_at hl 3 rfl) ?_
      refine lv_iload_n hx hb d_Mo_fix_164 rfl (lv_at hl 1 rfl) ?_
      refine z_icmp_ge (tgt := 218) hx hb d_Mo_fix_165 rfl ⟨by omega, by omega⟩ ⟨by omega, by omega⟩ (fun hc165 => ?_) (fun hc165 => ?_)
      · exact z_vret hx hb hr hlk hS (zR_st zSt_MW) ⟨rfl, by
            have e8 : i = cn := by omega
            unfold fixL behL
            rw [e8, hbt0] at hw
            simpa [List.append_assoc] using hw⟩ d_Mo_fix_218
      · refine lv_iload hx hb d_Mo_fix_168 (lv_at hl 2 rfl) ?_
        refine z_if_eq (tgt := 177) hx hb d_Mo_fix_170 rfl ⟨by omega, by omega⟩ (fun hc170 => ?_) (fun hc170 => ?_)
        · have hCne : Cx ≠ 0 := by omega
          refine lv_aload_n hx hb d_Mo_fix_177 rfl (lv_at hl 0 rfl) ?_
          have hw9 := hw
          obtain ⟨fc, nc, pp, ⟨len, used, bl, fr, fb, lm, fe, ne, pe, ⟨hK, hP, hD⟩, hrt, hbt, hE, hpe, hlm⟩, hC⟩ := hw9
          have hr1 := hrt.1
          have hr2 := hrt.2.1
          have hb1 := hbt.1
          have hb2 := hbt.2.1
          have hE1 := hE.1
          have hC1 := hC.1
          have hP : va_P D vwCl [(mo, .inr (3, [.ref rs, .int (iz len), .int (iz co), .ref ex, .int (iz bi), .int (iz le), .ref li, .int (iz used), .ref bo, .int (iz bl), .ref cu])), (rs, .inl (cB, 4096, .inl (az fr))), (ex, .inr (4, [.ref xd, .int (iz ne), .int (iz pe)])), (xd, .inl (cB, 1300, .inl (az fe))), (li, .inl (cL, 160, .inr (.inl (azl lm)))), (bo, .inl (cB, 4096, .inl (az fb))), (cu, .inr (4, [.ref cd, .int (iz nc), .int (iz pp)])), (cd, .inl (cB, 1300, .inl (az fc)))] H := hP
          have hD : va_D (AM mo rs ex xd li bo cu cd) [(mo, .inr (3, [.ref rs, .int (iz len), .int (iz co), .ref ex, .int (iz bi), .int (iz le), .ref li, .int (iz used), .ref bo, .int (iz bl), .ref cu])), (rs, .inl (cB, 4096, .inl (az fr))), (ex, .inr (4, [.ref xd, .int (iz ne), .int (iz pe)])), (xd, .inl (cB, 1300, .inl (az fe))), (li, .inl (cL, 160, .inr (.inl (azl lm)))), (bo, .inl (cB, 4096, .inl (az fb))), (cu, .inr (4, [.ref cd, .int (iz nc), .int (iz pp)])), (cd, .inl (cB, 1300, .inl (az fc)))] := hD
          refine va_get (D := D) (ci := 3) (v := .ref cu) (C := R_3) (T := T_3) (N := 11) hx hb hts in_3 hown hK hP 0 rfl rfl 10 (by decide) (hts _ tw_402) (fun _ h9 => h9) rfl d_Mo_fix_178 ?_
          refine va_get (D := D) (ci := 4) (v := .int (iz pp)) (C := R_4) (T := T_4) (N := 3) hx hb hts in_4 hown hK hP 6 rfl rfl 2 (by decide) (hts _ tw_384) (fun _ h9 => h9) rfl d_Mo_fix_181 ?_
          have hpl : pp = lead Cx + 1 := by
            have h9 : nc ≠ 0 := fun q => hCne (hC.zero q)
            have := hC.leadv (by omega)
            omega
          refine lv_iload hx hb d_Mo_fix_184 (lv_at hl 3 rfl) ?_
          refine z_iadd hx hb d_Mo_fix_186 ?_
          refine z_ri (b := lead Cx + 1 + k) (by rw [hpl]) ?_
          refine lv_istore hx hb d_Mo_fix_187 hl (by decide) rfl (fun ls hl => ?_)
          have hl : lv_has ls 10 [(9, .int (iz (lead Cx + 1 + k))), (0, .ref mo), (2, .int (iz (cn : Int))), (6, .int (iz nn)), (8, .int (iz k))] := hl
          refine lv_aload_n hx hb d_Mo_fix_189 rfl (lv_at hl 1 rfl) ?_
          refine lv_iload hx hb d_Mo_fix_190 (lv_at hl 0 rfl) ?_
          refine z_if_ge (tgt := 200) hx hb d_Mo_fix_192 rfl ⟨by omega, by omega⟩ (fun hc192 => ?_) (fun hc192 => ?_)
          · refine lv_aload_n hx hb d_Mo_fix_200 rfl (lv_at hl 1 rfl) ?_
            refine va_get (D := D) (ci := 3) (v := .ref cu) (C := R_3) (T := T_3) (N := 11) hx hb hts in_3 hown hK hP 0 rfl rfl 10 (by decide) (hts _ tw_402) (fun _ h9 => h9) rfl d_Mo_fix_201 ?_
            refine lv_iload hx hb d_Mo_fix_204 (lv_at hl 0 rfl) ?_
            have hct := c_Mo_digit l D cB cL mo rs ex xd li bo cu cd co bi le rt (bt0 ++ dl Cx (-1) i) V Cx (lead Cx + 1 + k) ⟨by omega, by omega⟩
            refine z_go (va_runS (As := [.ref cu, .int (iz (lead Cx + 1 + k))]) (rest := [.ref mo]) ⟨hx, hb, hml, hown, hts⟩ hct.2 (z_cwS hts w_Mo_digit tw_515 (by decide)) (z_preS hct.1 hw) rfl rfl hl.1 rfl (lv_room (Nat.le_of_ble_eq_true rfl)) d_Mo_fix_206 ⟨Nat.zero_le _, Nat.zero_le _⟩) hS (fun _ h9 => h9) (fun v9 t9 H locs hv9 hp9 hz9 hk9 hS => ?_)
            obtain ⟨rfl, hw⟩ := hp9
            have hw := MW.moved hv9.symm hw
            refine W.eq (g2 := F0 m 209 ls [.int (iz (48 + dgt Cx (lead Cx - (lead Cx + 1 + k)))), .ref mo]) rfl ?_
            refine z_ri (b := 48 + dgt Cx (-1 - (i : Int))) (by rw [show lead Cx - (lead Cx + 1 + k) = -1 - (i : Int) by omega]) ?_
            have hct := c_Mo_add l D cB cL mo rs ex xd li bo cu cd co bi le rt (bt0 ++ dl Cx (-1) i) V Cx (48 + dgt Cx (-1 - (i : Int))) (dg48 _ _) (by (try simp only [List.length_append, List.length_cons, List.length_nil]); omega)
            have hw9 := hw
            obtain ⟨fc, nc, pp, ⟨len, used, bl, fr, fb, lm, fe, ne, pe, ⟨hK, hP, hD⟩, hrt, hbt, hE, hpe, hlm⟩, hC⟩ := hw9
            have hr1 := hrt.1
            have hr2 := hrt.2.1
            have hb1 := hbt.1
            have hb2 := hbt.2.1
            have hE1 := hE.1
            have hC1 := hC.1
            have hP : va_P D vwCl [(mo, .inr (3, [.ref rs, .int (iz len), .int (iz co), .ref ex, .int (iz bi), .int (iz le), .ref li, .int (iz used), .ref bo, .int (iz bl), .ref cu])), (rs, .inl (cB, 4096, .inl (az fr))), (ex, .inr (4, [.ref xd, .int (iz ne), .int (iz pe)])), (xd, .inl (cB, 1300, .inl (az fe))), (li, .inl (cL, 160, .inr (.inl (azl lm)))), (bo, .inl (cB, 4096, .inl (az fb))), (cu, .inr (4, [.ref cd, .int (iz nc), .int (iz pp)])), (cd, .inl (cB, 1300, .inl (az fc)))] H := hP
            have hD : va_D (AM mo rs ex xd li bo cu cd) [(mo, .inr (3, [.ref rs, .int (iz len), .int (iz co), .ref ex, .int (iz bi), .int (iz le), .ref li, .int (iz used), .ref bo, .int (iz bl), .ref cu])), (rs, .inl (cB, 4096, .inl (az fr))), (ex, .inr (4, [.ref xd, .int (iz ne), .int (iz pe)])), (xd, .inl (cB, 1300, .inl (az fe))), (li, .inl (cL, 160, .inr (.inl (azl lm)))), (bo, .inl (cB, 4096, .inl (az fb))), (cu, .inr (4, [.ref cd, .int (iz nc), .int (iz pp)])), (cd, .inl (cB, 1300, .inl (az fc)))] := hD
            refine z_go (va_runV (As := [.int (iz (48 + dgt Cx (-1 - (i : Int))))]) (rest := []) ⟨hx, hb, hml, hown, hts⟩ hct.2 (z_cwV hts w_Mo_add tw_474 (by decide)) (z_preV hct.1 (va_recv hK hP (ci := 3) (q0 := 0) rfl rfl) hw) rfl rfl hl.1 rfl (lv_room (Nat.le_of_ble_eq_true rfl)) d_Mo_fix_209 ⟨Nat.zero_le _, Nat.zero_le _⟩) hS (fun _ h9 => h9) (fun v9 t9 H locs hv9 hp9 hz9 hk9 hS => ?_)
            obtain ⟨rfl, hw⟩ := hp9
            have hw := MW.moved hv9.symm hw
            refine W.eq (g2 := F0 m 212 ls []) rfl ?_
            refine lv_iinc (k := 4) (v := (iz (k + 1))) hx hb d_Mo_fix_212 hl rfl (by show iz _ + iz (1) = _; rw [← iz_add]; try rfl) (by decide) rfl (fun ls hl => ?_)
            have hl : lv_has ls 10 [(8, .int (iz (k + 1))), (9, .int (iz (lead Cx + 1 + k))), (0, .ref mo), (2, .int (iz (cn : Int))), (6, .int (iz nn))] := hl
            refine lv_goto (tgt := 162) hx hb d_Mo_fix_215 rfl ?_
            have hw : MW D cB cL mo rs ex xd li bo cu cd co bi le rt (bt0 ++ dl Cx (-1) (i + 1)) V Cx s H := by
              show MW _ _ _ _ _ _ _ _ _ _ _ _ _ _ _ (_ ++ (_ ++ _)) _ _ _ _
              rw [← List.append_assoc]
              exact hw
            exact ih162 bt0 (i + 1) (k + 1) nn bf _ _ _ hw hS (lv_sub hl [2, 3, 4, 0] rfl) ⟨by omega, by omega⟩ hnn hbt0 (by omega)
          · have hz8 : (48 : Int) = 48 + dgt Cx (-1 - (i : Int)) := by
              have h9 : dgt Cx (-1 - (i : Int)) = 0 := by
                first
                  | exact dgt_above hCn (by omega)
                  | (rw [show Cx = 0 by omega]; exact dgt_zero _)
              rw [h9]; rfl
            refine lv_bipush (v := iz 48) hx hb d_Mo_fix_195 (by decide) ?_
            refine z_ri (b := 48 + dgt Cx (-1 - (i : Int))) hz8 ?_
            refine lv_goto (tgt := 209) hx hb d_Mo_fix_197 rfl ?_
            have hct := c_Mo_add l D cB cL mo rs ex xd li bo cu cd co bi le rt (bt0 ++ dl Cx (-1) i) V Cx (48 + dgt Cx (-1 - (i : Int))) (dg48 _ _) (by (try simp only [List.length_append, List.length_cons, List.length_nil]); omega)
            refine z_go (va_runV (As := [.int (iz (48 + dgt Cx (-1 - (i : Int))))]) (rest := []) ⟨hx, hb, hml, hown, hts⟩ hct.2 (z_cwV hts w_Mo_add tw_474 (by decide)) (z_preV hct.1 (va_recv hK hP (ci := 3) (q0 := 0) rfl rfl) hw) rfl rfl hl.1 rfl (lv_room (Nat.le_of_ble_eq_true rfl)) d_Mo_fix_209 ⟨Nat.zero_le _, Nat.zero_le _⟩) hS (fun _ h9 => h9) (fun v9 t9 H locs hv9 hp9 hz9 hk9 hS => ?_)
            obtain ⟨rfl, hw⟩ := hp9
            have hw := MW.moved hv9.symm hw
            refine W.eq (g2 := F0 m 212 ls []) rfl ?_
            refine lv_iinc (k := 4) (v := (iz (k + 1))) hx hb d_Mo_fix_212 hl rfl (by show iz _ + iz (1) = _; rw [← iz_add]; try rfl) (by decide) rfl (fun ls hl => ?_)
            have hl : lv_has ls 10 [(8, .int (iz (k + 1))), (9, .int (iz (lead Cx + 1 + k))), (0, .ref mo), (2, .int (iz (cn : Int))), (6, .int (iz nn))] := hl
            refine lv_goto (tgt := 162) hx hb d_Mo_fix_215 rfl ?_
            have hw : MW D cB cL mo rs ex xd li bo cu cd co bi le rt (bt0 ++ dl Cx (-1) (i + 1)) V Cx s H := by
              show MW _ _ _ _ _ _ _ _ _ _ _ _ _ _ _ (_ ++ (_ ++ _)) _ _ _ _
              rw [← List.append_assoc]
              exact hw
            exact ih162 bt0 (i + 1) (k + 1) nn bf _ _ _ hw hS (lv_sub hl [2, 3, 4, 0] rfl) ⟨by omega, by omega⟩ hnn hbt0 (by omega)
        · refine lv_iconst (v := iz (-1)) hx hb d_Mo_fix_173 rfl ?_
          refine lv_goto (tgt := 187) hx hb d_Mo_fix_174 rfl ?_
          refine lv_istore hx hb d_Mo_fix_187 hl (by decide) rfl (fun ls hl => ?_)
          have hl : lv_has ls 10 [(9, .int (iz (-1))), (0, .ref mo), (2, .int (iz (cn : Int))), (6, .int (iz nn)), (8, .int (iz k))] := hl
          refine lv_aload_n hx hb d_Mo_fix_189 rfl (lv_at hl 1 rfl) ?_
          refine lv_iload hx hb d_Mo_fix_190 (lv_at hl 0 rfl) ?_
          refine z_if_ge (tgt := 200) hx hb d_Mo_fix_192 rfl ⟨by omega, by omega⟩ (fun hc192 => ?_) (fun hc192 => ?_)
          · exfalso
            omega
          · have hz8 : (48 : Int) = 48 + dgt Cx (-1 - (i : Int)) := by
              have h9 : dgt Cx (-1 - (i : Int)) = 0 := by
                first
                  | exact dgt_above hCn (by omega)
                  | (rw [show Cx = 0 by omega]; exact dgt_zero _)
              rw [h9]; rfl
            refine lv_bipush (v := iz 48) hx hb d_Mo_fix_195 (by decide) ?_
            refine z_ri (b := 48 + dgt Cx (-1 - (i : Int))) hz8 ?_
            refine lv_goto (tgt := 209) hx hb d_Mo_fix_197 rfl ?_
            have hct := c_Mo_add l D cB cL mo rs ex xd li bo cu cd co bi le rt (bt0 ++ dl Cx (-1) i) V Cx (48 + dgt Cx (-1 - (i : Int))) (dg48 _ _) (by (try simp only [List.length_append, List.length_cons, List.length_nil]); omega)
            have hw9 := hw
            obtain ⟨fc, nc, pp, ⟨len, used, bl, fr, fb, lm, fe, ne, pe, ⟨hK, hP, hD⟩, hrt, hbt, hE, hpe, hlm⟩, hC⟩ := hw9
            have hr1 := hrt.1
            have hr2 := hrt.2.1
            have hb1 := hbt.1
            have hb2 := hbt.2.1
            have hE1 := hE.1
            have hC1 := hC.1
            have hP : va_P D vwCl [(mo, .inr (3, [.ref rs, .int (iz len), .int (iz co), .ref ex, .int (iz bi), .int (iz le), .ref li, .int (iz used), .ref bo, .int (iz bl), .ref cu])), (rs, .inl (cB, 4096, .inl (az fr))), (ex, .inr (4, [.ref xd, .int (iz ne), .int (iz pe)])), (xd, .inl (cB, 1300, .inl (az fe))), (li, .inl (cL, 160, .inr (.inl (azl lm)))), (bo, .inl (cB, 4096, .inl (az fb))), (cu, .inr (4, [.ref cd, .int (iz nc), .int (iz pp)])), (cd, .inl (cB, 1300, .inl (az fc)))] H := hP
            have hD : va_D (AM mo rs ex xd li bo cu cd) [(mo, .inr (3, [.ref rs, .int (iz len), .int (iz co), .ref ex, .int (iz bi), .int (iz le), .ref li, .int (iz used), .ref bo, .int (iz bl), .ref cu])), (rs, .inl (cB, 4096, .inl (az fr))), (ex, .inr (4, [.ref xd, .int (iz ne), .int (iz pe)])), (xd, .inl (cB, 1300, .inl (az fe))), (li, .inl (cL, 160, .inr (.inl (azl lm)))), (bo, .inl (cB, 4096, .inl (az fb))), (cu, .inr (4, [.ref cd, .int (iz nc), .int (iz pp)])), (cd, .inl (cB, 1300, .inl (az fc)))] := hD
            refine z_go (va_runV (As := [.int (iz (48 + dgt Cx (-1 - (i : Int))))]) (rest := []) ⟨hx, hb, hml, hown, hts⟩ hct.2 (z_cwV hts w_Mo_add tw_474 (by decide)) (z_preV hct.1 (va_recv hK hP (ci := 3) (q0 := 0) rfl rfl) hw) rfl rfl hl.1 rfl (lv_room (Nat.le_of_ble_eq_true rfl)) d_Mo_fix_209 ⟨Nat.zero_le _, Nat.zero_le _⟩) hS (fun _ h9 => h9) (fun v9 t9 H locs hv9 hp9 hz9 hk9 hS => ?_)
            obtain ⟨rfl, hw⟩ := hp9
            have hw := MW.moved hv9.symm hw
            refine W.eq (g2 := F0 m 212 ls []) rfl ?_
            refine lv_iinc (k := 4) (v := (iz (k + 1))) hx hb d_Mo_fix_212 hl rfl (by show iz _ + iz (1) = _; rw [← iz_add]; try rfl) (by decide) rfl (fun ls hl => ?_)
            have hl : lv_has ls 10 [(8, .int (iz (k + 1))), (9, .int (iz (-1))), (0, .ref mo), (2, .int (iz (cn : Int))), (6, .int (iz nn))] := hl
            refine lv_goto (tgt := 162) hx hb d_Mo_fix_215 rfl ?_
            have hw : MW D cB cL mo rs ex xd li bo cu cd co bi le rt (bt0 ++ dl Cx (-1) (i + 1)) V Cx s H := by
              show MW _ _ _ _ _ _ _ _ _ _ _ _ _ _ _ (_ ++ (_ ++ _)) _ _ _ _
              rw [← List.append_assoc]
              exact hw
            exact ih162 bt0 (i + 1) (k + 1) nn bf _ _ _ hw hS (lv_sub hl [2, 3, 4, 0] rfl) ⟨by omega, by omega⟩ hnn hbt0 (by omega)
  have L93 : ∀ (N93 : Nat) (bt0 : List Int) (i : Int) (nn : Int) (bf : Int) (H : Heap) (locs : List Loc) (ls : Array Slot), MW D cB cL mo rs ex xd li bo cu cd co bi le rt bt0 V Cx s H → va_S (AM mo rs ex xd li bo cu cd) s.heap H locs → lv_has ls 10 [(0, .ref mo), (2, .int (iz (cn : Int))), (3, .int (iz gr)), (4, .int (iz pt)), (6, .int (iz nn)), (7, .int (iz bf)), (8, .int (iz i))] → (0 ≤ i ∧ i ≤ bf) → ((nn = 1 ∧ Cx = 0 ∧ bf = 0) ∨ (nn = 0 ∧ Cx ≠ 0 ∧ bf = max (lead Cx + 1) 0)) → (bt0 ++ pend Cx gr bf i = bt ++ ipR Cx gr (max (lead Cx) 0)) → (bf - i).toNat < N93 → W p l e (zrm 2) s m args below meth c H locs 0 0 (MQ below (zQ (AM mo rs ex xd li bo cu cd) (zR none (MW D cB cL mo rs ex xd li bo cu cd co bi le rt (bt ++ fixL Cx (lead Cx) cn gr pt) V Cx))) args s 0 0 (AM mo rs ex xd li bo cu cd)) (F0 m 93 ls []) := by
    intro N93
    induction N93 with
    | zero => intro bt0 i nn bf H locs ls hw hS hl hi hnn hbt0 hN93; exact absurd hN93 (Nat.not_lt_zero _)
    | succ N93 ih93 =>
      intro bt0 i nn bf H locs ls hw hS hl hi hnn hbt0 hN93
      have hbf : bf ≤ 1000 ∧ 0 ≤ bf := by omega
      refine lv_iload hx hb d_Mo_fix_93 (lv_at hl 6 rfl) ?_
      refine lv_iload hx hb d_Mo_fix_95 (lv_at hl 5 rfl) ?_
      refine z_icmp_ge (tgt := 144) hx hb d_Mo_fix_97 rfl ⟨by omega, by omega⟩ ⟨by omega, by omega⟩ (fun hc97 => ?_) (fun hc97 => ?_)
      · have hbe : bt0 = bt ++ ipR Cx gr (max (lead Cx) 0) := by
          rw [pend_end (by omega), List.append_nil] at hbt0
          exact hbt0
        have hll : bt0.length = bt.length + (ipR Cx gr (max (lead Cx) 0)).length := by rw [hbe, List.length_append]
        refine lv_iload_n hx hb d_Mo_fix_144 rfl (lv_at hl 1 rfl) ?_
        refine z_if_gt (tgt := 153) hx hb d_Mo_fix_145 rfl ⟨by omega, by omega⟩ (fun hc145 => ?_) (fun hc145 => ?_)
        · refine lv_aload_n hx hb d_Mo_fix_153 rfl (lv_at hl 0 rfl) ?_
          refine lv_bipush (v := iz 46) hx hb d_Mo_fix_154 (by decide) ?_
          have hct := c_Mo_add l D cB cL mo rs ex xd li bo cu cd co bi le rt (bt0) V Cx (46) ⟨by omega, by omega⟩ (by (try simp only [List.length_append, List.length_cons, List.length_nil]); omega)
          have hw9 := hw
          obtain ⟨fc, nc, pp, ⟨len, used, bl, fr, fb, lm, fe, ne, pe, ⟨hK, hP, hD⟩, hrt, hbt, hE, hpe, hlm⟩, hC⟩ := hw9
          have hr1 := hrt.1
          have hr2 := hrt.2.1
          have hb1 := hbt.1
          have hb2 := hbt.2.1
          have hE1 := hE.1
          have hC1 := hC.1
          have hP : va_P D vwCl [(mo, .inr (3, [.ref rs, .int (iz len), .int (iz co), .ref ex, .int (iz bi), .int (iz le), .ref li, .int (iz used), .ref bo, .int (iz bl), .ref cu])), (rs, .inl (cB, 4096, .inl (az fr))), (ex, .inr (4, [.ref xd, .int (iz ne), .int (iz pe)])), (xd, .inl (cB, 1300, .inl (az fe))), (li, .inl (cL, 160, .inr (.inl (azl lm)))), (bo, .inl (cB, 4096, .inl (az fb))), (cu, .inr (4, [.ref cd, .int (iz nc), .int (iz pp)])), (cd, .inl (cB, 1300, .inl (az fc)))] H := hP
          have hD : va_D (AM mo rs ex xd li bo cu cd) [(mo, .inr (3, [.ref rs, .int (iz len), .int (iz co), .ref ex, .int (iz bi), .int (iz le), .ref li, .int (iz used), .ref bo, .int (iz bl), .ref cu])), (rs, .inl (cB, 4096, .inl (az fr))), (ex, .inr (4, [.ref xd, .int (iz ne), .int (iz pe)])), (xd, .inl (cB, 1300, .inl (az fe))), (li, .inl (cL, 160, .inr (.inl (azl lm)))), (bo, .inl (cB, 4096, .inl (az fb))), (cu, .inr (4, [.ref cd, .int (iz nc), .int (iz pp)])), (cd, .inl (cB, 1300, .inl (az fc)))] := hD
          refine z_go (va_runV (As := [.int (iz 46)]) (rest := []) ⟨hx, hb, hml, hown, hts⟩ hct.2 (z_cwV hts w_Mo_add tw_474 (by decide)) (z_preV hct.1 (va_recv hK hP (ci := 3) (q0 := 0) rfl rfl) hw) rfl rfl hl.1 rfl (lv_room (Nat.le_of_ble_eq_true rfl)) d_Mo_fix_156 ⟨Nat.zero_le _, Nat.zero_le _⟩) hS (fun _ h9 => h9) (fun v9 t9 H locs hv9 hp9 hz9 hk9 hS => ?_)
          obtain ⟨rfl, hw⟩ := hp9
          have hw := MW.moved hv9.symm hw
          refine W.eq (g2 := F0 m 159 ls []) rfl ?_
          refine lv_iconst (v := iz 0) hx hb d_Mo_fix_159 rfl ?_
          refine lv_istore hx hb d_Mo_fix_160 hl (by decide) rfl (fun ls hl => ?_)
          have hl : lv_has ls 10 [(8, .int (iz 0)), (0, .ref mo), (2, .int (iz (cn : Int))), (3, .int (iz gr)), (4, .int (iz pt)), (6, .int (iz nn)), (7, .int (iz bf))] := hl
          have hw : MW D cB cL mo rs ex xd li bo cu cd co bi le rt ((bt0 ++ [46]) ++ dl Cx (-1) 0) V Cx s H := by
            show MW _ _ _ _ _ _ _ _ _ _ _ _ _ _ _ (_ ++ []) _ _ _ _
            rw [List.append_nil]
            exact hw
          exact L162 _ (bt0 ++ [46]) 0 0 nn bf _ _ _ hw hS (lv_sub hl [1, 2, 5, 0] rfl) ⟨rfl, Nat.zero_le _⟩ hnn (by rw [hbe]; unfold dotL; first | rw [if_pos (by omega)] | (rw [if_neg (by omega), List.append_nil])) (Nat.lt_succ_self _)
        · refine lv_iload hx hb d_Mo_fix_148 (lv_at hl 3 rfl) ?_
          refine z_if_eq (tgt := 159) hx hb d_Mo_fix_150 rfl ⟨by omega, by omega⟩ (fun hc150 => ?_) (fun hc150 => ?_)
          · refine lv_iconst (v := iz 0) hx hb d_Mo_fix_159 rfl ?_
            refine lv_istore hx hb d_Mo_fix_160 hl (by decide) rfl (fun ls hl => ?_)
            have hl : lv_has ls 10 [(8, .int (iz 0)), (0, .ref mo), (2, .int (iz (cn : Int))), (3, .int (iz gr)), (4, .int (iz pt)), (6, .int (iz nn)), (7, .int (iz bf))] := hl
            have hw : MW D cB cL mo rs ex xd li bo cu cd co bi le rt (bt0 ++ dl Cx (-1) 0) V Cx s H := by
              show MW _ _ _ _ _ _ _ _ _ _ _ _ _ _ _ (_ ++ []) _ _ _ _
              rw [List.append_nil]
              exact hw
            exact L162 _ bt0 0 0 nn bf _ _ _ hw hS (lv_sub hl [1, 2, 5, 0] rfl) ⟨rfl, Nat.zero_le _⟩ hnn (by rw [hbe]; unfold dotL; first | rw [if_pos (by omega)] | (rw [if_neg (by omega), List.append_nil])) (Nat.lt_succ_self _)
          · refine lv_aload_n hx hb d_Mo_fix_153 rfl (lv_at hl 0 rfl) ?_
            refine lv_bipush (v := iz 46) hx hb d_Mo_fix_154 (by decide) ?_
            have hct := c_Mo_add l D cB cL mo rs ex xd li bo cu cd co bi le rt (bt0) V Cx (46) ⟨by omega, by omega⟩ (by (try simp only [List.length_append, List.length_cons, List.length_nil]); omega)
            have hw9 := hw
            obtain ⟨fc, nc, pp, ⟨len, used, bl, fr, fb, lm, fe, ne, pe, ⟨hK, hP, hD⟩, hrt, hbt, hE, hpe, hlm⟩, hC⟩ := hw9
            have hr1 := hrt.1
            have hr2 := hrt.2.1
            have hb1 := hbt.1
            have hb2 := hbt.2.1
            have hE1 := hE.1
            have hC1 := hC.1
            have hP : va_P D vwCl [(mo, .inr (3, [.ref rs, .int (iz len), .int (iz co), .ref ex, .int (iz bi), .int (iz le), .ref li, .int (iz used), .ref bo, .int (iz bl), .ref cu])), (rs, .inl (cB, 4096, .inl (az fr))), (ex, .inr (4, [.ref xd, .int (iz ne), .int (iz pe)])), (xd, .inl (cB, 1300, .inl (az fe))), (li, .inl (cL, 160, .inr (.inl (azl lm)))), (bo, .inl (cB, 4096, .inl (az fb))), (cu, .inr (4, [.ref cd, .int (iz nc), .int (iz pp)])), (cd, .inl (cB, 1300, .inl (az fc)))] H := hP
            have hD : va_D (AM mo rs ex xd li bo cu cd) [(mo, .inr (3, [.ref rs, .int (iz len), .int (iz co), .ref ex, .int (iz bi), .int (iz le), .ref li, .int (iz used), .ref bo, .int (iz bl), .ref cu])), (rs, .inl (cB, 4096, .inl (az fr))), (ex, .inr (4, [.ref xd, .int (iz ne), .int (iz pe)])), (xd, .inl (cB, 1300, .inl (az fe))), (li, .inl (cL, 160, .inr (.inl (azl lm)))), (bo, .inl (cB, 4096, .inl (az fb))), (cu, .inr (4, [.ref cd, .int (iz nc), .int (iz pp)])), (cd, .inl (cB, 1300, .inl (az fc)))] := hD
            refine z_go (va_runV (As := [.int (iz 46)]) (rest := []) ⟨hx, hb, hml, hown, hts⟩ hct.2 (z_cwV hts w_Mo_add tw_474 (by decide)) (z_preV hct.1 (va_recv hK hP (ci := 3) (q0 := 0) rfl rfl) hw) rfl rfl hl.1 rfl (lv_room (Nat.le_of_ble_eq_true rfl)) d_Mo_fix_156 ⟨Nat.zero_le _, Nat.zero_le _⟩) hS (fun _ h9 => h9) (fun v9 t9 H locs hv9 hp9 hz9 hk9 hS => ?_)
            obtain ⟨rfl, hw⟩ := hp9
            have hw := MW.moved hv9.symm hw
            refine W.eq (g2 := F0 m 159 ls []) rfl ?_
            refine lv_iconst (v := iz 0) hx hb d_Mo_fix_159 rfl ?_
            refine lv_istore hx hb d_Mo_fix_160 hl (by decide) rfl (fun ls hl => ?_)
            have hl : lv_has ls 10 [(8, .int (iz 0)), (0, .ref mo), (2, .int (iz (cn : Int))), (3, .int (iz gr)), (4, .int (iz pt)), (6, .int (iz nn)), (7, .int (iz bf))] := hl
            have hw : MW D cB cL mo rs ex xd li bo cu cd co bi le rt ((bt0 ++ [46]) ++ dl Cx (-1) 0) V Cx s H := by
              show MW _ _ _ _ _ _ _ _ _ _ _ _ _ _ _ (_ ++ []) _ _ _ _
              rw [List.append_nil]
              exact hw
            exact L162 _ (bt0 ++ [46]) 0 0 nn bf _ _ _ hw hS (lv_sub hl [1, 2, 5, 0] rfl) ⟨rfl, Nat.zero_le _⟩ hnn (by rw [hbe]; unfold dotL; first | rw [if_pos (by omega)] | (rw [if_neg (by omega), List.append_nil])) (Nat.lt_succ_self _)
      · have hl8 := congrArg List.length hbt0
        rw [pend_step (by omega) (by omega)] at hl8
        simp only [List.length_append, List.length_cons, List.length_nil] at hl8
        refine lv_iload_n hx hb d_Mo_fix_100 rfl (lv_at hl 2 rfl) ?_
        refine z_if_eq (tgt := 125) hx hb d_Mo_fix_101 rfl ⟨by omega, by omega⟩ (fun hc101 => ?_) (fun hc101 => ?_)
        · refine lv_aload_n hx hb d_Mo_fix_125 rfl (lv_at hl 0 rfl) ?_
          refine lv_aload_n hx hb d_Mo_fix_126 rfl (lv_at hl 0 rfl) ?_
          have hw9 := hw
          obtain ⟨fc, nc, pp, ⟨len, used, bl, fr, fb, lm, fe, ne, pe, ⟨hK, hP, hD⟩, hrt, hbt, hE, hpe, hlm⟩, hC⟩ := hw9
          have hr1 := hrt.1
          have hr2 := hrt.2.1
          have hb1 := hbt.1
          have hb2 := hbt.2.1
          have hE1 := hE.1
          have hC1 := hC.1
          have hP : va_P D vwCl [(mo, .inr (3, [.ref rs, .int (iz len), .int (iz co), .ref ex, .int (iz bi), .int (iz le), .ref li, .int (iz used), .ref bo, .int (iz bl), .ref cu])), (rs, .inl (cB, 4096, .inl (az fr))), (ex, .inr (4, [.ref xd, .int (iz ne), .int (iz pe)])), (xd, .inl (cB, 1300, .inl (az fe))), (li, .inl (cL, 160, .inr (.inl (azl lm)))), (bo, .inl (cB, 4096, .inl (az fb))), (cu, .inr (4, [.ref cd, .int (iz nc), .int (iz pp)])), (cd, .inl (cB, 1300, .inl (az fc)))] H := hP
          have hD : va_D (AM mo rs ex xd li bo cu cd) [(mo, .inr (3, [.ref rs, .int (iz len), .int (iz co), .ref ex, .int (iz bi), .int (iz le), .ref li, .int (iz used), .ref bo, .int (iz bl), .ref cu])), (rs, .inl (cB, 4096, .inl (az fr))), (ex, .inr (4, [.ref xd, .int (iz ne), .int (iz pe)])), (xd, .inl (cB, 1300, .inl (az fe))), (li, .inl (cL, 160, .inr (.inl (azl lm)))), (bo, .inl (cB, 4096, .inl (az fb))), (cu, .inr (4, [.ref cd, .int (iz nc), .int (iz pp)])), (cd, .inl (cB, 1300, .inl (az fc)))] := hD
          refine va_get (D := D) (ci := 3) (v := .ref cu) (C := R_3) (T := T_3) (N := 11) hx hb hts in_3 hown hK hP 0 rfl rfl 10 (by decide) (hts _ tw_402) (fun _ h9 => h9) rfl d_Mo_fix_127 ?_
          refine lv_iload hx hb d_Mo_fix_130 (lv_at hl 6 rfl) ?_
          have hct := c_Mo_digit l D cB cL mo rs ex xd li bo cu cd co bi le rt (bt0) V Cx i ⟨by omega, by omega⟩
          refine z_go (va_runS (As := [.ref cu, .int (iz i)]) (rest := [.ref mo]) ⟨hx, hb, hml, hown, hts⟩ hct.2 (z_cwS hts w_Mo_digit tw_515 (by decide)) (z_preS hct.1 hw) rfl rfl hl.1 rfl (lv_room (Nat.le_of_ble_eq_true rfl)) d_Mo_fix_132 ⟨Nat.zero_le _, Nat.zero_le _⟩) hS (fun _ h9 => h9) (fun v9 t9 H locs hv9 hp9 hz9 hk9 hS => ?_)
          obtain ⟨rfl, hw⟩ := hp9
          have hw := MW.moved hv9.symm hw
          refine W.eq (g2 := F0 m 135 ls [.int (iz (48 + dgt Cx (lead Cx - i))), .ref mo]) rfl ?_
          refine z_ri (b := 48 + dgt Cx (bf - 1 - i)) (by rw [show lead Cx - i = bf - 1 - i by omega]) ?_
          have hct := c_Mo_add l D cB cL mo rs ex xd li bo cu cd co bi le rt (bt0) V Cx (48 + dgt Cx (bf - 1 - i)) (dg48 _ _) (by (try simp only [List.length_append, List.length_cons, List.length_nil]); omega)
          have hw9 := hw
          obtain ⟨fc, nc, pp, ⟨len, used, bl, fr, fb, lm, fe, ne, pe, ⟨hK, hP, hD⟩, hrt, hbt, hE, hpe, hlm⟩, hC⟩ := hw9
          have hr1 := hrt.1
          have hr2 := hrt.2.1
          have hb1 := hbt.1
          have hb2 := hbt.2.1
          have hE1 := hE.1
          have hC1 := hC.1
          have hP : va_P D vwCl [(mo, .inr (3, [.ref rs, .int (iz len), .int (iz co), .ref ex, .int (iz bi), .int (iz le), .ref li, .int (iz used), .ref bo, .int (iz bl), .ref cu])), (rs, .inl (cB, 4096, .inl (az fr))), (ex, .inr (4, [.ref xd, .int (iz ne), .int (iz pe)])), (xd, .inl (cB, 1300, .inl (az fe))), (li, .inl (cL, 160, .inr (.inl (azl lm)))), (bo, .inl (cB, 4096, .inl (az fb))), (cu, .inr (4, [.ref cd, .int (iz nc), .int (iz pp)])), (cd, .inl (cB, 1300, .inl (az fc)))] H := hP
          have hD : va_D (AM mo rs ex xd li bo cu cd) [(mo, .inr (3, [.ref rs, .int (iz len), .int (iz co), .ref ex, .int (iz bi), .int (iz le), .ref li, .int (iz used), .ref bo, .int (iz bl), .ref cu])), (rs, .inl (cB, 4096, .inl (az fr))), (ex, .inr (4, [.ref xd, .int (iz ne), .int (iz pe)])), (xd, .inl (cB, 1300, .inl (az fe))), (li, .inl (cL, 160, .inr (.inl (azl lm)))), (bo, .inl (cB, 4096, .inl (az fb))), (cu, .inr (4, [.ref cd, .int (iz nc), .int (iz pp)])), (cd, .inl (cB, 1300, .inl (az fc)))] := hD
          refine z_go (va_runV (As := [.int (iz (48 + dgt Cx (bf - 1 - i)))]) (rest := []) ⟨hx, hb, hml, hown, hts⟩ hct.2 (z_cwV hts w_Mo_add tw_474 (by decide)) (z_preV hct.1 (va_recv hK hP (ci := 3) (q0 := 0) rfl rfl) hw) rfl rfl hl.1 rfl (lv_room (Nat.le_of_ble_eq_true rfl)) d_Mo_fix_135 ⟨Nat.zero_le _, Nat.zero_le _⟩) hS (fun _ h9 => h9) (fun v9 t9 H locs hv9 hp9 hz9 hk9 hS => ?_)
          obtain ⟨rfl, hw⟩ := hp9
          have hw := MW.moved hv9.symm hw
          refine W.eq (g2 := F0 m 138 ls []) rfl ?_
          refine lv_iinc (k := 6) (v := (iz (i + 1))) hx hb d_Mo_fix_138 hl rfl (by show iz _ + iz (1) = _; rw [← iz_add]; try rfl) (by decide) rfl (fun ls hl => ?_)
          have hl : lv_has ls 10 [(8, .int (iz (i + 1))), (0, .ref mo), (2, .int (iz (cn : Int))), (3, .int (iz gr)), (4, .int (iz pt)), (6, .int (iz nn)), (7, .int (iz bf))] := hl
          refine lv_goto (tgt := 93) hx hb d_Mo_fix_141 rfl ?_
          exact ih93 (bt0 ++ [48 + dgt Cx (bf - 1 - i)]) (i + 1) nn bf _ _ _ hw hS (lv_sub hl [1, 2, 3, 4, 5, 6, 0] rfl) ⟨by omega, by omega⟩ hnn (by
                rw [← hbt0, pend_step (i := i) (by omega) (by omega)]
                first
                  | rw [if_pos ⟨by omega, by omega, by omega⟩]
                  | rw [if_neg (by omega)]
                simp [List.append_assoc]) (by omega)
        · refine lv_iload hx hb d_Mo_fix_104 (lv_at hl 6 rfl) ?_
          refine z_if_le (tgt := 125) hx hb d_Mo_fix_106 rfl ⟨by omega, by omega⟩ (fun hc106 => ?_) (fun hc106 => ?_)
          · refine lv_aload_n hx hb d_Mo_fix_125 rfl (lv_at hl 0 rfl) ?_
            refine lv_aload_n hx hb d_Mo_fix_126 rfl (lv_at hl 0 rfl) ?_
            have hw9 := hw
            obtain ⟨fc, nc, pp, ⟨len, used, bl, fr, fb, lm, fe, ne, pe, ⟨hK, hP, hD⟩, hrt, hbt, hE, hpe, hlm⟩, hC⟩ := hw9
            have hr1 := hrt.1
            have hr2 := hrt.2.1
            have hb1 := hbt.1
            have hb2 := hbt.2.1
            have hE1 := hE.1
            have hC1 := hC.1
            have hP : va_P D vwCl [(mo, .inr (3, [.ref rs, .int (iz len), .int (iz co), .ref ex, .int (iz bi), .int (iz le), .ref li, .int (iz used), .ref bo, .int (iz bl), .ref cu])), (rs, .inl (cB, 4096, .inl (az fr))), (ex, .inr (4, [.ref xd, .int (iz ne), .int (iz pe)])), (xd, .inl (cB, 1300, .inl (az fe))), (li, .inl (cL, 160, .inr (.inl (azl lm)))), (bo, .inl (cB, 4096, .inl (az fb))), (cu, .inr (4, [.ref cd, .int (iz nc), .int (iz pp)])), (cd, .inl (cB, 1300, .inl (az fc)))] H := hP
            have hD : va_D (AM mo rs ex xd li bo cu cd) [(mo, .inr (3, [.ref rs, .int (iz len), .int (iz co), .ref ex, .int (iz bi), .int (iz le), .ref li, .int (iz used), .ref bo, .int (iz bl), .ref cu])), (rs, .inl (cB, 4096, .inl (az fr))), (ex, .inr (4, [.ref xd, .int (iz ne), .int (iz pe)])), (xd, .inl (cB, 1300, .inl (az fe))), (li, .inl (cL, 160, .inr (.inl (azl lm)))), (bo, .inl (cB, 4096, .inl (az fb))), (cu, .inr (4, [.ref cd, .int (iz nc), .int (iz pp)])), (cd, .inl (cB, 1300, .inl (az fc)))] := hD
            refine va_get (D := D) (ci := 3) (v := .ref cu) (C := R_3) (T := T_3) (N := 11) hx hb hts in_3 hown hK hP 0 rfl rfl 10 (by decide) (hts _ tw_402) (fun _ h9 => h9) rfl d_Mo_fix_127 ?_
            refine lv_iload hx hb d_Mo_fix_130 (lv_at hl 6 rfl) ?_
            have hct := c_Mo_digit l D cB cL mo rs ex xd li bo cu cd co bi le rt (bt0) V Cx i ⟨by omega, by omega⟩
            refine z_go (va_runS (As := [.ref cu, .int (iz i)]) (rest := [.ref mo]) ⟨hx, hb, hml, hown, hts⟩ hct.2 (z_cwS hts w_Mo_digit tw_515 (by decide)) (z_preS hct.1 hw) rfl rfl hl.1 rfl (lv_room (Nat.le_of_ble_eq_true rfl)) d_Mo_fix_132 ⟨Nat.zero_le _, Nat.zero_le _⟩) hS (fun _ h9 => h9) (fun v9 t9 H locs hv9 hp9 hz9 hk9 hS => ?_)
            obtain ⟨rfl, hw⟩ := hp9
            have hw := MW.moved hv9.symm hw
            refine W.eq (g2 := F0 m 135 ls [.int (iz (48 + dgt Cx (lead Cx - i))), .ref mo]) rfl ?_
            refine z_ri (b := 48 + dgt Cx (bf - 1 - i)) (by rw [show lead Cx - i = bf - 1 - i by omega]) ?_
            have hct := c_Mo_add l D cB cL mo rs ex xd li bo cu cd co bi le rt (bt0) V Cx (48 + dgt Cx (bf - 1 - i)) (dg48 _ _) (by (try simp only [List.length_append, List.length_cons, List.length_nil]); omega)
            have hw9 := hw
            obtain ⟨fc, nc, pp, ⟨len, used, bl, fr, fb, lm, fe, ne, pe, ⟨hK, hP, hD⟩, hrt, hbt, hE, hpe, hlm⟩, hC⟩ := hw9
            have hr1 := hrt.1
            have hr2 := hrt.2.1
            have hb1 := hbt.1
            have hb2 := hbt.2.1
            have hE1 := hE.1
            have hC1 := hC.1
            have hP : va_P D vwCl [(mo, .inr (3, [.ref rs, .int (iz len), .int (iz co), .ref ex, .int (iz bi), .int (iz le), .ref li, .int (iz used), .ref bo, .int (iz bl), .ref cu])), (rs, .inl (cB, 4096, .inl (az fr))), (ex, .inr (4, [.ref xd, .int (iz ne), .int (iz pe)])), (xd, .inl (cB, 1300, .inl (az fe))), (li, .inl (cL, 160, .inr (.inl (azl lm)))), (bo, .inl (cB, 4096, .inl (az fb))), (cu, .inr (4, [.ref cd, .int (iz nc), .int (iz pp)])), (cd, .inl (cB, 1300, .inl (az fc)))] H := hP
            have hD : va_D (AM mo rs ex xd li bo cu cd) [(mo, .inr (3, [.ref rs, .int (iz len), .int (iz co), .ref ex, .int (iz bi), .int (iz le), .ref li, .int (iz used), .ref bo, .int (iz bl), .ref cu])), (rs, .inl (cB, 4096, .inl (az fr))), (ex, .inr (4, [.ref xd, .int (iz ne), .int (iz pe)])), (xd, .inl (cB, 1300, .inl (az fe))), (li, .inl (cL, 160, .inr (.inl (azl lm)))), (bo, .inl (cB, 4096, .inl (az fb))), (cu, .inr (4, [.ref cd, .int (iz nc), .int (iz pp)])), (cd, .inl (cB, 1300, .inl (az fc)))] := hD
            refine z_go (va_runV (As := [.int (iz (48 + dgt Cx (bf - 1 - i)))]) (rest := []) ⟨hx, hb, hml, hown, hts⟩ hct.2 (z_cwV hts w_Mo_add tw_474 (by decide)) (z_preV hct.1 (va_recv hK hP (ci := 3) (q0 := 0) rfl rfl) hw) rfl rfl hl.1 rfl (lv_room (Nat.le_of_ble_eq_true rfl)) d_Mo_fix_135 ⟨Nat.zero_le _, Nat.zero_le _⟩) hS (fun _ h9 => h9) (fun v9 t9 H locs hv9 hp9 hz9 hk9 hS => ?_)
            obtain ⟨rfl, hw⟩ := hp9
            have hw := MW.moved hv9.symm hw
            refine W.eq (g2 := F0 m 138 ls []) rfl ?_
            refine lv_iinc (k := 6) (v := (iz (i + 1))) hx hb d_Mo_fix_138 hl rfl (by show iz _ + iz (1) = _; rw [← iz_add]; try rfl) (by decide) rfl (fun ls hl => ?_)
            have hl : lv_has ls 10 [(8, .int (iz (i + 1))), (0, .ref mo), (2, .int (iz (cn : Int))), (3, .int (iz gr)), (4, .int (iz pt)), (6, .int (iz nn)), (7, .int (iz bf))] := hl
            refine lv_goto (tgt := 93) hx hb d_Mo_fix_141 rfl ?_
            exact ih93 (bt0 ++ [48 + dgt Cx (bf - 1 - i)]) (i + 1) nn bf _ _ _ hw hS (lv_sub hl [1, 2, 3, 4, 5, 6, 0] rfl) ⟨by omega, by omega⟩ hnn (by
                  rw [← hbt0, pend_step (i := i) (by omega) (by omega)]
                  first
                    | rw [if_pos ⟨by omega, by omega, by omega⟩]
                    | rw [if_neg (by omega)]
                  simp [List.append_assoc]) (by omega)
          · refine lv_iload hx hb d_Mo_fix_109 (lv_at hl 5 rfl) ?_
            refine lv_iload hx hb d_Mo_fix_111 (lv_at hl 6 rfl) ?_
            refine z_isub hx hb d_Mo_fix_113 ?_
            refine lv_iconst (v := iz 3) hx hb d_Mo_fix_114 rfl ?_
            refine z_irem hx hb d_Mo_fix_115 ⟨by omega, by omega⟩ ⟨by omega, by omega⟩ ?_
            refine z_if_ne (tgt := 125) hx hb d_Mo_fix_116 rfl ⟨by omega, by omega⟩ (fun hc116 => ?_) (fun hc116 => ?_)
            · refine lv_aload_n hx hb d_Mo_fix_125 rfl (lv_at hl 0 rfl) ?_
              refine lv_aload_n hx hb d_Mo_fix_126 rfl (lv_at hl 0 rfl) ?_
              have hw9 := hw
              obtain ⟨fc, nc, pp, ⟨len, used, bl, fr, fb, lm, fe, ne, pe, ⟨hK, hP, hD⟩, hrt, hbt, hE, hpe, hlm⟩, hC⟩ := hw9
              have hr1 := hrt.1
              have hr2 := hrt.2.1
              have hb1 := hbt.1
              have hb2 := hbt.2.1
              have hE1 := hE.1
              have hC1 := hC.1
              have hP : va_P D vwCl [(mo, .inr (3, [.ref rs, .int (iz len), .int (iz co), .ref ex, .int (iz bi), .int (iz le), .ref li, .int (iz used), .ref bo, .int (iz bl), .ref cu])), (rs, .inl (cB, 4096, .inl (az fr))), (ex, .inr (4, [.ref xd, .int (iz ne), .int (iz pe)])), (xd, .inl (cB, 1300, .inl (az fe))), (li, .inl (cL, 160, .inr (.inl (azl lm)))), (bo, .inl (cB, 4096, .inl (az fb))), (cu, .inr (4, [.ref cd, .int (iz nc), .int (iz pp)])), (cd, .inl (cB, 1300, .inl (az fc)))] H := hP
              have hD : va_D (AM mo rs ex xd li bo cu cd) [(mo, .inr (3, [.ref rs, .int (iz len), .int (iz co), .ref ex, .int (iz bi), .int (iz le), .ref li, .int (iz used), .ref bo, .int (iz bl), .ref cu])), (rs, .inl (cB, 4096, .inl (az fr))), (ex, .inr (4, [.ref xd, .int (iz ne), .int (iz pe)])), (xd, .inl (cB, 1300, .inl (az fe))), (li, .inl (cL, 160, .inr (.inl (azl lm)))), (bo, .inl (cB, 4096, .inl (az fb))), (cu, .inr (4, [.ref cd, .int (iz nc), .int (iz pp)])), (cd, .inl (cB, 1300, .inl (az fc)))] := hD
              refine va_get (D := D) (ci := 3) (v := .ref cu) (C := R_3) (T := T_3) (N := 11) hx hb hts in_3 hown hK hP 0 rfl rfl 10 (by decide) (hts _ tw_402) (fun _ h9 => h9) rfl d_Mo_fix_127 ?_
              refine lv_iload hx hb d_Mo_fix_130 (lv_at hl 6 rfl) ?_
              have hct := c_Mo_digit l D cB cL mo rs ex xd li bo cu cd co bi le rt (bt0) V Cx i ⟨by omega, by omega⟩
              refine z_go (va_runS (As := [.ref cu, .int (iz i)]) (rest := [.ref mo]) ⟨hx, hb, hml, hown, hts⟩ hct.2 (z_cwS hts w_Mo_digit tw_515 (by decide)) (z_preS hct.1 hw) rfl rfl hl.1 rfl (lv_room (Nat.le_of_ble_eq_true rfl)) d_Mo_fix_132 ⟨Nat.zero_le _, Nat.zero_le _⟩) hS (fun _ h9 => h9) (fun v9 t9 H locs hv9 hp9 hz9 hk9 hS => ?_)
              obtain ⟨rfl, hw⟩ := hp9
              have hw := MW.moved hv9.symm hw
              refine W.eq (g2 := F0 m 135 ls [.int (iz (48 + dgt Cx (lead Cx - i))), .ref mo]) rfl ?_
              refine z_ri (b := 48 + dgt Cx (bf - 1 - i)) (by rw [show lead Cx - i = bf - 1 - i by omega]) ?_
              have hct := c_Mo_add l D cB cL mo rs ex xd li bo cu cd co bi le rt (bt0) V Cx (48 + dgt Cx (bf - 1 - i)) (dg48 _ _) (by (try simp only [List.length_append, List.length_cons, List.length_nil]); omega)
              have hw9 := hw
              obtain ⟨fc, nc, pp, ⟨len, used, bl, fr, fb, lm, fe, ne, pe, ⟨hK, hP, hD⟩, hrt, hbt, hE, hpe, hlm⟩, hC⟩ := hw9
              have hr1 := hrt.1
              have hr2 := hrt.2.1
              have hb1 := hbt.1
              have hb2 := hbt.2.1
              have hE1 := hE.1
              have hC1 := hC.1
              have hP : va_P D vwCl [(mo, .inr (3, [.ref rs, .int (iz len), .int (iz co), .ref ex, .int (iz bi), .int (iz le), .ref li, .int (iz used), .ref bo, .int (iz bl), .ref cu])), (rs, .inl (cB, 4096, .inl (az fr))), (ex, .inr (4, [.ref xd, .int (iz ne), .int (iz pe)])), (xd, .inl (cB, 1300, .inl (az fe))), (li, .inl (cL, 160, .inr (.inl (azl lm)))), (bo, .inl (cB, 4096, .inl (az fb))), (cu, .inr (4, [.ref cd, .int (iz nc), .int (iz pp)])), (cd, .inl (cB, 1300, .inl (az fc)))] H := hP
              have hD : va_D (AM mo rs ex xd li bo cu cd) [(mo, .inr (3, [.ref rs, .int (iz len), .int (iz co), .ref ex, .int (iz bi), .int (iz le), .ref li, .int (iz used), .ref bo, .int (iz bl), .ref cu])), (rs, .inl (cB, 4096, .inl (az fr))), (ex, .inr (4, [.ref xd, .int (iz ne), .int (iz pe)])), (xd, .inl (cB, 1300, .inl (az fe))), (li, .inl (cL, 160, .inr (.inl (azl lm)))), (bo, .inl (cB, 4096, .inl (az fb))), (cu, .inr (4, [.ref cd, .int (iz nc), .int (iz pp)])), (cd, .inl (cB, 1300, .inl (az fc)))] := hD
              refine z_go (va_runV (As := [.int (iz (48 + dgt Cx (bf - 1 - i)))]) (rest := []) ⟨hx, hb, hml, hown, hts⟩ hct.2 (z_cwV hts w_Mo_add tw_474 (by decide)) (z_preV hct.1 (va_recv hK hP (ci := 3) (q0 := 0) rfl rfl) hw) rfl rfl hl.1 rfl (lv_room (Nat.le_of_ble_eq_true rfl)) d_Mo_fix_135 ⟨Nat.zero_le _, Nat.zero_le _⟩) hS (fun _ h9 => h9) (fun v9 t9 H locs hv9 hp9 hz9 hk9 hS => ?_)
              obtain ⟨rfl, hw⟩ := hp9
              have hw := MW.moved hv9.symm hw
              refine W.eq (g2 := F0 m 138 ls []) rfl ?_
              refine lv_iinc (k := 6) (v := (iz (i + 1))) hx hb d_Mo_fix_138 hl rfl (by show iz _ + iz (1) = _; rw [← iz_add]; try rfl) (by decide) rfl (fun ls hl => ?_)
              have hl : lv_has ls 10 [(8, .int (iz (i + 1))), (0, .ref mo), (2, .int (iz (cn : Int))), (3, .int (iz gr)), (4, .int (iz pt)), (6, .int (iz nn)), (7, .int (iz bf))] := hl
              refine lv_goto (tgt := 93) hx hb d_Mo_fix_141 rfl ?_
              exact ih93 (bt0 ++ [48 + dgt Cx (bf - 1 - i)]) (i + 1) nn bf _ _ _ hw hS (lv_sub hl [1, 2, 3, 4, 5, 6, 0] rfl) ⟨by omega, by omega⟩ hnn (by
                    rw [← hbt0, pend_step (i := i) (by omega) (by omega)]
                    first
                      | rw [if_pos ⟨by omega, by omega, by omega⟩]
                      | rw [if_neg (by omega)]
                    simp [List.append_assoc]) (by omega)
            · rw [if_pos ⟨by omega, by omega, by omega⟩] at hl8
              simp only [List.length_cons, List.length_nil] at hl8
              refine lv_aload_n hx hb d_Mo_fix_119 rfl (lv_at hl 0 rfl) ?_
              refine lv_bipush (v := iz 44) hx hb d_Mo_fix_120 (by decide) ?_
              have hct := c_Mo_add l D cB cL mo rs ex xd li bo cu cd co bi le rt (bt0) V Cx (44) ⟨by omega, by omega⟩ (by (try simp only [List.length_append, List.length_cons, List.length_nil]); omega)
              have hw9 := hw
              obtain ⟨fc, nc, pp, ⟨len, used, bl, fr, fb, lm, fe, ne, pe, ⟨hK, hP, hD⟩, hrt, hbt, hE, hpe, hlm⟩, hC⟩ := hw9
              have hr1 := hrt.1
              have hr2 := hrt.2.1
              have hb1 := hbt.1
              have hb2 := hbt.2.1
              have hE1 := hE.1
              have hC1 := hC.1
              have hP : va_P D vwCl [(mo, .inr (3, [.ref rs, .int (iz len), .int (iz co), .ref ex, .int (iz bi), .int (iz le), .ref li, .int (iz used), .ref bo, .int (iz bl), .ref cu])), (rs, .inl (cB, 4096, .inl (az fr))), (ex, .inr (4, [.ref xd, .int (iz ne), .int (iz pe)])), (xd, .inl (cB, 1300, .inl (az fe))), (li, .inl (cL, 160, .inr (.inl (azl lm)))), (bo, .inl (cB, 4096, .inl (az fb))), (cu, .inr (4, [.ref cd, .int (iz nc), .int (iz pp)])), (cd, .inl (cB, 1300, .inl (az fc)))] H := hP
              have hD : va_D (AM mo rs ex xd li bo cu cd) [(mo, .inr (3, [.ref rs, .int (iz len), .int (iz co), .ref ex, .int (iz bi), .int (iz le), .ref li, .int (iz used), .ref bo, .int (iz bl), .ref cu])), (rs, .inl (cB, 4096, .inl (az fr))), (ex, .inr (4, [.ref xd, .int (iz ne), .int (iz pe)])), (xd, .inl (cB, 1300, .inl (az fe))), (li, .inl (cL, 160, .inr (.inl (azl lm)))), (bo, .inl (cB, 4096, .inl (az fb))), (cu, .inr (4, [.ref cd, .int (iz nc), .int (iz pp)])), (cd, .inl (cB, 1300, .inl (az fc)))] := hD
              refine z_go (va_runV (As := [.int (iz 44)]) (rest := []) ⟨hx, hb, hml, hown, hts⟩ hct.2 (z_cwV hts w_Mo_add tw_474 (by decide)) (z_preV hct.1 (va_recv hK hP (ci := 3) (q0 := 0) rfl rfl) hw) rfl rfl hl.1 rfl (lv_room (Nat.le_of_ble_eq_true rfl)) d_Mo_fix_122 ⟨Nat.zero_le _, Nat.zero_le _⟩) hS (fun _ h9 => h9) (fun v9 t9 H locs hv9 hp9 hz9 hk9 hS => ?_)
              obtain ⟨rfl, hw⟩ := hp9
              have hw := MW.moved hv9.symm hw
              refine W.eq (g2 := F0 m 125 ls []) rfl ?_
              refine lv_aload_n hx hb d_Mo_fix_125 rfl (lv_at hl 0 rfl) ?_
              refine lv_aload_n hx hb d_Mo_fix_126 rfl (lv_at hl 0 rfl) ?_
              have hw9 := hw
              obtain ⟨fc, nc, pp, ⟨len, used, bl, fr, fb, lm, fe, ne, pe, ⟨hK, hP, hD⟩, hrt, hbt, hE, hpe, hlm⟩, hC⟩ := hw9
              have hr1 := hrt.1
              have hr2 := hrt.2.1
              have hb1 := hbt.1
              have hb2 := hbt.2.1
              have hE1 := hE.1
              have hC1 := hC.1
              have hP : va_P D vwCl [(mo, .inr (3, [.ref rs, .int (iz len), .int (iz co), .ref ex, .int (iz bi), .int (iz le), .ref li, .int (iz used), .ref bo, .int (iz bl), .ref cu])), (rs, .inl (cB, 4096, .inl (az fr))), (ex, .inr (4, [.ref xd, .int (iz ne), .int (iz pe)])), (xd, .inl (cB, 1300, .inl (az fe))), (li, .inl (cL, 160, .inr (.inl (azl lm)))), (bo, .inl (cB, 4096, .inl (az fb))), (cu, .inr (4, [.ref cd, .int (iz nc), .int (iz pp)])), (cd, .inl (cB, 1300, .inl (az fc)))] H := hP
              have hD : va_D (AM mo rs ex xd li bo cu cd) [(mo, .inr (3, [.ref rs, .int (iz len), .int (iz co), .ref ex, .int (iz bi), .int (iz le), .ref li, .int (iz used), .ref bo, .int (iz bl), .ref cu])), (rs, .inl (cB, 4096, .inl (az fr))), (ex, .inr (4, [.ref xd, .int (iz ne), .int (iz pe)])), (xd, .inl (cB, 1300, .inl (az fe))), (li, .inl (cL, 160, .inr (.inl (azl lm)))), (bo, .inl (cB, 4096, .inl (az fb))), (cu, .inr (4, [.ref cd, .int (iz nc), .int (iz pp)])), (cd, .inl (cB, 1300, .inl (az fc)))] := hD
              refine va_get (D := D) (ci := 3) (v := .ref cu) (C := R_3) (T := T_3) (N := 11) hx hb hts in_3 hown hK hP 0 rfl rfl 10 (by decide) (hts _ tw_402) (fun _ h9 => h9) rfl d_Mo_fix_127 ?_
              refine lv_iload hx hb d_Mo_fix_130 (lv_at hl 6 rfl) ?_
              have hct := c_Mo_digit l D cB cL mo rs ex xd li bo cu cd co bi le rt ((bt0 ++ [44])) V Cx i ⟨by omega, by omega⟩
              refine z_go (va_runS (As := [.ref cu, .int (iz i)]) (rest := [.ref mo]) ⟨hx, hb, hml, hown, hts⟩ hct.2 (z_cwS hts w_Mo_digit tw_515 (by decide)) (z_preS hct.1 hw) rfl rfl hl.1 rfl (lv_room (Nat.le_of_ble_eq_true rfl)) d_Mo_fix_132 ⟨Nat.zero_le _, Nat.zero_le _⟩) hS (fun _ h9 => h9) (fun v9 t9 H locs hv9 hp9 hz9 hk9 hS => ?_)
              obtain ⟨rfl, hw⟩ := hp9
              have hw := MW.moved hv9.symm hw
              refine W.eq (g2 := F0 m 135 ls [.int (iz (48 + dgt Cx (lead Cx - i))), .ref mo]) rfl ?_
              refine z_ri (b := 48 + dgt Cx (bf - 1 - i)) (by rw [show lead Cx - i = bf - 1 - i by omega]) ?_
              have hct := c_Mo_add l D cB cL mo rs ex xd li bo cu cd co bi le rt ((bt0 ++ [44])) V Cx (48 + dgt Cx (bf - 1 - i)) (dg48 _ _) (by (try simp only [List.length_append, List.length_cons, List.length_nil]); omega)
              have hw9 := hw
              obtain ⟨fc, nc, pp, ⟨len, used, bl, fr, fb, lm, fe, ne, pe, ⟨hK, hP, hD⟩, hrt, hbt, hE, hpe, hlm⟩, hC⟩ := hw9
              have hr1 := hrt.1
              have hr2 := hrt.2.1
              have hb1 := hbt.1
              have hb2 := hbt.2.1
              have hE1 := hE.1
              have hC1 := hC.1
              have hP : va_P D vwCl [(mo, .inr (3, [.ref rs, .int (iz len), .int (iz co), .ref ex, .int (iz bi), .int (iz le), .ref li, .int (iz used), .ref bo, .int (iz bl), .ref cu])), (rs, .inl (cB, 4096, .inl (az fr))), (ex, .inr (4, [.ref xd, .int (iz ne), .int (iz pe)])), (xd, .inl (cB, 1300, .inl (az fe))), (li, .inl (cL, 160, .inr (.inl (azl lm)))), (bo, .inl (cB, 4096, .inl (az fb))), (cu, .inr (4, [.ref cd, .int (iz nc), .int (iz pp)])), (cd, .inl (cB, 1300, .inl (az fc)))] H := hP
              have hD : va_D (AM mo rs ex xd li bo cu cd) [(mo, .inr (3, [.ref rs, .int (iz len), .int (iz co), .ref ex, .int (iz bi), .int (iz le), .ref li, .int (iz used), .ref bo, .int (iz bl), .ref cu])), (rs, .inl (cB, 4096, .inl (az fr))), (ex, .inr (4, [.ref xd, .int (iz ne), .int (iz pe)])), (xd, .inl (cB, 1300, .inl (az fe))), (li, .inl (cL, 160, .inr (.inl (azl lm)))), (bo, .inl (cB, 4096, .inl (az fb))), (cu, .inr (4, [.ref cd, .int (iz nc), .int (iz pp)])), (cd, .inl (cB, 1300, .inl (az fc)))] := hD
              refine z_go (va_runV (As := [.int (iz (48 + dgt Cx (bf - 1 - i)))]) (rest := []) ⟨hx, hb, hml, hown, hts⟩ hct.2 (z_cwV hts w_Mo_add tw_474 (by decide)) (z_preV hct.1 (va_recv hK hP (ci := 3) (q0 := 0) rfl rfl) hw) rfl rfl hl.1 rfl (lv_room (Nat.le_of_ble_eq_true rfl)) d_Mo_fix_135 ⟨Nat.zero_le _, Nat.zero_le _⟩) hS (fun _ h9 => h9) (fun v9 t9 H locs hv9 hp9 hz9 hk9 hS => ?_)
              obtain ⟨rfl, hw⟩ := hp9
              have hw := MW.moved hv9.symm hw
              refine W.eq (g2 := F0 m 138 ls []) rfl ?_
              refine lv_iinc (k := 6) (v := (iz (i + 1))) hx hb d_Mo_fix_138 hl rfl (by show iz _ + iz (1) = _; rw [← iz_add]; try rfl) (by decide) rfl (fun ls hl => ?_)
              have hl : lv_has ls 10 [(8, .int (iz (i + 1))), (0, .ref mo), (2, .int (iz (cn : Int))), (3, .int (iz gr)), (4, .int (iz pt)), (6, .int (iz nn)), (7, .int (iz bf))] := hl
              refine lv_goto (tgt := 93) hx hb d_Mo_fix_141 rfl ?_
              exact ih93 ((bt0 ++ [44]) ++ [48 + dgt Cx (bf - 1 - i)]) (i + 1) nn bf _ _ _ hw hS (lv_sub hl [1, 2, 3, 4, 5, 6, 0] rfl) ⟨by omega, by omega⟩ hnn (by
                    rw [← hbt0, pend_step (i := i) (by omega) (by omega)]
                    first
                      | rw [if_pos ⟨by omega, by omega, by omega⟩]
                      | rw [if_neg (by omega)]
                    simp [List.append_assoc]) (by omega)
  have L79 : ∀ (nn : Int) (bf : Int) (H : Heap) (locs : List Loc) (ls : Array Slot), MW D cB cL mo rs ex xd li bo cu cd co bi le rt bt V Cx s H → va_S (AM mo rs ex xd li bo cu cd) s.heap H locs → lv_has ls 10 [(0, .ref mo), (2, .int (iz (cn : Int))), (3, .int (iz gr)), (4, .int (iz pt)), (6, .int (iz nn)), (7, .int (iz bf))] → ((nn = 1 ∧ Cx = 0 ∧ bf = 0) ∨ (nn = 0 ∧ Cx ≠ 0 ∧ bf = max (lead Cx + 1) 0)) → W p l e (zrm 2) s m args below meth c H locs 0 0 (MQ below (zQ (AM mo rs ex xd li bo cu cd) (zR none (MW D cB cL mo rs ex xd li bo cu cd co bi le rt (bt ++ fixL Cx (lead Cx) cn gr pt) V Cx))) args s 0 0 (AM mo rs ex xd li bo cu cd)) (F0 m 79 ls []) := by
    intro nn bf H locs ls hw hS hl hnn
    have hbf : bf ≤ 1000 ∧ 0 ≤ bf := by omega
    refine lv_iload hx hb d_Mo_fix_79 (lv_at hl 5 rfl) ?_
    refine z_if_ne (tgt := 90) hx hb d_Mo_fix_81 rfl ⟨by omega, by omega⟩ (fun hc81 => ?_) (fun hc81 => ?_)
    · refine lv_iconst (v := iz 0) hx hb d_Mo_fix_90 rfl ?_
      refine lv_istore hx hb d_Mo_fix_91 hl (by decide) rfl (fun ls hl => ?_)
      have hl : lv_has ls 10 [(8, .int (iz 0)), (0, .ref mo), (2, .int (iz (cn : Int))), (3, .int (iz gr)), (4, .int (iz pt)), (6, .int (iz nn)), (7, .int (iz bf))] := hl
      exact L93 _ bt 0 nn bf _ _ _ hw hS (lv_sub hl [1, 2, 3, 4, 5, 6, 0] rfl) ⟨by omega, by omega⟩ hnn (by rw [pend_0 (by omega), show bf - 1 = max (lead Cx) 0 by omega]) (Nat.lt_succ_self _)
    · have hi1 : (ipR Cx gr (max (lead Cx) 0)).length ≥ 1 := by
        rw [ipR_step Cx gr _ (by omega)]
        simp only [List.length_append, List.length_cons, List.length_nil]
        omega
      have hld : lead Cx ≤ 0 ∧ dgt Cx 0 = 0 := by
        rcases hnn with ⟨h1, h2, h3⟩ | ⟨h1, h2, h3⟩
        · rw [h2, lead_0]; exact ⟨by omega, dgt_zero 0⟩
        · exact ⟨by omega, dgt_above hCn (by omega)⟩
      refine lv_aload_n hx hb d_Mo_fix_84 rfl (lv_at hl 0 rfl) ?_
      refine lv_bipush (v := iz 48) hx hb d_Mo_fix_85 (by decide) ?_
      have hct := c_Mo_add l D cB cL mo rs ex xd li bo cu cd co bi le rt (bt) V Cx (48) ⟨by omega, by omega⟩ (by (try simp only [List.length_append, List.length_cons, List.length_nil]); omega)
      have hw9 := hw
      obtain ⟨fc, nc, pp, ⟨len, used, bl, fr, fb, lm, fe, ne, pe, ⟨hK, hP, hD⟩, hrt, hbt, hE, hpe, hlm⟩, hC⟩ := hw9
      have hr1 := hrt.1
      have hr2 := hrt.2.1
      have hb1 := hbt.1
      have hb2 := hbt.2.1
      have hE1 := hE.1
      have hC1 := hC.1
      have hP : va_P D vwCl [(mo, .inr (3, [.ref rs, .int (iz len), .int (iz co), .ref ex, .int (iz bi), .int (iz le), .ref li, .int (iz used), .ref bo, .int (iz bl), .ref cu])), (rs, .inl (cB, 4096, .inl (az fr))), (ex, .inr (4, [.ref xd, .int (iz ne), .int (iz pe)])), (xd, .inl (cB, 1300, .inl (az fe))), (li, .inl (cL, 160, .inr (.inl (azl lm)))), (bo, .inl (cB, 4096, .inl (az fb))), (cu, .inr (4, [.ref cd, .int (iz nc), .int (iz pp)])), (cd, .inl (cB, 1300, .inl (az fc)))] H := hP
      have hD : va_D (AM mo rs ex xd li bo cu cd) [(mo, .inr (3, [.ref rs, .int (iz len), .int (iz co), .ref ex, .int (iz bi), .int (iz le), .ref li, .int (iz used), .ref bo, .int (iz bl), .ref cu])), (rs, .inl (cB, 4096, .inl (az fr))), (ex, .inr (4, [.ref xd, .int (iz ne), .int (iz pe)])), (xd, .inl (cB, 1300, .inl (az fe))), (li, .inl (cL, 160, .inr (.inl (azl lm)))), (bo, .inl (cB, 4096, .inl (az fb))), (cu, .inr (4, [.ref cd, .int (iz nc), .int (iz pp)])), (cd, .inl (cB, 1300, .inl (az fc)))] := hD
      refine z_go (va_runV (As := [.int (iz 48)]) (rest := []) ⟨hx, hb, hml, hown, hts⟩ hct.2 (z_cwV hts w_Mo_add tw_474 (by decide)) (z_preV hct.1 (va_recv hK hP (ci := 3) (q0 := 0) rfl rfl) hw) rfl rfl hl.1 rfl (lv_room (Nat.le_of_ble_eq_true rfl)) d_Mo_fix_87 ⟨Nat.zero_le _, Nat.zero_le _⟩) hS (fun _ h9 => h9) (fun v9 t9 H locs hv9 hp9 hz9 hk9 hS => ?_)
      obtain ⟨rfl, hw⟩ := hp9
      have hw := MW.moved hv9.symm hw
      refine W.eq (g2 := F0 m 90 ls []) rfl ?_
      refine lv_iconst (v := iz 0) hx hb d_Mo_fix_90 rfl ?_
      refine lv_istore hx hb d_Mo_fix_91 hl (by decide) rfl (fun ls hl => ?_)
      have hl : lv_has ls 10 [(8, .int (iz 0)), (0, .ref mo), (2, .int (iz (cn : Int))), (3, .int (iz gr)), (4, .int (iz pt)), (6, .int (iz nn)), (7, .int (iz bf))] := hl
      exact L93 _ (bt ++ [48]) 0 nn bf _ _ _ hw hS (lv_sub hl [1, 2, 3, 4, 5, 6, 0] rfl) ⟨by omega, by omega⟩ hnn (by rw [pend_end (by omega), List.append_nil, show max (lead Cx) 0 = 0 by omega, ipR_0 Cx gr hld.2]) (Nat.lt_succ_self _)
  have L26 : ∀  (H : Heap) (locs : List Loc) (ls : Array Slot), MW D cB cL mo rs ex xd li bo cu cd co bi le rt bt V Cx s H → va_S (AM mo rs ex xd li bo cu cd) s.heap H locs → lv_has ls 10 [(0, .ref mo), (1, .ref ex), (2, .int (iz (cn : Int))), (3, .int (iz gr)), (4, .int (iz pt))] → W p l e (zrm 2) s m args below meth c H locs 0 0 (MQ below (zQ (AM mo rs ex xd li bo cu cd) (zR none (MW D cB cL mo rs ex xd li bo cu cd co bi le rt (bt ++ fixL Cx (lead Cx) cn gr pt) V Cx))) args s 0 0 (AM mo rs ex xd li bo cu cd)) (F0 m 26 ls []) := by
    intro  H locs ls hw hS hl 
    refine lv_aload_n hx hb d_Mo_fix_26 rfl (lv_at hl 1 rfl) ?_
    have hw9 := hw
    obtain ⟨fc, nc, pp, ⟨len, used, bl, fr, fb, lm, fe, ne, pe, ⟨hK, hP, hD⟩, hrt, hbt, hE, hpe, hlm⟩, hC⟩ := hw9
    have hr1 := hrt.1
    have hr2 := hrt.2.1
    have hb1 := hbt.1
    have hb2 := hbt.2.1
    have hE1 := hE.1
    have hC1 := hC.1
    have hP : va_P D vwCl [(mo, .inr (3, [.ref rs, .int (iz len), .int (iz co), .ref ex, .int (iz bi), .int (iz le), .ref li, .int (iz used), .ref bo, .int (iz bl), .ref cu])), (rs, .inl (cB, 4096, .inl (az fr))), (ex, .inr (4, [.ref xd, .int (iz ne), .int (iz pe)])), (xd, .inl (cB, 1300, .inl (az fe))), (li, .inl (cL, 160, .inr (.inl (azl lm)))), (bo, .inl (cB, 4096, .inl (az fb))), (cu, .inr (4, [.ref cd, .int (iz nc), .int (iz pp)])), (cd, .inl (cB, 1300, .inl (az fc)))] H := hP
    have hD : va_D (AM mo rs ex xd li bo cu cd) [(mo, .inr (3, [.ref rs, .int (iz len), .int (iz co), .ref ex, .int (iz bi), .int (iz le), .ref li, .int (iz used), .ref bo, .int (iz bl), .ref cu])), (rs, .inl (cB, 4096, .inl (az fr))), (ex, .inr (4, [.ref xd, .int (iz ne), .int (iz pe)])), (xd, .inl (cB, 1300, .inl (az fe))), (li, .inl (cL, 160, .inr (.inl (azl lm)))), (bo, .inl (cB, 4096, .inl (az fb))), (cu, .inr (4, [.ref cd, .int (iz nc), .int (iz pp)])), (cd, .inl (cB, 1300, .inl (az fc)))] := hD
    refine va_get (D := D) (ci := 4) (v := .int (iz ne)) (C := R_4) (T := T_4) (N := 3) hx hb hts in_4 hown hK hP 2 rfl rfl 1 (by decide) (hts _ tw_383) (fun _ h9 => h9) rfl d_Mo_fix_27 ?_
    refine z_if_eq (tgt := 43) hx hb d_Mo_fix_30 rfl ⟨by omega, by omega⟩ (fun hc30 => ?_) (fun hc30 => ?_)
    · have hC0 : Cx = 0 := by
        first
          | (rw [hCx, hE.zero hc30]; exact rnd_0 _)
          | exact hC.zero hc40
      refine lv_iconst (v := iz 1) hx hb d_Mo_fix_43 rfl ?_
      refine lv_goto (tgt := 48) hx hb d_Mo_fix_44 rfl ?_
      refine lv_istore hx hb d_Mo_fix_48 hl (by decide) rfl (fun ls hl => ?_)
      have hl : lv_has ls 10 [(6, .int (iz 1)), (0, .ref mo), (1, .ref ex), (2, .int (iz (cn : Int))), (3, .int (iz gr)), (4, .int (iz pt))] := hl
      refine lv_iload hx hb d_Mo_fix_50 (lv_at hl 0 rfl) ?_
      refine z_if_ne (tgt := 66) hx hb d_Mo_fix_52 rfl ⟨by omega, by omega⟩ (fun hc52 => ?_) (fun hc52 => ?_)
      · refine lv_iconst (v := iz 0) hx hb d_Mo_fix_66 rfl ?_
        refine lv_goto (tgt := 77) hx hb d_Mo_fix_67 rfl ?_
        refine lv_istore hx hb d_Mo_fix_77 hl (by decide) rfl (fun ls hl => ?_)
        have hl : lv_has ls 10 [(7, .int (iz 0)), (6, .int (iz 1)), (0, .ref mo), (1, .ref ex), (2, .int (iz (cn : Int))), (3, .int (iz gr)), (4, .int (iz pt))] := hl
        exact L79 1 0 _ _ _ hw hS (lv_sub hl [2, 4, 5, 6, 1, 0] rfl) (by first | exact Or.inl ⟨rfl, hC0, rfl⟩ | exact Or.inr ⟨rfl, hCne, by omega⟩)
      · exfalso
        omega
    · refine lv_aload_n hx hb d_Mo_fix_33 rfl (lv_at hl 0 rfl) ?_
      refine va_get (D := D) (ci := 3) (v := .ref cu) (C := R_3) (T := T_3) (N := 11) hx hb hts in_3 hown hK hP 0 rfl rfl 10 (by decide) (hts _ tw_402) (fun _ h9 => h9) rfl d_Mo_fix_34 ?_
      refine va_get (D := D) (ci := 4) (v := .int (iz nc)) (C := R_4) (T := T_4) (N := 3) hx hb hts in_4 hown hK hP 6 rfl rfl 1 (by decide) (hts _ tw_383) (fun _ h9 => h9) rfl d_Mo_fix_37 ?_
      refine z_if_ne (tgt := 47) hx hb d_Mo_fix_40 rfl ⟨by omega, by omega⟩ (fun hc40 => ?_) (fun hc40 => ?_)
      · have hCne : Cx ≠ 0 := fun q => by
          have h8 := hC.ld (by omega)
          omega
        have hpl := hC.leadv (by omega)
        refine lv_iconst (v := iz 0) hx hb d_Mo_fix_47 rfl ?_
        refine lv_istore hx hb d_Mo_fix_48 hl (by decide) rfl (fun ls hl => ?_)
        have hl : lv_has ls 10 [(6, .int (iz 0)), (0, .ref mo), (1, .ref ex), (2, .int (iz (cn : Int))), (3, .int (iz gr)), (4, .int (iz pt))] := hl
        refine lv_iload hx hb d_Mo_fix_50 (lv_at hl 0 rfl) ?_
        refine z_if_ne (tgt := 66) hx hb d_Mo_fix_52 rfl ⟨by omega, by omega⟩ (fun hc52 => ?_) (fun hc52 => ?_)
        · exfalso
          omega
        · refine lv_aload_n hx hb d_Mo_fix_55 rfl (lv_at hl 1 rfl) ?_
          refine va_get (D := D) (ci := 3) (v := .ref cu) (C := R_3) (T := T_3) (N := 11) hx hb hts in_3 hown hK hP 0 rfl rfl 10 (by decide) (hts _ tw_402) (fun _ h9 => h9) rfl d_Mo_fix_56 ?_
          refine va_get (D := D) (ci := 4) (v := .int (iz pp)) (C := R_4) (T := T_4) (N := 3) hx hb hts in_4 hown hK hP 6 rfl rfl 2 (by decide) (hts _ tw_384) (fun _ h9 => h9) rfl d_Mo_fix_59 ?_
          refine lv_iconst (v := iz 1) hx hb d_Mo_fix_62 rfl ?_
          refine z_icmp_ge (tgt := 70) hx hb d_Mo_fix_63 rfl ⟨by omega, by omega⟩ ⟨by omega, by omega⟩ (fun hc63 => ?_) (fun hc63 => ?_)
          · refine lv_aload_n hx hb d_Mo_fix_70 rfl (lv_at hl 1 rfl) ?_
            refine va_get (D := D) (ci := 3) (v := .ref cu) (C := R_3) (T := T_3) (N := 11) hx hb hts in_3 hown hK hP 0 rfl rfl 10 (by decide) (hts _ tw_402) (fun _ h9 => h9) rfl d_Mo_fix_71 ?_
            refine va_get (D := D) (ci := 4) (v := .int (iz pp)) (C := R_4) (T := T_4) (N := 3) hx hb hts in_4 hown hK hP 6 rfl rfl 2 (by decide) (hts _ tw_384) (fun _ h9 => h9) rfl d_Mo_fix_74 ?_
            refine lv_istore hx hb d_Mo_fix_77 hl (by decide) rfl (fun ls hl => ?_)
            have hl : lv_has ls 10 [(7, .int (iz pp)), (6, .int (iz 0)), (0, .ref mo), (1, .ref ex), (2, .int (iz (cn : Int))), (3, .int (iz gr)), (4, .int (iz pt))] := hl
            exact L79 0 pp _ _ _ hw hS (lv_sub hl [2, 4, 5, 6, 1, 0] rfl) (by first | exact Or.inl ⟨rfl, hC0, rfl⟩ | exact Or.inr ⟨rfl, hCne, by omega⟩)
          · refine lv_iconst (v := iz 0) hx hb d_Mo_fix_66 rfl ?_
            refine lv_goto (tgt := 77) hx hb d_Mo_fix_67 rfl ?_
            refine lv_istore hx hb d_Mo_fix_77 hl (by decide) rfl (fun ls hl => ?_)
            have hl : lv_has ls 10 [(7, .int (iz 0)), (6, .int (iz 0)), (0, .ref mo), (1, .ref ex), (2, .int (iz (cn : Int))), (3, .int (iz gr)), (4, .int (iz pt))] := hl
            exact L79 0 0 _ _ _ hw hS (lv_sub hl [2, 4, 5, 6, 1, 0] rfl) (by first | exact Or.inl ⟨rfl, hC0, rfl⟩ | exact Or.inr ⟨rfl, hCne, by omega⟩)
      · have hC0 : Cx = 0 := by
          first
            | (rw [hCx, hE.zero hc30]; exact rnd_0 _)
            | exact hC.zero hc40
        refine lv_iconst (v := iz 1) hx hb d_Mo_fix_43 rfl ?_
        refine lv_goto (tgt := 48) hx hb d_Mo_fix_44 rfl ?_
        refine lv_istore hx hb d_Mo_fix_48 hl (by decide) rfl (fun ls hl => ?_)
        have hl : lv_has ls 10 [(6, .int (iz 1)), (0, .ref mo), (1, .ref ex), (2, .int (iz (cn : Int))), (3, .int (iz gr)), (4, .int (iz pt))] := hl
        refine lv_iload hx hb d_Mo_fix_50 (lv_at hl 0 rfl) ?_
        refine z_if_ne (tgt := 66) hx hb d_Mo_fix_52 rfl ⟨by omega, by omega⟩ (fun hc52 => ?_) (fun hc52 => ?_)
        · refine lv_iconst (v := iz 0) hx hb d_Mo_fix_66 rfl ?_
          refine lv_goto (tgt := 77) hx hb d_Mo_fix_67 rfl ?_
          refine lv_istore hx hb d_Mo_fix_77 hl (by decide) rfl (fun ls hl => ?_)
          have hl : lv_has ls 10 [(7, .int (iz 0)), (6, .int (iz 1)), (0, .ref mo), (1, .ref ex), (2, .int (iz (cn : Int))), (3, .int (iz gr)), (4, .int (iz pt))] := hl
          exact L79 1 0 _ _ _ hw hS (lv_sub hl [2, 4, 5, 6, 1, 0] rfl) (by first | exact Or.inl ⟨rfl, hC0, rfl⟩ | exact Or.inr ⟨rfl, hCne, by omega⟩)
        · exfalso
          omega
  refine lv_aload_n hx hb d_Mo_fix_0 rfl (lv_at hl 1 rfl) ?_
  have hw9 := hw
  obtain ⟨fc, nc, pp, ⟨len, used, bl, fr, fb, lm, fe, ne, pe, ⟨hK, hP, hD⟩, hrt, hbt, hE, hpe, hlm⟩, hC⟩ := hw9
  have hr1 := hrt.1
  have hr2 := hrt.2.1
  have hb1 := hbt.1
  have hb2 := hbt.2.1
  have hE1 := hE.1
  have hC1 := hC.1
  have hP : va_P D vwCl [(mo, .inr (3, [.ref rs, .int (iz len), .int (iz co), .ref ex, .int (iz bi), .int (iz le), .ref li, .int (iz used), .ref bo, .int (iz bl), .ref cu])), (rs, .inl (cB, 4096, .inl (az fr))), (ex, .inr (4, [.ref xd, .int (iz ne), .int (iz pe)])), (xd, .inl (cB, 1300, .inl (az fe))), (li, .inl (cL, 160, .inr (.inl (azl lm)))), (bo, .inl (cB, 4096, .inl (az fb))), (cu, .inr (4, [.ref cd, .int (iz nc), .int (iz pp)])), (cd, .inl (cB, 1300, .inl (az fc)))] H := hP
  have hD : va_D (AM mo rs ex xd li bo cu cd) [(mo, .inr (3, [.ref rs, .int (iz len), .int (iz co), .ref ex, .int (iz bi), .int (iz le), .ref li, .int (iz used), .ref bo, .int (iz bl), .ref cu])), (rs, .inl (cB, 4096, .inl (az fr))), (ex, .inr (4, [.ref xd, .int (iz ne), .int (iz pe)])), (xd, .inl (cB, 1300, .inl (az fe))), (li, .inl (cL, 160, .inr (.inl (azl lm)))), (bo, .inl (cB, 4096, .inl (az fb))), (cu, .inr (4, [.ref cd, .int (iz nc), .int (iz pp)])), (cd, .inl (cB, 1300, .inl (az fc)))] := hD
  refine va_get (D := D) (ci := 4) (v := .int (iz ne)) (C := R_4) (T := T_4) (N := 3) hx hb hts in_4 hown hK hP 2 rfl rfl 1 (by decide) (hts _ tw_383) (fun _ h9 => h9) rfl d_Mo_fix_1 ?_
  refine z_if_ne (tgt := 11) hx hb d_Mo_fix_4 rfl ⟨by omega, by omega⟩ (fun hc4 => ?_) (fun hc4 => ?_)
  · refine lv_aload_n hx hb d_Mo_fix_11 rfl (lv_at hl 1 rfl) ?_
    refine va_get (D := D) (ci := 4) (v := .int (iz pe)) (C := R_4) (T := T_4) (N := 3) hx hb hts in_4 hown hK hP 2 rfl rfl 2 (by decide) (hts _ tw_384) (fun _ h9 => h9) rfl d_Mo_fix_12 ?_
    refine lv_iload_n hx hb d_Mo_fix_15 rfl (lv_at hl 2 rfl) ?_
    refine z_iadd hx hb d_Mo_fix_16 ?_
    refine lv_istore hx hb d_Mo_fix_17 hl (by decide) rfl (fun ls hl => ?_)
    have hl : lv_has ls 10 [(5, .int (iz (pe + (cn : Int)))), (0, .ref mo), (1, .ref ex), (2, .int (iz (cn : Int))), (3, .int (iz gr)), (4, .int (iz pt))] := hl
    refine lv_aload_n hx hb d_Mo_fix_19 rfl (lv_at hl 1 rfl) ?_
    refine lv_aload_n hx hb d_Mo_fix_20 rfl (lv_at hl 2 rfl) ?_
    refine lv_iload hx hb d_Mo_fix_21 (lv_at hl 0 rfl) ?_
    have hct := c_Mo_round l D cB cL mo rs ex xd li bo cu cd co bi le rt bt V C (pe + (cn : Int)) ⟨by omega, by omega⟩
    refine z_go (va_runV (As := [.ref ex, .int (iz (pe + (cn : Int)))]) (rest := []) ⟨hx, hb, hml, hown, hts⟩ hct.2 (z_cwV hts w_Mo_rounded tw_508 (by decide)) (z_preV hct.1 (va_recv hK hP (ci := 3) (q0 := 0) rfl rfl) hw) rfl rfl hl.1 rfl (lv_room (Nat.le_of_ble_eq_true rfl)) d_Mo_fix_23 ⟨Nat.zero_le _, Nat.zero_le _⟩) hS (fun _ h9 => h9) (fun v9 t9 H locs hv9 hp9 hz9 hk9 hS => ?_)
    obtain ⟨rfl, hw⟩ := hp9
    have hw := MW.moved hv9.symm hw
    have e8 : rnd V (lead V + 1 - (pe + (cn : Int))) = Cx := by
      rw [hCx, hE.leadv (by omega), show pe - 1 + 1 - (pe + (cn : Int)) = -(cn : Int) by omega]
    rw [e8] at hw
    refine W.eq (g2 := F0 m 26 ls []) rfl ?_
    exact L26  _ _ _ hw hS (lv_sub hl [1, 2, 3, 4, 5] rfl) 
  · refine lv_iconst (v := iz 0) hx hb d_Mo_fix_7 rfl ?_
    refine lv_goto (tgt := 17) hx hb d_Mo_fix_8 rfl ?_
    refine lv_istore hx hb d_Mo_fix_17 hl (by decide) rfl (fun ls hl => ?_)
    have hl : lv_has ls 10 [(5, .int (iz 0)), (0, .ref mo), (1, .ref ex), (2, .int (iz (cn : Int))), (3, .int (iz gr)), (4, .int (iz pt))] := hl
    refine lv_aload_n hx hb d_Mo_fix_19 rfl (lv_at hl 1 rfl) ?_
    refine lv_aload_n hx hb d_Mo_fix_20 rfl (lv_at hl 2 rfl) ?_
    refine lv_iload hx hb d_Mo_fix_21 (lv_at hl 0 rfl) ?_
    have hct := c_Mo_round l D cB cL mo rs ex xd li bo cu cd co bi le rt bt V C (0) ⟨by omega, by omega⟩
    refine z_go (va_runV (As := [.ref ex, .int (iz 0)]) (rest := []) ⟨hx, hb, hml, hown, hts⟩ hct.2 (z_cwV hts w_Mo_rounded tw_508 (by decide)) (z_preV hct.1 (va_recv hK hP (ci := 3) (q0 := 0) rfl rfl) hw) rfl rfl hl.1 rfl (lv_room (Nat.le_of_ble_eq_true rfl)) d_Mo_fix_23 ⟨Nat.zero_le _, Nat.zero_le _⟩) hS (fun _ h9 => h9) (fun v9 t9 H locs hv9 hp9 hz9 hk9 hS => ?_)
    obtain ⟨rfl, hw⟩ := hp9
    have hw := MW.moved hv9.symm hw
    have e8 : rnd V (lead V + 1 - 0) = Cx := by
      rw [hCx, hE.zero hc4, rnd_0, rnd_0]
    rw [e8] at hw
    refine W.eq (g2 := F0 m 26 ls []) rfl ?_
    exact L26  _ _ _ hw hS (lv_sub hl [1, 2, 3, 4, 5] rfl) 
