theorem d_Mo_shown24_0 : decode b_Mo_shown 0 = .ok (.aload_n 0, 1) := by decide +kernel
theorem d_Mo_shown24_1 : decode b_Mo_shown 1 = .ok (.iload_n 1, 1) := by decide +kernel
theorem d_Mo_shown24_2 : decode b_Mo_shown 2 = .ok (.ifCond .lt (23), 3) := by decide +kernel
theorem d_Mo_shown24_5 : decode b_Mo_shown 5 = .ok (.iload_n 1, 1) := by decide +kernel
theorem d_Mo_shown24_6 : decode b_Mo_shown 6 = .ok (.iconst 2, 1) := by decide +kernel
theorem d_Mo_shown24_7 : decode b_Mo_shown 7 = .ok (.if_icmp .gt (18), 3) := by decide +kernel
theorem d_Mo_shown24_10 : decode b_Mo_shown 10 = .ok (.iload_n 2, 1) := by decide +kernel
theorem d_Mo_shown24_11 : decode b_Mo_shown 11 = .ok (.ifCond .lt (14), 3) := by decide +kernel
theorem d_Mo_shown24_14 : decode b_Mo_shown 14 = .ok (.iload_n 2, 1) := by decide +kernel
theorem d_Mo_shown24_15 : decode b_Mo_shown 15 = .ok (.sipush (1200), 3) := by decide +kernel
theorem d_Mo_shown24_18 : decode b_Mo_shown 18 = .ok (.if_icmp .gt (7), 3) := by decide +kernel
theorem d_Mo_shown24_21 : decode b_Mo_shown 21 = .ok (.iconst 1, 1) := by decide +kernel
theorem d_Mo_shown24_22 : decode b_Mo_shown 22 = .ok (.goto (4), 3) := by decide +kernel
theorem d_Mo_shown24_26 : decode b_Mo_shown 26 = .ok (.iconst 1, 1) := by decide +kernel
theorem d_Mo_shown24_27 : decode b_Mo_shown 27 = .ok (.invokevirtual 37, 3) := by decide +kernel
theorem d_Mo_shown24_30 : decode b_Mo_shown 30 = .ok (.ifCond .ne (5), 3) := by decide +kernel
theorem d_Mo_shown24_35 : decode b_Mo_shown 35 = .ok (.lload 5, 2) := by decide +kernel
theorem d_Mo_shown24_37 : decode b_Mo_shown 37 = .ok (.aload_n 0, 1) := by decide +kernel
theorem d_Mo_shown24_38 : decode b_Mo_shown 38 = .ok (.invokevirtual 119, 3) := by decide +kernel
theorem d_Mo_shown24_41 : decode b_Mo_shown 41 = .ok (.ldc2_w 122, 3) := by decide +kernel
theorem d_Mo_shown24_44 : decode b_Mo_shown 44 = .ok (.lxor, 1) := by decide +kernel
theorem d_Mo_shown24_45 : decode b_Mo_shown 45 = .ok (.land, 1) := by decide +kernel
theorem d_Mo_shown24_46 : decode b_Mo_shown 46 = .ok (.aload_n 0, 1) := by decide +kernel
theorem d_Mo_shown24_47 : decode b_Mo_shown 47 = .ok (.getfield 43, 3) := by decide +kernel
theorem d_Mo_shown24_50 : decode b_Mo_shown 50 = .ok (.bipush (53), 2) := by decide +kernel
theorem d_Mo_shown24_52 : decode b_Mo_shown 52 = .ok (.if_icmp .ne (9), 3) := by decide +kernel
theorem d_Mo_shown24_61 : decode b_Mo_shown 61 = .ok (.ldc2_w 124, 3) := by decide +kernel
theorem d_Mo_shown24_64 : decode b_Mo_shown 64 = .ok (.land, 1) := by decide +kernel
theorem d_Mo_shown24_65 : decode b_Mo_shown 65 = .ok (.lstore 7, 2) := by decide +kernel
theorem d_Mo_shown24_67 : decode b_Mo_shown 67 = .ok (.aload_n 0, 1) := by decide +kernel
theorem d_Mo_shown24_68 : decode b_Mo_shown 68 = .ok (.iconst 0, 1) := by decide +kernel
theorem d_Mo_shown24_69 : decode b_Mo_shown 69 = .ok (.putfield 92, 3) := by decide +kernel
theorem d_Mo_shown24_72 : decode b_Mo_shown 72 = .ok (.lload 7, 2) := by decide +kernel
theorem d_Mo_shown24_74 : decode b_Mo_shown 74 = .ok (.aload_n 0, 1) := by decide +kernel
theorem d_Mo_shown24_75 : decode b_Mo_shown 75 = .ok (.invokevirtual 57, 3) := by decide +kernel
theorem d_Mo_shown24_78 : decode b_Mo_shown 78 = .ok (.lcmp, 1) := by decide +kernel
theorem d_Mo_shown24_79 : decode b_Mo_shown 79 = .ok (.ifCond .lt (54), 3) := by decide +kernel
theorem d_Mo_shown24_82 : decode b_Mo_shown 82 = .ok (.aload_n 0, 1) := by decide +kernel
theorem d_Mo_shown24_83 : decode b_Mo_shown 83 = .ok (.lload 7, 2) := by decide +kernel
theorem d_Mo_shown24_85 : decode b_Mo_shown 85 = .ok (.invokevirtual 126, 3) := by decide +kernel
theorem d_Mo_shown24_88 : decode b_Mo_shown 88 = .ok (.ifCond .eq (8), 3) := by decide +kernel
theorem d_Mo_shown24_91 : decode b_Mo_shown 91 = .ok (.ldc 130, 2) := by decide +kernel
theorem d_Mo_shown24_93 : decode b_Mo_shown 93 = .ok (.goto (5), 3) := by decide +kernel
theorem d_Mo_shown24_96 : decode b_Mo_shown 96 = .ok (.ldc 132, 2) := by decide +kernel
theorem d_Mo_shown24_98 : decode b_Mo_shown 98 = .ok (.astore 9, 2) := by decide +kernel
theorem d_Mo_shown24_100 : decode b_Mo_shown 100 = .ok (.iconst 0, 1) := by decide +kernel
theorem d_Mo_shown24_101 : decode b_Mo_shown 101 = .ok (.istore 10, 2) := by decide +kernel
theorem d_Mo_shown24_103 : decode b_Mo_shown 103 = .ok (.iload 10, 2) := by decide +kernel
theorem d_Mo_shown24_105 : decode b_Mo_shown 105 = .ok (.aload 9, 2) := by decide +kernel
theorem d_Mo_shown24_107 : decode b_Mo_shown 107 = .ok (.invokevirtual 134, 3) := by decide +kernel
theorem d_Mo_shown24_110 : decode b_Mo_shown 110 = .ok (.if_icmp .ge (20), 3) := by decide +kernel
theorem d_Mo_shown24_113 : decode b_Mo_shown 113 = .ok (.aload_n 0, 1) := by decide +kernel
theorem d_Mo_shown24_114 : decode b_Mo_shown 114 = .ok (.aload 9, 2) := by decide +kernel
theorem d_Mo_shown24_116 : decode b_Mo_shown 116 = .ok (.iload 10, 2) := by decide +kernel
theorem d_Mo_shown24_118 : decode b_Mo_shown 118 = .ok (.invokevirtual 139, 3) := by decide +kernel
theorem d_Mo_shown24_121 : decode b_Mo_shown 121 = .ok (.invokevirtual 107, 3) := by decide +kernel
theorem d_Mo_shown24_124 : decode b_Mo_shown 124 = .ok (.iinc 10 (1), 3) := by decide +kernel
theorem d_Mo_shown24_127 : decode b_Mo_shown 127 = .ok (.goto (-24), 3) := by decide +kernel
theorem d_Mo_shown24_130 : decode b_Mo_shown 130 = .ok (.goto (71), 3) := by decide +kernel
theorem d_Mo_shown24_133 : decode b_Mo_shown 133 = .ok (.aload_n 0, 1) := by decide +kernel
theorem d_Mo_shown24_134 : decode b_Mo_shown 134 = .ok (.aload_n 0, 1) := by decide +kernel
theorem d_Mo_shown24_135 : decode b_Mo_shown 135 = .ok (.lload 7, 2) := by decide +kernel
theorem d_Mo_shown24_137 : decode b_Mo_shown 137 = .ok (.invokevirtual 143, 3) := by decide +kernel
theorem d_Mo_shown24_140 : decode b_Mo_shown 140 = .ok (.aload_n 0, 1) := by decide +kernel
theorem d_Mo_shown24_141 : decode b_Mo_shown 141 = .ok (.lload 7, 2) := by decide +kernel
theorem d_Mo_shown24_143 : decode b_Mo_shown 143 = .ok (.invokevirtual 147, 3) := by decide +kernel
theorem d_Mo_shown24_146 : decode b_Mo_shown 146 = .ok (.aload_n 0, 1) := by decide +kernel
theorem d_Mo_shown24_147 : decode b_Mo_shown 147 = .ok (.getfield 16, 3) := by decide +kernel
theorem d_Mo_shown24_150 : decode b_Mo_shown 150 = .ok (.invokevirtual 151, 3) := by decide +kernel
theorem d_Mo_shown24_153 : decode b_Mo_shown 153 = .ok (.iload_n 1, 1) := by decide +kernel
theorem d_Mo_shown24_154 : decode b_Mo_shown 154 = .ok (.ifCond .ne (17), 3) := by decide +kernel
theorem d_Mo_shown24_157 : decode b_Mo_shown 157 = .ok (.aload_n 0, 1) := by decide +kernel
theorem d_Mo_shown24_158 : decode b_Mo_shown 158 = .ok (.aload_n 0, 1) := by decide +kernel
theorem d_Mo_shown24_159 : decode b_Mo_shown 159 = .ok (.getfield 16, 3) := by decide +kernel
theorem d_Mo_shown24_162 : decode b_Mo_shown 162 = .ok (.iload_n 2, 1) := by decide +kernel
theorem d_Mo_shown24_163 : decode b_Mo_shown 163 = .ok (.iload 4, 2) := by decide +kernel
theorem d_Mo_shown24_165 : decode b_Mo_shown 165 = .ok (.invokevirtual 115, 3) := by decide +kernel
theorem d_Mo_shown24_168 : decode b_Mo_shown 168 = .ok (.goto (33), 3) := by decide +kernel
theorem d_Mo_shown24_171 : decode b_Mo_shown 171 = .ok (.iload_n 1, 1) := by decide +kernel
theorem d_Mo_shown24_172 : decode b_Mo_shown 172 = .ok (.iconst 1, 1) := by decide +kernel
theorem d_Mo_shown24_173 : decode b_Mo_shown 173 = .ok (.if_icmp .ne (18), 3) := by decide +kernel
theorem d_Mo_shown24_176 : decode b_Mo_shown 176 = .ok (.aload_n 0, 1) := by decide +kernel
theorem d_Mo_shown24_177 : decode b_Mo_shown 177 = .ok (.aload_n 0, 1) := by decide +kernel
theorem d_Mo_shown24_178 : decode b_Mo_shown 178 = .ok (.getfield 16, 3) := by decide +kernel
theorem d_Mo_shown24_181 : decode b_Mo_shown 181 = .ok (.iload_n 2, 1) := by decide +kernel
theorem d_Mo_shown24_182 : decode b_Mo_shown 182 = .ok (.iload_n 3, 1) := by decide +kernel
theorem d_Mo_shown24_183 : decode b_Mo_shown 183 = .ok (.iload 4, 2) := by decide +kernel
theorem d_Mo_shown24_185 : decode b_Mo_shown 185 = .ok (.invokevirtual 111, 3) := by decide +kernel
theorem d_Mo_shown24_188 : decode b_Mo_shown 188 = .ok (.goto (13), 3) := by decide +kernel
theorem d_Mo_shown24_191 : decode b_Mo_shown 191 = .ok (.aload_n 0, 1) := by decide +kernel
theorem d_Mo_shown24_192 : decode b_Mo_shown 192 = .ok (.aload_n 0, 1) := by decide +kernel
theorem d_Mo_shown24_193 : decode b_Mo_shown 193 = .ok (.getfield 16, 3) := by decide +kernel
theorem d_Mo_shown24_196 : decode b_Mo_shown 196 = .ok (.iload_n 2, 1) := by decide +kernel
theorem d_Mo_shown24_197 : decode b_Mo_shown 197 = .ok (.iload_n 3, 1) := by decide +kernel
theorem d_Mo_shown24_198 : decode b_Mo_shown 198 = .ok (.invokevirtual 155, 3) := by decide +kernel
theorem d_Mo_shown24_201 : decode b_Mo_shown 201 = .ok (.aload_n 0, 1) := by decide +kernel
theorem d_Mo_shown24_202 : decode b_Mo_shown 202 = .ok (.aload_n 0, 1) := by decide +kernel
theorem d_Mo_shown24_203 : decode b_Mo_shown 203 = .ok (.getfield 92, 3) := by decide +kernel
theorem d_Mo_shown24_206 : decode b_Mo_shown 206 = .ok (.putfield 34, 3) := by decide +kernel
theorem d_Mo_shown24_209 : decode b_Mo_shown 209 = .ok (.iconst 0, 1) := by decide +kernel
theorem d_Mo_shown24_210 : decode b_Mo_shown 210 = .ok (.istore 9, 2) := by decide +kernel
theorem d_Mo_shown24_212 : decode b_Mo_shown 212 = .ok (.iload 9, 2) := by decide +kernel
theorem d_Mo_shown24_214 : decode b_Mo_shown 214 = .ok (.aload_n 0, 1) := by decide +kernel
theorem d_Mo_shown24_215 : decode b_Mo_shown 215 = .ok (.getfield 34, 3) := by decide +kernel
theorem d_Mo_shown24_218 : decode b_Mo_shown 218 = .ok (.if_icmp .ge (23), 3) := by decide +kernel
theorem d_Mo_shown24_221 : decode b_Mo_shown 221 = .ok (.aload_n 0, 1) := by decide +kernel
theorem d_Mo_shown24_222 : decode b_Mo_shown 222 = .ok (.getfield 7, 3) := by decide +kernel
theorem d_Mo_shown24_225 : decode b_Mo_shown 225 = .ok (.iload 9, 2) := by decide +kernel
theorem d_Mo_shown24_227 : decode b_Mo_shown 227 = .ok (.aload_n 0, 1) := by decide +kernel
theorem d_Mo_shown24_228 : decode b_Mo_shown 228 = .ok (.getfield 24, 3) := by decide +kernel
theorem d_Mo_shown24_231 : decode b_Mo_shown 231 = .ok (.iload 9, 2) := by decide +kernel
theorem d_Mo_shown24_233 : decode b_Mo_shown 233 = .ok (.baload, 1) := by decide +kernel
theorem d_Mo_shown24_234 : decode b_Mo_shown 234 = .ok (.bastore, 1) := by decide +kernel
theorem d_Mo_shown24_235 : decode b_Mo_shown 235 = .ok (.iinc 9 (1), 3) := by decide +kernel
theorem d_Mo_shown24_238 : decode b_Mo_shown 238 = .ok (.goto (-26), 3) := by decide +kernel
theorem d_Mo_shown24_241 : decode b_Mo_shown 241 = .ok (.aload_n 0, 1) := by decide +kernel
theorem d_Mo_shown24_242 : decode b_Mo_shown 242 = .ok (.getfield 34, 3) := by decide +kernel
theorem d_Mo_shown24_245 : decode b_Mo_shown 245 = .ok (.ireturn, 1) := by decide +kernel
set_option maxHeartbeats 4000000 in
set_option maxRecDepth 100000 in
theorem c_Mo_shown24 (l : Launch) (D : va_G) (cB cL : ClassId) (mo rs ex xd li bo cu cd : Nat) (co : Int) (rt bt : List Int) (V C : Int) (kI vI kN vN : Nat) (kd : Int) (pr : Nat) (gr pt : Int) (B : Int64) (hkd : 0 ≤ kd ∧ kd ≤ 2) (hpr : pr ≤ 1200) (hgr : gr = 0 ∨ gr = 1) (hpt : pt = 0 ∨ pt = 1) : Ct l y_Mo_shown (ws_Mo_shown) 4 (AM mo rs ex xd li bo cu cd) [.ref mo, .int (iz kd), .int (iz (pr : Int)), .int (iz gr), .int (iz pt), .long B] (fun U H => MW D cB cL mo rs ex xd li bo cu cd co 24 (-149) rt bt V C U H ∧ SMo (AM mo rs ex xd li bo cu cd) kI vI kN vN U H) (zR (some (.int (iz ((outT 23 255 (-149) kd pr gr pt B).length : Int)))) (MR D cB cL mo rs ex xd li bo cu cd 0 (outT 23 255 (-149) kd pr gr pt B))) := by
  refine z_body (zSt_and zSt_MW zSt_SMo) (by decide +kernel) rfl (Nat.le_of_ble_eq_true rfl) ?_
  intro p e s m args below meth c ls hx hb hml hr hlk hts0 hown hpre0 H locs hpre hS hl
  have hts : ∀ w ∈ TBL, w.before args s = true := fun w hw => hts0 w (List.mem_cons_of_mem _ hw)
  have hl : lv_has ls 11 [(0, .ref mo), (1, .int (iz kd)), (2, .int (iz (pr : Int))), (3, .int (iz gr)), (4, .int (iz pt)), (5, .long B)] := hl
  have hw := hpre.1
  have hsx := hpre0.2
  obtain ⟨Vw, hVw⟩ : ∃ v, v = Wd (cfB 23 256 B) (-149 + max (exB 23 256 B - 1) 0) := ⟨_, rfl⟩
  obtain ⟨sz, hsz⟩ : ∃ v : Int, v = ((uN B % 2 ^ 31 : Nat) : Int) := ⟨_, rfl⟩
  have hs8 := sz_24 hsz
  have hxr := exB_r 23 256 (by decide) B
  have hfr := frB_lt 23 B
  have L212 : ∀ (N212 : Nat) (h : Int → Int) (i : Int) (used2 : Int) (bl2 : Int) (fb2 : Int → Int) (lm2 : Int → Int) (fe2 : Int → Int) (ne2 : Int) (pe2 : Int) (fc2 : Int → Int) (nc2 : Int) (pp2 : Int) (V2 : Int) (C2 : Int) (H : Heap) (locs : List Loc) (ls : Array Slot), va_P D vwCl [(mo, .inr (3, [.ref rs, .int (iz bl2), .int (iz 0), .ref ex, .int (iz 24), .int (iz (-149)), .ref li, .int (iz used2), .ref bo, .int (iz bl2), .ref cu])), (rs, .inl (cB, 4096, .inl (az h))), (ex, .inr (4, [.ref xd, .int (iz ne2), .int (iz pe2)])), (xd, .inl (cB, 1300, .inl (az fe2))), (li, .inl (cL, 160, .inr (.inl (azl lm2)))), (bo, .inl (cB, 4096, .inl (az fb2))), (cu, .inr (4, [.ref cd, .int (iz nc2), .int (iz pp2)])), (cd, .inl (cB, 1300, .inl (az fc2)))] H → va_D (AM mo rs ex xd li bo cu cd) [(mo, .inr (3, [.ref rs, .int (iz bl2), .int (iz 0), .ref ex, .int (iz 24), .int (iz (-149)), .ref li, .int (iz used2), .ref bo, .int (iz bl2), .ref cu])), (rs, .inl (cB, 4096, .inl (az h))), (ex, .inr (4, [.ref xd, .int (iz ne2), .int (iz pe2)])), (xd, .inl (cB, 1300, .inl (az fe2))), (li, .inl (cL, 160, .inr (.inl (azl lm2)))), (bo, .inl (cB, 4096, .inl (az fb2))), (cu, .inr (4, [.ref cd, .int (iz nc2), .int (iz pp2)])), (cd, .inl (cB, 1300, .inl (az fc2)))] → va_S (AM mo rs ex xd li bo cu cd) s.heap H locs → lv_has ls 11 [(0, .ref mo), (9, .int (iz i))] → (va_K D vwCl (tysM cB cL) s) → (TxM fb2 bl2 (outT 23 255 (-149) kd pr gr pt B)) → (RowOK fe2 ne2 pe2 V2) → (-1400 ≤ pe2 ∧ pe2 ≤ 1400) → (∀ j, 0 ≤ lm2 j ∧ lm2 j < 1000000000) → (RowOK fc2 nc2 pp2 C2) → (0 ≤ i ∧ i ≤ bl2) → (∀ j, 0 ≤ j → j < i → h j = fb2 j) → (bl2 - i).toNat < N212 → W p l e (zrm 4) s m args below meth c H locs 0 0 (MQ below (zQ (AM mo rs ex xd li bo cu cd) (zR (some (.int (iz ((outT 23 255 (-149) kd pr gr pt B).length : Int)))) (MR D cB cL mo rs ex xd li bo cu cd 0 (outT 23 255 (-149) kd pr gr pt B)))) args s 0 0 (AM mo rs ex xd li bo cu cd)) (F0 m 212 ls []) := by
    intro N212
    induction N212 with
    | zero => intro h i used2 bl2 fb2 lm2 fe2 ne2 pe2 fc2 nc2 pp2 V2 C2 H locs ls hP hD hS hl hK hbt hE hpe hlm hC hi hh hN212; exact absurd hN212 (Nat.not_lt_zero _)
    | succ N212 ih212 =>
      intro h i used2 bl2 fb2 lm2 fe2 ne2 pe2 fc2 nc2 pp2 V2 C2 H locs ls hP hD hS hl hK hbt hE hpe hlm hC hi hh hN212
      have hb1 := hbt.1
      have hb2 := hbt.2.1
      refine lv_iload hx hb d_Mo_shown24_212 (lv_at hl 1 rfl) ?_
      refine lv_aload_n hx hb d_Mo_shown24_214 rfl (lv_at hl 0 rfl) ?_
      refine va_get (D := D) (ci := 3) (v := .int (iz bl2)) (C := R_3) (T := T_3) (N := 11) hx hb hts in_3 hown hK hP 0 rfl rfl 1 (by decide) (hts _ tw_393) (fun _ h9 => h9) rfl d_Mo_shown24_215 ?_
      refine z_icmp_ge (tgt := 241) hx hb d_Mo_shown24_218 rfl ⟨by omega, by omega⟩ ⟨by omega, by omega⟩ (fun hc218 => ?_) (fun hc218 => ?_)
      · refine lv_aload_n hx hb d_Mo_shown24_241 rfl (lv_at hl 0 rfl) ?_
        refine va_get (D := D) (ci := 3) (v := .int (iz bl2)) (C := R_3) (T := T_3) (N := 11) hx hb hts in_3 hown hK hP 0 rfl rfl 1 (by decide) (hts _ tw_393) (fun _ h9 => h9) rfl d_Mo_shown24_242 ?_
        exact z_iret hx hb hr hlk hS (zR_st zSt_MR) ⟨by rw [hbt.1], _, _, _, _, _, _, _, _, ⟨_, _, _, _, _, _, _, _, _, ⟨hK, hP, hD⟩, TxM_copy hbt (fun j q1 q2 => hh j q1 (by omega)), hbt, hE, hpe, hlm⟩, hC⟩ d_Mo_shown24_245
      · have hbb := TxM_b hbt hi.1 (by omega)
        refine lv_aload_n hx hb d_Mo_shown24_221 rfl (lv_at hl 0 rfl) ?_
        refine va_get (D := D) (ci := 3) (v := .ref rs) (C := R_3) (T := T_3) (N := 11) hx hb hts in_3 hown hK hP 0 rfl rfl 0 (by decide) (hts _ tw_392) (fun _ h9 => h9) rfl d_Mo_shown24_222 ?_
        refine lv_iload hx hb d_Mo_shown24_225 (lv_at hl 1 rfl) ?_
        refine lv_aload_n hx hb d_Mo_shown24_227 rfl (lv_at hl 0 rfl) ?_
        refine va_get (D := D) (ci := 3) (v := .ref bo) (C := R_3) (T := T_3) (N := 11) hx hb hts in_3 hown hK hP 0 rfl rfl 8 (by decide) (hts _ tw_400) (fun _ h9 => h9) rfl d_Mo_shown24_228 ?_
        refine lv_iload hx hb d_Mo_shown24_231 (lv_at hl 1 rfl) ?_
        refine z_bald hx hb hK hP 5 0 rfl rfl (by omega) (by omega) (by decide) d_Mo_shown24_233 ?_
        refine z_bast hx hb hK hP hD hS 1 0 rfl rfl (by omega) (by omega) (by decide) ⟨by omega, by omega⟩ d_Mo_shown24_234 (fun H locs hP hD hS => ?_)
        have hP : va_P D vwCl [(mo, .inr (3, [.ref rs, .int (iz bl2), .int (iz 0), .ref ex, .int (iz 24), .int (iz (-149)), .ref li, .int (iz used2), .ref bo, .int (iz bl2), .ref cu])), (rs, .inl (cB, 4096, .inl (az (up h i (fb2 i))))), (ex, .inr (4, [.ref xd, .int (iz ne2), .int (iz pe2)])), (xd, .inl (cB, 1300, .inl (az fe2))), (li, .inl (cL, 160, .inr (.inl (azl lm2)))), (bo, .inl (cB, 4096, .inl (az fb2))), (cu, .inr (4, [.ref cd, .int (iz nc2), .int (iz pp2)])), (cd, .inl (cB, 1300, .inl (az fc2)))] H := hP
        have hD : va_D (AM mo rs ex xd li bo cu cd) [(mo, .inr (3, [.ref rs, .int (iz bl2), .int (iz 0), .ref ex, .int (iz 24), .int (iz (-149)), .ref li, .int (iz used2), .ref bo, .int (iz bl2), .ref cu])), (rs, .inl (cB, 4096, .inl (az (up h i (fb2 i))))), (ex, .inr (4, [.ref xd, .int (iz ne2), .int (iz pe2)])), (xd, .inl (cB, 1300, .inl (az fe2))), (li, .inl (cL, 160, .inr (.inl (azl lm2)))), (bo, .inl (cB, 4096, .inl (az fb2))), (cu, .inr (4, [.ref cd, .int (iz nc2), .int (iz pp2)])), (cd, .inl (cB, 1300, .inl (az fc2)))] := hD
        refine lv_iinc (k := 1) (v := (iz (i + 1))) hx hb d_Mo_shown24_235 hl rfl (by show iz _ + iz (1) = _; rw [← iz_add]; try rfl) (by decide) rfl (fun ls hl => ?_)
        have hl : lv_has ls 11 [(9, .int (iz (i + 1))), (0, .ref mo)] := hl
        refine lv_goto (tgt := 212) hx hb d_Mo_shown24_238 rfl ?_
        exact ih212 (up h i (fb2 i)) (i + 1) used2 bl2 fb2 lm2 fe2 ne2 pe2 fc2 nc2 pp2 V2 C2 _ _ _ hP hD hS (lv_sub hl [1, 0] rfl) hK hbt hE hpe hlm hC ⟨by omega, by omega⟩ (fun j q1 q2 => by
              by_cases hq : j = i
              · rw [hq, up_s]
              · rw [up_n _ _ hq]; exact hh j q1 (by omega)) (by omega)
  have L201 : ∀ (V2 : Int) (C2 : Int) (H : Heap) (locs : List Loc) (ls : Array Slot), MW D cB cL mo rs ex xd li bo cu cd 0 24 (-149) rt (outT 23 255 (-149) kd pr gr pt B) V2 C2 s H → va_S (AM mo rs ex xd li bo cu cd) s.heap H locs → lv_has ls 11 [(0, .ref mo)] → W p l e (zrm 4) s m args below meth c H locs 0 0 (MQ below (zQ (AM mo rs ex xd li bo cu cd) (zR (some (.int (iz ((outT 23 255 (-149) kd pr gr pt B).length : Int)))) (MR D cB cL mo rs ex xd li bo cu cd 0 (outT 23 255 (-149) kd pr gr pt B)))) args s 0 0 (AM mo rs ex xd li bo cu cd)) (F0 m 201 ls []) := by
    intro V2 C2 H locs ls hw hS hl 
    refine lv_aload_n hx hb d_Mo_shown24_201 rfl (lv_at hl 0 rfl) ?_
    refine lv_aload_n hx hb d_Mo_shown24_202 rfl (lv_at hl 0 rfl) ?_
    have hw9 := hw
    obtain ⟨fc, nc, pp, ⟨len, used, bl, fr, fb, lm, fe, ne, pe, ⟨hK, hP, hD⟩, hrt, hbt, hE, hpe, hlm⟩, hC⟩ := hw9
    have hr1 := hrt.1
    have hr2 := hrt.2.1
    have hb1 := hbt.1
    have hb2 := hbt.2.1
    have hE1 := hE.1
    have hC1 := hC.1
    have hP : va_P D vwCl [(mo, .inr (3, [.ref rs, .int (iz len), .int (iz 0), .ref ex, .int (iz 24), .int (iz (-149)), .ref li, .int (iz used), .ref bo, .int (iz bl), .ref cu])), (rs, .inl (cB, 4096, .inl (az fr))), (ex, .inr (4, [.ref xd, .int (iz ne), .int (iz pe)])), (xd, .inl (cB, 1300, .inl (az fe))), (li, .inl (cL, 160, .inr (.inl (azl lm)))), (bo, .inl (cB, 4096, .inl (az fb))), (cu, .inr (4, [.ref cd, .int (iz nc), .int (iz pp)])), (cd, .inl (cB, 1300, .inl (az fc)))] H := hP
    have hD : va_D (AM mo rs ex xd li bo cu cd) [(mo, .inr (3, [.ref rs, .int (iz len), .int (iz 0), .ref ex, .int (iz 24), .int (iz (-149)), .ref li, .int (iz used), .ref bo, .int (iz bl), .ref cu])), (rs, .inl (cB, 4096, .inl (az fr))), (ex, .inr (4, [.ref xd, .int (iz ne), .int (iz pe)])), (xd, .inl (cB, 1300, .inl (az fe))), (li, .inl (cL, 160, .inr (.inl (azl lm)))), (bo, .inl (cB, 4096, .inl (az fb))), (cu, .inr (4, [.ref cd, .int (iz nc), .int (iz pp)])), (cd, .inl (cB, 1300, .inl (az fc)))] := hD
    refine va_get (D := D) (ci := 3) (v := .int (iz bl)) (C := R_3) (T := T_3) (N := 11) hx hb hts in_3 hown hK hP 0 rfl rfl 9 (by decide) (hts _ tw_401) (fun _ h9 => h9) rfl d_Mo_shown24_203 ?_
    refine va_put (D := D) (ci := 3) (v := .int (iz bl)) (ty := .int) (C := R_3) (T := T_3) (N := 11) hx hb hts in_3 ty_3 tyok_3 nm_3 hown hK hP hD hS 0 rfl rfl 1 (by decide) (hts _ tw_393) (fun _ h9 => h9) rfl (by decide +kernel) rfl rfl (Nat.le_of_ble_eq_true rfl) d_Mo_shown24_206 (fun H locs hP hD hS => ?_)
    have hP : va_P D vwCl [(mo, .inr (3, [.ref rs, .int (iz bl), .int (iz 0), .ref ex, .int (iz 24), .int (iz (-149)), .ref li, .int (iz used), .ref bo, .int (iz bl), .ref cu])), (rs, .inl (cB, 4096, .inl (az fr))), (ex, .inr (4, [.ref xd, .int (iz ne), .int (iz pe)])), (xd, .inl (cB, 1300, .inl (az fe))), (li, .inl (cL, 160, .inr (.inl (azl lm)))), (bo, .inl (cB, 4096, .inl (az fb))), (cu, .inr (4, [.ref cd, .int (iz nc), .int (iz pp)])), (cd, .inl (cB, 1300, .inl (az fc)))] H := hP
    have hD : va_D (AM mo rs ex xd li bo cu cd) [(mo, .inr (3, [.ref rs, .int (iz bl), .int (iz 0), .ref ex, .int (iz 24), .int (iz (-149)), .ref li, .int (iz used), .ref bo, .int (iz bl), .ref cu])), (rs, .inl (cB, 4096, .inl (az fr))), (ex, .inr (4, [.ref xd, .int (iz ne), .int (iz pe)])), (xd, .inl (cB, 1300, .inl (az fe))), (li, .inl (cL, 160, .inr (.inl (azl lm)))), (bo, .inl (cB, 4096, .inl (az fb))), (cu, .inr (4, [.ref cd, .int (iz nc), .int (iz pp)])), (cd, .inl (cB, 1300, .inl (az fc)))] := hD
    refine lv_iconst (v := iz 0) hx hb d_Mo_shown24_209 rfl ?_
    refine lv_istore hx hb d_Mo_shown24_210 hl (by decide) rfl (fun ls hl => ?_)
    have hl : lv_has ls 11 [(9, .int (iz 0)), (0, .ref mo)] := hl
    exact L212 _ fr 0 used bl fb lm fe ne pe fc nc pp V2 C2 _ _ _ hP hD hS (lv_sub hl [1, 0] rfl) hK hbt hE hpe hlm hC ⟨by omega, by omega⟩ (fun j q1 q2 => absurd q1 (by omega)) (Nat.lt_succ_self _)
  have L103 : ∀ (N103 : Nat) (sk : Nat) (sv : Nat) (bs : List Int) (j : Nat) (i : Int) (H : Heap) (locs : List Loc) (ls : Array Slot), MW D cB cL mo rs ex xd li bo cu cd 0 24 (-149) rt (bs.take j) V C s H → va_S (AM mo rs ex xd li bo cu cd) s.heap H locs → lv_has ls 11 [(0, .ref mo), (9, .ref sk), (10, .int (iz i))] → (SStr (AM mo rs ex xd li bo cu cd) sk sv bs s s.heap) → (bs.length ≤ 100 ∧ ∀ ch ∈ bs, 0 ≤ ch ∧ ch < 128) → (outT 23 255 (-149) kd pr gr pt B = bs) → (i = (j : Int) ∧ j ≤ bs.length) → bs.length - j < N103 → W p l e (zrm 4) s m args below meth c H locs 0 0 (MQ below (zQ (AM mo rs ex xd li bo cu cd) (zR (some (.int (iz ((outT 23 255 (-149) kd pr gr pt B).length : Int)))) (MR D cB cL mo rs ex xd li bo cu cd 0 (outT 23 255 (-149) kd pr gr pt B)))) args s 0 0 (AM mo rs ex xd li bo cu cd)) (F0 m 103 ls []) := by
    intro N103
    induction N103 with
    | zero => intro sk sv bs j i H locs ls hw hS hl hss hbs hO hj hN103; exact absurd hN103 (Nat.not_lt_zero _)
    | succ N103 ih103 =>
      intro sk sv bs j i H locs ls hw hS hl hss hbs hO hj hN103
      refine lv_iload hx hb d_Mo_shown24_103 (lv_at hl 2 rfl) ?_
      refine lv_aload hx hb d_Mo_shown24_105 (lv_at hl 1 rfl) ?_
      have hct := c_St_length l (AM mo rs ex xd li bo cu cd) (fun U H => MW D cB cL mo rs ex xd li bo cu cd 0 24 (-149) rt (bs.take j) V C U H ∧ SStr (AM mo rs ex xd li bo cu cd) sk sv bs U H) (zSa_and zSa_MW zSa_SStr) sk sv bs (fun U H h => h.2) hbs
      refine z_go (va_runV (As := []) (rest := [.int (iz i)]) ⟨hx, hb, hml, hown, hts⟩ hct.2 (z_cwV hts w_St_length tw_472 (by decide)) (z_preV hct.1 (by obtain ⟨cell, h1, h2, h3, -⟩ := hss.1.kept hS.2.1; exact ⟨cell, h1, h2, h3⟩) ⟨hw, hss.kept hS.2.1⟩) rfl rfl hl.1 rfl (lv_room (Nat.le_of_ble_eq_true rfl)) d_Mo_shown24_107 ⟨Nat.zero_le _, Nat.zero_le _⟩) hS (fun _ h9 => h9) (fun v9 t9 H locs hv9 hp9 hz9 hk9 hS => ?_)
      obtain ⟨rfl, hw, -⟩ := hp9
      have hw := MW.moved hv9.symm hw
      refine W.eq (g2 := F0 m 110 ls [.int (iz (bs.length : Int)), .int (iz i)]) rfl ?_
      refine z_icmp_ge (tgt := 130) hx hb d_Mo_shown24_110 rfl ⟨by omega, by omega⟩ ⟨by omega, by omega⟩ (fun hc110 => ?_) (fun hc110 => ?_)
      · refine lv_goto (tgt := 201) hx hb d_Mo_shown24_130 rfl ?_
        have hw : MW D cB cL mo rs ex xd li bo cu cd 0 24 (-149) rt (outT 23 255 (-149) kd pr gr pt B) V C s H := by
          rw [hO, ← List.take_length (l := bs), show bs.length = j by omega]
          exact hw
        exact L201 V C _ _ _ hw hS (lv_sub hl [0] rfl) 
      · refine lv_aload_n hx hb d_Mo_shown24_113 rfl (lv_at hl 0 rfl) ?_
        refine lv_aload hx hb d_Mo_shown24_114 (lv_at hl 1 rfl) ?_
        refine lv_iload hx hb d_Mo_shown24_116 (lv_at hl 2 rfl) ?_
        have hct := c_St_charAt l (AM mo rs ex xd li bo cu cd) (fun U H => MW D cB cL mo rs ex xd li bo cu cd 0 24 (-149) rt (bs.take j) V C U H ∧ SStr (AM mo rs ex xd li bo cu cd) sk sv bs U H) (zSa_and zSa_MW zSa_SStr) sk sv bs (fun U H h => h.2) hbs i ⟨by omega, by omega⟩
        refine z_go (va_runV (As := [.int (iz i)]) (rest := [.ref mo]) ⟨hx, hb, hml, hown, hts⟩ hct.2 (z_cwV hts w_St_charAt tw_473 (by decide)) (z_preV hct.1 (by obtain ⟨cell, h1, h2, h3, -⟩ := hss.1.kept hS.2.1; exact ⟨cell, h1, h2, h3⟩) ⟨hw, hss.kept hS.2.1⟩) rfl rfl hl.1 rfl (lv_room (Nat.le_of_ble_eq_true rfl)) d_Mo_shown24_118 ⟨Nat.zero_le _, Nat.zero_le _⟩) hS (fun _ h9 => h9) (fun v9 t9 H locs hv9 hp9 hz9 hk9 hS => ?_)
        obtain ⟨rfl, hw, -⟩ := hp9
        have hw := MW.moved hv9.symm hw
        refine W.eq (g2 := F0 m 121 ls [.int (iz (bs.getD i.toNat 0)), .ref mo]) rfl ?_
        have hct := c_Mo_add l D cB cL mo rs ex xd li bo cu cd 0 24 (-149) rt (bs.take j) V C (bs.getD i.toNat 0) (tx_getD hbs.2 _) (by rw [List.length_take]; omega)
        have hw9 := hw
        obtain ⟨fc, nc, pp, ⟨len, used, bl, fr, fb, lm, fe, ne, pe, ⟨hK, hP, hD⟩, hrt, hbt, hE, hpe, hlm⟩, hC⟩ := hw9
        have hr1 := hrt.1
        have hr2 := hrt.2.1
        have hb1 := hbt.1
        have hb2 := hbt.2.1
        have hE1 := hE.1
        have hC1 := hC.1
        have hP : va_P D vwCl [(mo, .inr (3, [.ref rs, .int (iz len), .int (iz 0), .ref ex, .int (iz 24), .int (iz (-149)), .ref li, .int (iz used), .ref bo, .int (iz bl), .ref cu])), (rs, .inl (cB, 4096, .inl (az fr))), (ex, .inr (4, [.ref xd, .int (iz ne), .int (iz pe)])), (xd, .inl (cB, 1300, .inl (az fe))), (li, .inl (cL, 160, .inr (.inl (azl lm)))), (bo, .inl (cB, 4096, .inl (az fb))), (cu, .inr (4, [.ref cd, .int (iz nc), .int (iz pp)])), (cd, .inl (cB, 1300, .inl (az fc)))] H := hP
        have hD : va_D (AM mo rs ex xd li bo cu cd) [(mo, .inr (3, [.ref rs, .int (iz len), .int (iz 0), .ref ex, .int (iz 24), .int (iz (-149)), .ref li, .int (iz used), .ref bo, .int (iz bl), .ref cu])), (rs, .inl (cB, 4096, .inl (az fr))), (ex, .inr (4, [.ref xd, .int (iz ne), .int (iz pe)])), (xd, .inl (cB, 1300, .inl (az fe))), (li, .inl (cL, 160, .inr (.inl (azl lm)))), (bo, .inl (cB, 4096, .inl (az fb))), (cu, .inr (4, [.ref cd, .int (iz nc), .int (iz pp)])), (cd, .inl (cB, 1300, .inl (az fc)))] := hD
        refine z_go (va_runV (As := [.int (iz (bs.getD i.toNat 0))]) (rest := []) ⟨hx, hb, hml, hown, hts⟩ hct.2 (z_cwV hts w_Mo_add tw_474 (by decide)) (z_preV hct.1 (va_recv hK hP (ci := 3) (q0 := 0) rfl rfl) hw) rfl rfl hl.1 rfl (lv_room (Nat.le_of_ble_eq_true rfl)) d_Mo_shown24_121 ⟨Nat.zero_le _, Nat.zero_le _⟩) hS (fun _ h9 => h9) (fun v9 t9 H locs hv9 hp9 hz9 hk9 hS => ?_)
        obtain ⟨rfl, hw⟩ := hp9
        have hw := MW.moved hv9.symm hw
        refine W.eq (g2 := F0 m 124 ls []) rfl ?_
        refine lv_iinc (k := 2) (v := (iz (i + 1))) hx hb d_Mo_shown24_124 hl rfl (by show iz _ + iz (1) = _; rw [← iz_add]; try rfl) (by decide) rfl (fun ls hl => ?_)
        have hl : lv_has ls 11 [(10, .int (iz (i + 1))), (0, .ref mo), (9, .ref sk)] := hl
        refine lv_goto (tgt := 103) hx hb d_Mo_shown24_127 rfl ?_
        have hw : MW D cB cL mo rs ex xd li bo cu cd 0 24 (-149) rt (bs.take (j + 1)) V C s H := by
          rw [show i.toNat = j by omega] at hw
          rw [take_getD (by omega)]
          exact hw
        exact ih103 sk sv bs (j + 1) (i + 1) _ _ _ hw hS (lv_sub hl [1, 2, 0] rfl) hss hbs hO ⟨by omega, by omega⟩ (by omega)
  refine lv_aload_n hx hb d_Mo_shown24_0 rfl (lv_at hl 0 rfl) ?_
  refine lv_iload_n hx hb d_Mo_shown24_1 rfl (lv_at hl 1 rfl) ?_
  refine z_if_lt (tgt := 25) hx hb d_Mo_shown24_2 rfl ⟨by omega, by omega⟩ (fun hc2 => ?_) (fun hc2 => ?_)
  · exfalso
    omega
  · refine lv_iload_n hx hb d_Mo_shown24_5 rfl (lv_at hl 1 rfl) ?_
    refine lv_iconst (v := iz 2) hx hb d_Mo_shown24_6 rfl ?_
    refine z_icmp_gt (tgt := 25) hx hb d_Mo_shown24_7 rfl ⟨by omega, by omega⟩ ⟨by omega, by omega⟩ (fun hc7 => ?_) (fun hc7 => ?_)
    · exfalso
      omega
    · refine lv_iload_n hx hb d_Mo_shown24_10 rfl (lv_at hl 2 rfl) ?_
      refine z_if_lt (tgt := 25) hx hb d_Mo_shown24_11 rfl ⟨by omega, by omega⟩ (fun hc11 => ?_) (fun hc11 => ?_)
      · exfalso
        omega
      · refine lv_iload_n hx hb d_Mo_shown24_14 rfl (lv_at hl 2 rfl) ?_
        refine lv_sipush (v := iz 1200) hx hb d_Mo_shown24_15 (by decide) ?_
        refine z_icmp_gt (tgt := 25) hx hb d_Mo_shown24_18 rfl ⟨by omega, by omega⟩ ⟨by omega, by omega⟩ (fun hc18 => ?_) (fun hc18 => ?_)
        · exfalso
          omega
        · refine lv_iconst (v := iz 1) hx hb d_Mo_shown24_21 rfl ?_
          refine lv_goto (tgt := 26) hx hb d_Mo_shown24_22 rfl ?_
          refine lv_iconst (v := iz 1) hx hb d_Mo_shown24_26 rfl ?_
          have hct := c_Mo_good l D cB cL mo rs ex xd li bo cu cd co 24 (-149) rt bt V C 1 1 (by omega) ⟨by omega, by omega⟩
          have hw9 := hw
          obtain ⟨fc, nc, pp, ⟨len, used, bl, fr, fb, lm, fe, ne, pe, ⟨hK, hP, hD⟩, hrt, hbt, hE, hpe, hlm⟩, hC⟩ := hw9
          have hr1 := hrt.1
          have hr2 := hrt.2.1
          have hb1 := hbt.1
          have hb2 := hbt.2.1
          have hE1 := hE.1
          have hC1 := hC.1
          have hP : va_P D vwCl [(mo, .inr (3, [.ref rs, .int (iz len), .int (iz co), .ref ex, .int (iz 24), .int (iz (-149)), .ref li, .int (iz used), .ref bo, .int (iz bl), .ref cu])), (rs, .inl (cB, 4096, .inl (az fr))), (ex, .inr (4, [.ref xd, .int (iz ne), .int (iz pe)])), (xd, .inl (cB, 1300, .inl (az fe))), (li, .inl (cL, 160, .inr (.inl (azl lm)))), (bo, .inl (cB, 4096, .inl (az fb))), (cu, .inr (4, [.ref cd, .int (iz nc), .int (iz pp)])), (cd, .inl (cB, 1300, .inl (az fc)))] H := hP
          have hD : va_D (AM mo rs ex xd li bo cu cd) [(mo, .inr (3, [.ref rs, .int (iz len), .int (iz co), .ref ex, .int (iz 24), .int (iz (-149)), .ref li, .int (iz used), .ref bo, .int (iz bl), .ref cu])), (rs, .inl (cB, 4096, .inl (az fr))), (ex, .inr (4, [.ref xd, .int (iz ne), .int (iz pe)])), (xd, .inl (cB, 1300, .inl (az fe))), (li, .inl (cL, 160, .inr (.inl (azl lm)))), (bo, .inl (cB, 4096, .inl (az fb))), (cu, .inr (4, [.ref cd, .int (iz nc), .int (iz pp)])), (cd, .inl (cB, 1300, .inl (az fc)))] := hD
          refine z_go (va_runV (As := [.int (iz 1), .int (iz 1)]) (rest := []) ⟨hx, hb, hml, hown, hts⟩ hct.2 (z_cwV hts w_Mo_good tw_435 (by decide)) (z_preV hct.1 (va_recv hK hP (ci := 3) (q0 := 0) rfl rfl) hw) rfl rfl hl.1 rfl (lv_room (Nat.le_of_ble_eq_true rfl)) d_Mo_shown24_27 ⟨Nat.zero_le _, Nat.zero_le _⟩) hS (fun _ h9 => h9) (fun v9 t9 H locs hv9 hp9 hz9 hk9 hS => ?_)
          obtain ⟨rfl, hw⟩ := hp9
          have hw := MW.moved hv9.symm hw
          rw [if_neg (by decide)] at hw
          refine W.eq (g2 := F0 m 30 ls [.int (iz 1)]) rfl ?_
          refine z_if_ne (tgt := 35) hx hb d_Mo_shown24_30 rfl ⟨by omega, by omega⟩ (fun hc30 => ?_) (fun hc30 => ?_)
          · refine lv_lload hx hb d_Mo_shown24_35 (lv_at hl 5 rfl) ?_
            refine lv_aload_n hx hb d_Mo_shown24_37 rfl (lv_at hl 0 rfl) ?_
            have hct := c_Mo_sgn24 l D cB cL mo rs ex xd li bo cu cd 0 rt bt V C
            have hw9 := hw
            obtain ⟨fc, nc, pp, ⟨len, used, bl, fr, fb, lm, fe, ne, pe, ⟨hK, hP, hD⟩, hrt, hbt, hE, hpe, hlm⟩, hC⟩ := hw9
            have hr1 := hrt.1
            have hr2 := hrt.2.1
            have hb1 := hbt.1
            have hb2 := hbt.2.1
            have hE1 := hE.1
            have hC1 := hC.1
            have hP : va_P D vwCl [(mo, .inr (3, [.ref rs, .int (iz len), .int (iz 0), .ref ex, .int (iz 24), .int (iz (-149)), .ref li, .int (iz used), .ref bo, .int (iz bl), .ref cu])), (rs, .inl (cB, 4096, .inl (az fr))), (ex, .inr (4, [.ref xd, .int (iz ne), .int (iz pe)])), (xd, .inl (cB, 1300, .inl (az fe))), (li, .inl (cL, 160, .inr (.inl (azl lm)))), (bo, .inl (cB, 4096, .inl (az fb))), (cu, .inr (4, [.ref cd, .int (iz nc), .int (iz pp)])), (cd, .inl (cB, 1300, .inl (az fc)))] H := hP
            have hD : va_D (AM mo rs ex xd li bo cu cd) [(mo, .inr (3, [.ref rs, .int (iz len), .int (iz 0), .ref ex, .int (iz 24), .int (iz (-149)), .ref li, .int (iz used), .ref bo, .int (iz bl), .ref cu])), (rs, .inl (cB, 4096, .inl (az fr))), (ex, .inr (4, [.ref xd, .int (iz ne), .int (iz pe)])), (xd, .inl (cB, 1300, .inl (az fe))), (li, .inl (cL, 160, .inr (.inl (azl lm)))), (bo, .inl (cB, 4096, .inl (az fb))), (cu, .inr (4, [.ref cd, .int (iz nc), .int (iz pp)])), (cd, .inl (cB, 1300, .inl (az fc)))] := hD
            refine z_go (va_runV (As := []) (rest := [.long B]) ⟨hx, hb, hml, hown, hts⟩ hct.2 (z_cwV hts w_Mo_sign tw_452 (by decide)) (z_preV hct.1 (va_recv hK hP (ci := 3) (q0 := 0) rfl rfl) hw) rfl rfl hl.1 rfl (lv_room (Nat.le_of_ble_eq_true rfl)) d_Mo_shown24_38 ⟨Nat.zero_le _, Nat.zero_le _⟩) hS (fun _ h9 => h9) (fun v9 t9 H locs hv9 hp9 hz9 hk9 hS => ?_)
            obtain ⟨rfl, hw⟩ := hp9
            have hw := MW.moved hv9.symm hw
            refine W.eq (g2 := F0 m 41 ls [.long (lz 2147483648), .long B]) rfl ?_
            refine lv_ldc2 (v := (-1 : Int64)) hx hb hown (hts _ tw_458) d_Mo_shown24_41 ?_
            refine z_topl (y := lz (-1)) (by decide) ?_
            refine lv_lxor hx hb d_Mo_shown24_44 ?_
            refine lv_land hx hb d_Mo_shown24_45 ?_
            refine lv_aload_n hx hb d_Mo_shown24_46 rfl (lv_at hl 0 rfl) ?_
            have hw9 := hw
            obtain ⟨fc, nc, pp, ⟨len, used, bl, fr, fb, lm, fe, ne, pe, ⟨hK, hP, hD⟩, hrt, hbt, hE, hpe, hlm⟩, hC⟩ := hw9
            have hr1 := hrt.1
            have hr2 := hrt.2.1
            have hb1 := hbt.1
            have hb2 := hbt.2.1
            have hE1 := hE.1
            have hC1 := hC.1
            have hP : va_P D vwCl [(mo, .inr (3, [.ref rs, .int (iz len), .int (iz 0), .ref ex, .int (iz 24), .int (iz (-149)), .ref li, .int (iz used), .ref bo, .int (iz bl), .ref cu])), (rs, .inl (cB, 4096, .inl (az fr))), (ex, .inr (4, [.ref xd, .int (iz ne), .int (iz pe)])), (xd, .inl (cB, 1300, .inl (az fe))), (li, .inl (cL, 160, .inr (.inl (azl lm)))), (bo, .inl (cB, 4096, .inl (az fb))), (cu, .inr (4, [.ref cd, .int (iz nc), .int (iz pp)])), (cd, .inl (cB, 1300, .inl (az fc)))] H := hP
            have hD : va_D (AM mo rs ex xd li bo cu cd) [(mo, .inr (3, [.ref rs, .int (iz len), .int (iz 0), .ref ex, .int (iz 24), .int (iz (-149)), .ref li, .int (iz used), .ref bo, .int (iz bl), .ref cu])), (rs, .inl (cB, 4096, .inl (az fr))), (ex, .inr (4, [.ref xd, .int (iz ne), .int (iz pe)])), (xd, .inl (cB, 1300, .inl (az fe))), (li, .inl (cL, 160, .inr (.inl (azl lm)))), (bo, .inl (cB, 4096, .inl (az fb))), (cu, .inr (4, [.ref cd, .int (iz nc), .int (iz pp)])), (cd, .inl (cB, 1300, .inl (az fc)))] := hD
            refine va_get (D := D) (ci := 3) (v := .int (iz 24)) (C := R_3) (T := T_3) (N := 11) hx hb hts in_3 hown hK hP 0 rfl rfl 4 (by decide) (hts _ tw_396) (fun _ h9 => h9) rfl d_Mo_shown24_47 ?_
            refine lv_bipush (v := iz 53) hx hb d_Mo_shown24_50 (by decide) ?_
            refine z_icmp_ne (tgt := 61) hx hb d_Mo_shown24_52 rfl ⟨by omega, by omega⟩ ⟨by omega, by omega⟩ (fun hc52 => ?_) (fun hc52 => ?_)
            · refine lv_ldc2 (v := (4294967295 : Int64)) hx hb hown (hts _ tw_459) d_Mo_shown24_61 ?_
              refine z_topl (y := lz (4294967295)) (by decide) ?_
              refine lv_land hx hb d_Mo_shown24_64 ?_
              refine z_topl (y := lz sz) (by rw [szB_24, hsz]) ?_
              refine lv_lstore hx hb d_Mo_shown24_65 hl (by decide) rfl (fun ls hl => ?_)
              have hl : lv_has ls 11 [(7, .long (lz sz)), (0, .ref mo), (1, .int (iz kd)), (2, .int (iz (pr : Int))), (3, .int (iz gr)), (4, .int (iz pt)), (5, .long B)] := hl
              refine lv_aload_n hx hb d_Mo_shown24_67 rfl (lv_at hl 1 rfl) ?_
              refine lv_iconst (v := iz 0) hx hb d_Mo_shown24_68 rfl ?_
              refine va_put (D := D) (ci := 3) (v := .int (iz 0)) (ty := .int) (C := R_3) (T := T_3) (N := 11) hx hb hts in_3 ty_3 tyok_3 nm_3 hown hK hP hD hS 0 rfl rfl 9 (by decide) (hts _ tw_401) (fun _ h9 => h9) rfl (by decide +kernel) rfl rfl (Nat.le_of_ble_eq_true rfl) d_Mo_shown24_69 (fun H locs hP hD hS => ?_)
              have hP : va_P D vwCl [(mo, .inr (3, [.ref rs, .int (iz len), .int (iz 0), .ref ex, .int (iz 24), .int (iz (-149)), .ref li, .int (iz used), .ref bo, .int (iz 0), .ref cu])), (rs, .inl (cB, 4096, .inl (az fr))), (ex, .inr (4, [.ref xd, .int (iz ne), .int (iz pe)])), (xd, .inl (cB, 1300, .inl (az fe))), (li, .inl (cL, 160, .inr (.inl (azl lm)))), (bo, .inl (cB, 4096, .inl (az fb))), (cu, .inr (4, [.ref cd, .int (iz nc), .int (iz pp)])), (cd, .inl (cB, 1300, .inl (az fc)))] H := hP
              have hD : va_D (AM mo rs ex xd li bo cu cd) [(mo, .inr (3, [.ref rs, .int (iz len), .int (iz 0), .ref ex, .int (iz 24), .int (iz (-149)), .ref li, .int (iz used), .ref bo, .int (iz 0), .ref cu])), (rs, .inl (cB, 4096, .inl (az fr))), (ex, .inr (4, [.ref xd, .int (iz ne), .int (iz pe)])), (xd, .inl (cB, 1300, .inl (az fe))), (li, .inl (cL, 160, .inr (.inl (azl lm)))), (bo, .inl (cB, 4096, .inl (az fb))), (cu, .inr (4, [.ref cd, .int (iz nc), .int (iz pp)])), (cd, .inl (cB, 1300, .inl (az fc)))] := hD
              refine lv_lload hx hb d_Mo_shown24_72 (lv_at hl 0 rfl) ?_
              refine lv_aload_n hx hb d_Mo_shown24_74 rfl (lv_at hl 1 rfl) ?_
              have hw : MW D cB cL mo rs ex xd li bo cu cd 0 24 (-149) rt ([]) V C s H := ⟨_, _, _, ⟨_, _, _, _, _, _, _, _, _, ⟨hK, hP, hD⟩, hrt, TxM_nil, hE, hpe, hlm⟩, hC⟩
              have hct := c_Mo_inf24 l D cB cL mo rs ex xd li bo cu cd 0 rt [] V C
              refine z_go (va_runV (As := []) (rest := [.long (lz sz)]) ⟨hx, hb, hml, hown, hts⟩ hct.2 (z_cwV hts w_Mo_infinity tw_460 (by decide)) (z_preV hct.1 (va_recv hK hP (ci := 3) (q0 := 0) rfl rfl) hw) rfl rfl hl.1 rfl (lv_room (Nat.le_of_ble_eq_true rfl)) d_Mo_shown24_75 ⟨Nat.zero_le _, Nat.zero_le _⟩) hS (fun _ h9 => h9) (fun v9 t9 H locs hv9 hp9 hz9 hk9 hS => ?_)
              obtain ⟨rfl, hw⟩ := hp9
              have hw := MW.moved hv9.symm hw
              refine W.eq (g2 := F0 m 78 ls [.long (lz 2139095040), .long (lz sz)]) rfl ?_
              refine z_lif_lt (tgt := 133) hx hb d_Mo_shown24_78 d_Mo_shown24_79 rfl ⟨by omega, by omega⟩ ⟨by omega, by omega⟩ (fun hc78 => ?_) (fun hc78 => ?_)
              · have hex8 : ¬ exB 23 256 B = 255 := by omega
                have hfb := fin_b1 hex8
                have hW0 : 0 ≤ Vw := by rw [hVw]; exact Wd_nn hfb.1.1
                have hWlt : Vw < 10 ^ 1389 := by rw [hVw]; exact Wd_lt hfb.1 hfb.2
                have hWl2 : Vw < 10 ^ 1388 * 2 := by rw [hVw]; exact Wd_lt2 hfb.1 hfb.2
                have hle : -324 ≤ lead Vw ∧ lead Vw ≤ 308 := ⟨by rw [hVw]; exact Wd_lead hfb.1.1 hfb.2.1, by have := lead_lt hW0 hWlt (by decide); omega⟩
                have hcf8 := hfb.1
                have hq8 := hfb.2
                refine lv_aload_n hx hb d_Mo_shown24_133 rfl (lv_at hl 1 rfl) ?_
                refine lv_aload_n hx hb d_Mo_shown24_134 rfl (lv_at hl 1 rfl) ?_
                refine lv_lload hx hb d_Mo_shown24_135 (lv_at hl 0 rfl) ?_
                have hct := c_Mo_c24 l D cB cL mo rs ex xd li bo cu cd 0 rt [] V C sz ⟨by omega, by omega⟩
                have hw9 := hw
                obtain ⟨fc, nc, pp, ⟨len, used, bl, fr, fb, lm, fe, ne, pe, ⟨hK, hP, hD⟩, hrt, hbt, hE, hpe, hlm⟩, hC⟩ := hw9
                have hr1 := hrt.1
                have hr2 := hrt.2.1
                have hb1 := hbt.1
                have hb2 := hbt.2.1
                have hE1 := hE.1
                have hC1 := hC.1
                have hP : va_P D vwCl [(mo, .inr (3, [.ref rs, .int (iz len), .int (iz 0), .ref ex, .int (iz 24), .int (iz (-149)), .ref li, .int (iz used), .ref bo, .int (iz bl), .ref cu])), (rs, .inl (cB, 4096, .inl (az fr))), (ex, .inr (4, [.ref xd, .int (iz ne), .int (iz pe)])), (xd, .inl (cB, 1300, .inl (az fe))), (li, .inl (cL, 160, .inr (.inl (azl lm)))), (bo, .inl (cB, 4096, .inl (az fb))), (cu, .inr (4, [.ref cd, .int (iz nc), .int (iz pp)])), (cd, .inl (cB, 1300, .inl (az fc)))] H := hP
                have hD : va_D (AM mo rs ex xd li bo cu cd) [(mo, .inr (3, [.ref rs, .int (iz len), .int (iz 0), .ref ex, .int (iz 24), .int (iz (-149)), .ref li, .int (iz used), .ref bo, .int (iz bl), .ref cu])), (rs, .inl (cB, 4096, .inl (az fr))), (ex, .inr (4, [.ref xd, .int (iz ne), .int (iz pe)])), (xd, .inl (cB, 1300, .inl (az fe))), (li, .inl (cL, 160, .inr (.inl (azl lm)))), (bo, .inl (cB, 4096, .inl (az fb))), (cu, .inr (4, [.ref cd, .int (iz nc), .int (iz pp)])), (cd, .inl (cB, 1300, .inl (az fc)))] := hD
                refine z_go (va_runV (As := [.long (lz sz)]) (rest := [.ref mo]) ⟨hx, hb, hml, hown, hts⟩ hct.2 (z_cwV hts w_Mo_c tw_478 (by decide)) (z_preV hct.1 (va_recv hK hP (ci := 3) (q0 := 0) rfl rfl) hw) rfl rfl hl.1 rfl (lv_room (Nat.le_of_ble_eq_true rfl)) d_Mo_shown24_137 ⟨Nat.zero_le _, Nat.zero_le _⟩) hS (fun _ h9 => h9) (fun v9 t9 H locs hv9 hp9 hz9 hk9 hS => ?_)
                obtain ⟨rfl, hw⟩ := hp9
                have hw := MW.moved hv9.symm hw
                refine W.eq (g2 := F0 m 140 ls [.long (lz (if 8388607 < sz then 2 ^ 23 + sz % 2 ^ 23 else sz % 2 ^ 23)), .ref mo]) rfl ?_
                refine z_rl (b := cfB 23 256 B) (szc_24 hsz) ?_
                refine lv_aload_n hx hb d_Mo_shown24_140 rfl (lv_at hl 1 rfl) ?_
                refine lv_lload hx hb d_Mo_shown24_141 (lv_at hl 0 rfl) ?_
                have hct := c_Mo_q24 l D cB cL mo rs ex xd li bo cu cd 0 rt [] V C sz ⟨by omega, by omega⟩
                have hw9 := hw
                obtain ⟨fc, nc, pp, ⟨len, used, bl, fr, fb, lm, fe, ne, pe, ⟨hK, hP, hD⟩, hrt, hbt, hE, hpe, hlm⟩, hC⟩ := hw9
                have hr1 := hrt.1
                have hr2 := hrt.2.1
                have hb1 := hbt.1
                have hb2 := hbt.2.1
                have hE1 := hE.1
                have hC1 := hC.1
                have hP : va_P D vwCl [(mo, .inr (3, [.ref rs, .int (iz len), .int (iz 0), .ref ex, .int (iz 24), .int (iz (-149)), .ref li, .int (iz used), .ref bo, .int (iz bl), .ref cu])), (rs, .inl (cB, 4096, .inl (az fr))), (ex, .inr (4, [.ref xd, .int (iz ne), .int (iz pe)])), (xd, .inl (cB, 1300, .inl (az fe))), (li, .inl (cL, 160, .inr (.inl (azl lm)))), (bo, .inl (cB, 4096, .inl (az fb))), (cu, .inr (4, [.ref cd, .int (iz nc), .int (iz pp)])), (cd, .inl (cB, 1300, .inl (az fc)))] H := hP
                have hD : va_D (AM mo rs ex xd li bo cu cd) [(mo, .inr (3, [.ref rs, .int (iz len), .int (iz 0), .ref ex, .int (iz 24), .int (iz (-149)), .ref li, .int (iz used), .ref bo, .int (iz bl), .ref cu])), (rs, .inl (cB, 4096, .inl (az fr))), (ex, .inr (4, [.ref xd, .int (iz ne), .int (iz pe)])), (xd, .inl (cB, 1300, .inl (az fe))), (li, .inl (cL, 160, .inr (.inl (azl lm)))), (bo, .inl (cB, 4096, .inl (az fb))), (cu, .inr (4, [.ref cd, .int (iz nc), .int (iz pp)])), (cd, .inl (cB, 1300, .inl (az fc)))] := hD
                refine z_go (va_runV (As := [.long (lz sz)]) (rest := [.long (lz (cfB 23 256 B)), .ref mo]) ⟨hx, hb, hml, hown, hts⟩ hct.2 (z_cwV hts w_Mo_q tw_486 (by decide)) (z_preV hct.1 (va_recv hK hP (ci := 3) (q0 := 0) rfl rfl) hw) rfl rfl hl.1 rfl (lv_room (Nat.le_of_ble_eq_true rfl)) d_Mo_shown24_143 ⟨Nat.zero_le _, Nat.zero_le _⟩) hS (fun _ h9 => h9) (fun v9 t9 H locs hv9 hp9 hz9 hk9 hS => ?_)
                obtain ⟨rfl, hw⟩ := hp9
                have hw := MW.moved hv9.symm hw
                refine W.eq (g2 := F0 m 146 ls [.int (iz (if sz / 2 ^ 23 = 0 then -149 else -149 + sz / 2 ^ 23 - 1)), .long (lz (cfB 23 256 B)), .ref mo]) rfl ?_
                refine z_ri (b := -149 + max (exB 23 256 B - 1) 0) (by split <;> omega) ?_
                refine lv_aload_n hx hb d_Mo_shown24_146 rfl (lv_at hl 1 rfl) ?_
                have hw9 := hw
                obtain ⟨fc, nc, pp, ⟨len, used, bl, fr, fb, lm, fe, ne, pe, ⟨hK, hP, hD⟩, hrt, hbt, hE, hpe, hlm⟩, hC⟩ := hw9
                have hr1 := hrt.1
                have hr2 := hrt.2.1
                have hb1 := hbt.1
                have hb2 := hbt.2.1
                have hE1 := hE.1
                have hC1 := hC.1
                have hP : va_P D vwCl [(mo, .inr (3, [.ref rs, .int (iz len), .int (iz 0), .ref ex, .int (iz 24), .int (iz (-149)), .ref li, .int (iz used), .ref bo, .int (iz bl), .ref cu])), (rs, .inl (cB, 4096, .inl (az fr))), (ex, .inr (4, [.ref xd, .int (iz ne), .int (iz pe)])), (xd, .inl (cB, 1300, .inl (az fe))), (li, .inl (cL, 160, .inr (.inl (azl lm)))), (bo, .inl (cB, 4096, .inl (az fb))), (cu, .inr (4, [.ref cd, .int (iz nc), .int (iz pp)])), (cd, .inl (cB, 1300, .inl (az fc)))] H := hP
                have hD : va_D (AM mo rs ex xd li bo cu cd) [(mo, .inr (3, [.ref rs, .int (iz len), .int (iz 0), .ref ex, .int (iz 24), .int (iz (-149)), .ref li, .int (iz used), .ref bo, .int (iz bl), .ref cu])), (rs, .inl (cB, 4096, .inl (az fr))), (ex, .inr (4, [.ref xd, .int (iz ne), .int (iz pe)])), (xd, .inl (cB, 1300, .inl (az fe))), (li, .inl (cL, 160, .inr (.inl (azl lm)))), (bo, .inl (cB, 4096, .inl (az fb))), (cu, .inr (4, [.ref cd, .int (iz nc), .int (iz pp)])), (cd, .inl (cB, 1300, .inl (az fc)))] := hD
                refine va_get (D := D) (ci := 3) (v := .ref ex) (C := R_3) (T := T_3) (N := 11) hx hb hts in_3 hown hK hP 0 rfl rfl 3 (by decide) (hts _ tw_395) (fun _ h9 => h9) rfl d_Mo_shown24_147 ?_
                have hct := c_Mo_row l D cB cL mo rs ex xd li bo cu cd 0 24 (-149) rt [] V C (cfB 23 256 B) (-149 + max (exB 23 256 B - 1) 0) Vw ⟨by omega, by omega⟩ ⟨by omega, by omega⟩ (by rw [hVw]; exact Wd_row (by omega)) (row_800 hfb.1 hfb.2) (Int.mul_nonneg (Int.mul_nonneg hfb.1.1 (Int.le_of_lt (Int.pow_pos (by decide)))) (Int.le_of_lt (Int.pow_pos (by decide))))
                refine z_go (va_runV (As := [.long (lz (cfB 23 256 B)), .int (iz (-149 + max (exB 23 256 B - 1) 0)), .ref ex]) (rest := []) ⟨hx, hb, hml, hown, hts⟩ hct.2 (z_cwV hts w_Mo_row tw_490 (by decide)) (z_preV hct.1 (va_recv hK hP (ci := 3) (q0 := 0) rfl rfl) hw) rfl rfl hl.1 rfl (lv_room (Nat.le_of_ble_eq_true rfl)) d_Mo_shown24_150 ⟨Nat.zero_le _, Nat.zero_le _⟩) hS (fun _ h9 => h9) (fun v9 t9 H locs hv9 hp9 hz9 hk9 hS => ?_)
                obtain ⟨rfl, hw⟩ := hp9
                have hw := MW.moved hv9.symm hw
                refine W.eq (g2 := F0 m 153 ls []) rfl ?_
                refine lv_iload_n hx hb d_Mo_shown24_153 rfl (lv_at hl 2 rfl) ?_
                refine z_if_ne (tgt := 171) hx hb d_Mo_shown24_154 rfl ⟨by omega, by omega⟩ (fun hc154 => ?_) (fun hc154 => ?_)
                · refine lv_iload_n hx hb d_Mo_shown24_171 rfl (lv_at hl 2 rfl) ?_
                  refine lv_iconst (v := iz 1) hx hb d_Mo_shown24_172 rfl ?_
                  refine z_icmp_ne (tgt := 191) hx hb d_Mo_shown24_173 rfl ⟨by omega, by omega⟩ ⟨by omega, by omega⟩ (fun hc173 => ?_) (fun hc173 => ?_)
                  · have hr8 := lead_rup (t := lead Vw + 1 - ((max pr 1 : Nat) : Int)) hW0 hWl2 (Or.inl (by omega))
                    have hr9 := lead_up (t := lead Vw + 1 - ((max pr 1 : Nat) : Int)) hW0
                    have hr6 := (short_lead (dn := max pr 1) hW0 (by omega)).1
                    refine lv_aload_n hx hb d_Mo_shown24_191 rfl (lv_at hl 1 rfl) ?_
                    refine lv_aload_n hx hb d_Mo_shown24_192 rfl (lv_at hl 1 rfl) ?_
                    have hw9 := hw
                    obtain ⟨fc, nc, pp, ⟨len, used, bl, fr, fb, lm, fe, ne, pe, ⟨hK, hP, hD⟩, hrt, hbt, hE, hpe, hlm⟩, hC⟩ := hw9
                    have hr1 := hrt.1
                    have hr2 := hrt.2.1
                    have hb1 := hbt.1
                    have hb2 := hbt.2.1
                    have hE1 := hE.1
                    have hC1 := hC.1
                    have hP : va_P D vwCl [(mo, .inr (3, [.ref rs, .int (iz len), .int (iz 0), .ref ex, .int (iz 24), .int (iz (-149)), .ref li, .int (iz used), .ref bo, .int (iz bl), .ref cu])), (rs, .inl (cB, 4096, .inl (az fr))), (ex, .inr (4, [.ref xd, .int (iz ne), .int (iz pe)])), (xd, .inl (cB, 1300, .inl (az fe))), (li, .inl (cL, 160, .inr (.inl (azl lm)))), (bo, .inl (cB, 4096, .inl (az fb))), (cu, .inr (4, [.ref cd, .int (iz nc), .int (iz pp)])), (cd, .inl (cB, 1300, .inl (az fc)))] H := hP
                    have hD : va_D (AM mo rs ex xd li bo cu cd) [(mo, .inr (3, [.ref rs, .int (iz len), .int (iz 0), .ref ex, .int (iz 24), .int (iz (-149)), .ref li, .int (iz used), .ref bo, .int (iz bl), .ref cu])), (rs, .inl (cB, 4096, .inl (az fr))), (ex, .inr (4, [.ref xd, .int (iz ne), .int (iz pe)])), (xd, .inl (cB, 1300, .inl (az fe))), (li, .inl (cL, 160, .inr (.inl (azl lm)))), (bo, .inl (cB, 4096, .inl (az fb))), (cu, .inr (4, [.ref cd, .int (iz nc), .int (iz pp)])), (cd, .inl (cB, 1300, .inl (az fc)))] := hD
                    refine va_get (D := D) (ci := 3) (v := .ref ex) (C := R_3) (T := T_3) (N := 11) hx hb hts in_3 hown hK hP 0 rfl rfl 3 (by decide) (hts _ tw_395) (fun _ h9 => h9) rfl d_Mo_shown24_193 ?_
                    refine lv_iload_n hx hb d_Mo_shown24_196 rfl (lv_at hl 3 rfl) ?_
                    refine lv_iload_n hx hb d_Mo_shown24_197 rfl (lv_at hl 4 rfl) ?_
                    have hct := c_Mo_gen l D cB cL mo rs ex xd li bo cu cd 0 24 (-149) rt [] Vw C pr gr (rnd Vw (lead Vw + 1 - ((max pr 1 : Nat) : Int))) rfl (by omega) hgr ⟨by omega, by omega⟩ (by have h8 := ipR_len (rnd Vw (lead Vw + 1 - ((max pr 1 : Nat) : Int))) gr (k := max (lead (rnd Vw (lead Vw + 1 - ((max pr 1 : Nat) : Int)))) 0) (by omega); show 0 + _ + 1300 ≤ 4096; omega)
                    refine z_go (va_runV (As := [.ref ex, .int (iz (pr : Int)), .int (iz gr)]) (rest := []) ⟨hx, hb, hml, hown, hts⟩ hct.2 (z_cwV hts w_Mo_general tw_522 (by decide)) (z_preV hct.1 (va_recv hK hP (ci := 3) (q0 := 0) rfl rfl) hw) rfl rfl hl.1 rfl (lv_room (Nat.le_of_ble_eq_true rfl)) d_Mo_shown24_198 ⟨Nat.zero_le _, Nat.zero_le _⟩) hS (fun _ h9 => h9) (fun v9 t9 H locs hv9 hp9 hz9 hk9 hS => ?_)
                    obtain ⟨rfl, hw⟩ := hp9
                    have hw := MW.moved hv9.symm hw
                    refine W.eq (g2 := F0 m 201 ls []) rfl ?_
                    have hO : outT 23 255 (-149) kd pr gr pt B = [] ++ genL (rnd Vw (lead Vw + 1 - ((max pr 1 : Nat) : Int))) (max pr 1) gr := by
                      rw [outT1_fin hex8, ← hVw]
                      unfold fmt
                      rw [if_neg hc154, if_neg hc173]
                      rfl
                    have hw : MW D cB cL mo rs ex xd li bo cu cd 0 24 (-149) rt (outT 23 255 (-149) kd pr gr pt B) Vw (rnd Vw (lead Vw + 1 - ((max pr 1 : Nat) : Int))) s H := by
                      rw [hO]
                      exact hw
                    exact L201 Vw (rnd Vw (lead Vw + 1 - ((max pr 1 : Nat) : Int))) _ _ _ hw hS (lv_sub hl [1] rfl) 
                  · have hr8 := lead_rup (t := -(pr : Int)) hW0 hWl2 (Or.inr (by omega))
                    have hr6 := max_lead (t := -(pr : Int)) hW0 (by omega)
                    refine lv_aload_n hx hb d_Mo_shown24_176 rfl (lv_at hl 1 rfl) ?_
                    refine lv_aload_n hx hb d_Mo_shown24_177 rfl (lv_at hl 1 rfl) ?_
                    have hw9 := hw
                    obtain ⟨fc, nc, pp, ⟨len, used, bl, fr, fb, lm, fe, ne, pe, ⟨hK, hP, hD⟩, hrt, hbt, hE, hpe, hlm⟩, hC⟩ := hw9
                    have hr1 := hrt.1
                    have hr2 := hrt.2.1
                    have hb1 := hbt.1
                    have hb2 := hbt.2.1
                    have hE1 := hE.1
                    have hC1 := hC.1
                    have hP : va_P D vwCl [(mo, .inr (3, [.ref rs, .int (iz len), .int (iz 0), .ref ex, .int (iz 24), .int (iz (-149)), .ref li, .int (iz used), .ref bo, .int (iz bl), .ref cu])), (rs, .inl (cB, 4096, .inl (az fr))), (ex, .inr (4, [.ref xd, .int (iz ne), .int (iz pe)])), (xd, .inl (cB, 1300, .inl (az fe))), (li, .inl (cL, 160, .inr (.inl (azl lm)))), (bo, .inl (cB, 4096, .inl (az fb))), (cu, .inr (4, [.ref cd, .int (iz nc), .int (iz pp)])), (cd, .inl (cB, 1300, .inl (az fc)))] H := hP
                    have hD : va_D (AM mo rs ex xd li bo cu cd) [(mo, .inr (3, [.ref rs, .int (iz len), .int (iz 0), .ref ex, .int (iz 24), .int (iz (-149)), .ref li, .int (iz used), .ref bo, .int (iz bl), .ref cu])), (rs, .inl (cB, 4096, .inl (az fr))), (ex, .inr (4, [.ref xd, .int (iz ne), .int (iz pe)])), (xd, .inl (cB, 1300, .inl (az fe))), (li, .inl (cL, 160, .inr (.inl (azl lm)))), (bo, .inl (cB, 4096, .inl (az fb))), (cu, .inr (4, [.ref cd, .int (iz nc), .int (iz pp)])), (cd, .inl (cB, 1300, .inl (az fc)))] := hD
                    refine va_get (D := D) (ci := 3) (v := .ref ex) (C := R_3) (T := T_3) (N := 11) hx hb hts in_3 hown hK hP 0 rfl rfl 3 (by decide) (hts _ tw_395) (fun _ h9 => h9) rfl d_Mo_shown24_178 ?_
                    refine lv_iload_n hx hb d_Mo_shown24_181 rfl (lv_at hl 3 rfl) ?_
                    refine lv_iload_n hx hb d_Mo_shown24_182 rfl (lv_at hl 4 rfl) ?_
                    refine lv_iload hx hb d_Mo_shown24_183 (lv_at hl 5 rfl) ?_
                    have hct := c_Mo_fix l D cB cL mo rs ex xd li bo cu cd 0 24 (-149) rt [] Vw C pr gr pt (rnd Vw (-(pr : Int))) rfl (by omega) hgr hpt (by omega) (by have h8 := ipR_len (rnd Vw (-(pr : Int))) gr (k := max (lead (rnd Vw (-(pr : Int)))) 0) (by omega); show 0 + _ + pr + 2 ≤ 4096; omega)
                    refine z_go (va_runV (As := [.ref ex, .int (iz (pr : Int)), .int (iz gr), .int (iz pt)]) (rest := []) ⟨hx, hb, hml, hown, hts⟩ hct.2 (z_cwV hts w_Mo_fixed tw_518 (by decide)) (z_preV hct.1 (va_recv hK hP (ci := 3) (q0 := 0) rfl rfl) hw) rfl rfl hl.1 rfl (lv_room (Nat.le_of_ble_eq_true rfl)) d_Mo_shown24_185 ⟨Nat.zero_le _, Nat.zero_le _⟩) hS (fun _ h9 => h9) (fun v9 t9 H locs hv9 hp9 hz9 hk9 hS => ?_)
                    obtain ⟨rfl, hw⟩ := hp9
                    have hw := MW.moved hv9.symm hw
                    refine W.eq (g2 := F0 m 188 ls []) rfl ?_
                    refine lv_goto (tgt := 201) hx hb d_Mo_shown24_188 rfl ?_
                    have hO : outT 23 255 (-149) kd pr gr pt B = [] ++ fixL (rnd Vw (-(pr : Int))) (lead (rnd Vw (-(pr : Int)))) pr gr pt := by
                      rw [outT1_fin hex8, ← hVw]
                      unfold fmt
                      rw [if_neg hc154, if_pos hc173]
                      rfl
                    have hw : MW D cB cL mo rs ex xd li bo cu cd 0 24 (-149) rt (outT 23 255 (-149) kd pr gr pt B) Vw (rnd Vw (-(pr : Int))) s H := by
                      rw [hO]
                      exact hw
                    exact L201 Vw (rnd Vw (-(pr : Int))) _ _ _ hw hS (lv_sub hl [1] rfl) 
                · have hr8 := lead_rup (t := lead Vw - (pr : Int)) hW0 hWl2 (Or.inl (by omega))
                  have hr9 := lead_up (t := lead Vw - (pr : Int)) hW0
                  have hr7 := short_lead (dn := pr + 1) hW0 (by omega)
                  rw [show lead Vw + 1 - ((pr + 1 : Nat) : Int) = lead Vw - (pr : Int) by omega] at hr7
                  have hr6 := hr7.1
                  refine lv_aload_n hx hb d_Mo_shown24_157 rfl (lv_at hl 1 rfl) ?_
                  refine lv_aload_n hx hb d_Mo_shown24_158 rfl (lv_at hl 1 rfl) ?_
                  have hw9 := hw
                  obtain ⟨fc, nc, pp, ⟨len, used, bl, fr, fb, lm, fe, ne, pe, ⟨hK, hP, hD⟩, hrt, hbt, hE, hpe, hlm⟩, hC⟩ := hw9
                  have hr1 := hrt.1
                  have hr2 := hrt.2.1
                  have hb1 := hbt.1
                  have hb2 := hbt.2.1
                  have hE1 := hE.1
                  have hC1 := hC.1
                  have hP : va_P D vwCl [(mo, .inr (3, [.ref rs, .int (iz len), .int (iz 0), .ref ex, .int (iz 24), .int (iz (-149)), .ref li, .int (iz used), .ref bo, .int (iz bl), .ref cu])), (rs, .inl (cB, 4096, .inl (az fr))), (ex, .inr (4, [.ref xd, .int (iz ne), .int (iz pe)])), (xd, .inl (cB, 1300, .inl (az fe))), (li, .inl (cL, 160, .inr (.inl (azl lm)))), (bo, .inl (cB, 4096, .inl (az fb))), (cu, .inr (4, [.ref cd, .int (iz nc), .int (iz pp)])), (cd, .inl (cB, 1300, .inl (az fc)))] H := hP
                  have hD : va_D (AM mo rs ex xd li bo cu cd) [(mo, .inr (3, [.ref rs, .int (iz len), .int (iz 0), .ref ex, .int (iz 24), .int (iz (-149)), .ref li, .int (iz used), .ref bo, .int (iz bl), .ref cu])), (rs, .inl (cB, 4096, .inl (az fr))), (ex, .inr (4, [.ref xd, .int (iz ne), .int (iz pe)])), (xd, .inl (cB, 1300, .inl (az fe))), (li, .inl (cL, 160, .inr (.inl (azl lm)))), (bo, .inl (cB, 4096, .inl (az fb))), (cu, .inr (4, [.ref cd, .int (iz nc), .int (iz pp)])), (cd, .inl (cB, 1300, .inl (az fc)))] := hD
                  refine va_get (D := D) (ci := 3) (v := .ref ex) (C := R_3) (T := T_3) (N := 11) hx hb hts in_3 hown hK hP 0 rfl rfl 3 (by decide) (hts _ tw_395) (fun _ h9 => h9) rfl d_Mo_shown24_159 ?_
                  refine lv_iload_n hx hb d_Mo_shown24_162 rfl (lv_at hl 3 rfl) ?_
                  refine lv_iload hx hb d_Mo_shown24_163 (lv_at hl 5 rfl) ?_
                  have hct := c_Mo_sci l D cB cL mo rs ex xd li bo cu cd 0 24 (-149) rt [] Vw C pr pt (rnd Vw (lead Vw - (pr : Int))) (by rw [show lead Vw + 1 - ((pr : Int) + 1) = lead Vw - (pr : Int) by omega]) (by omega) hpt ⟨by omega, by omega⟩ (by show 0 + pr + 8 ≤ 4096; omega)
                  refine z_go (va_runV (As := [.ref ex, .int (iz (pr : Int)), .int (iz pt)]) (rest := []) ⟨hx, hb, hml, hown, hts⟩ hct.2 (z_cwV hts w_Mo_scientific tw_504 (by decide)) (z_preV hct.1 (va_recv hK hP (ci := 3) (q0 := 0) rfl rfl) hw) rfl rfl hl.1 rfl (lv_room (Nat.le_of_ble_eq_true rfl)) d_Mo_shown24_165 ⟨Nat.zero_le _, Nat.zero_le _⟩) hS (fun _ h9 => h9) (fun v9 t9 H locs hv9 hp9 hz9 hk9 hS => ?_)
                  obtain ⟨rfl, hw⟩ := hp9
                  have hw := MW.moved hv9.symm hw
                  refine W.eq (g2 := F0 m 168 ls []) rfl ?_
                  refine lv_goto (tgt := 201) hx hb d_Mo_shown24_168 rfl ?_
                  have hO : outT 23 255 (-149) kd pr gr pt B = [] ++ sciL (rnd Vw (lead Vw - (pr : Int))) (lead (rnd Vw (lead Vw - (pr : Int)))) pr pt := by
                    rw [outT1_fin hex8, ← hVw]
                    unfold fmt
                    rw [if_pos hc154]
                    rfl
                  have hw : MW D cB cL mo rs ex xd li bo cu cd 0 24 (-149) rt (outT 23 255 (-149) kd pr gr pt B) Vw (rnd Vw (lead Vw - (pr : Int))) s H := by
                    rw [hO]
                    exact hw
                  exact L201 Vw (rnd Vw (lead Vw - (pr : Int))) _ _ _ hw hS (lv_sub hl [1] rfl) 
              · have hex8 : exB 23 256 B = 255 := by omega
                refine lv_aload_n hx hb d_Mo_shown24_82 rfl (lv_at hl 1 rfl) ?_
                refine lv_lload hx hb d_Mo_shown24_83 (lv_at hl 0 rfl) ?_
                have hct := c_Mo_none24 l D cB cL mo rs ex xd li bo cu cd 0 rt [] V C sz ⟨by omega, by omega⟩
                have hw9 := hw
                obtain ⟨fc, nc, pp, ⟨len, used, bl, fr, fb, lm, fe, ne, pe, ⟨hK, hP, hD⟩, hrt, hbt, hE, hpe, hlm⟩, hC⟩ := hw9
                have hr1 := hrt.1
                have hr2 := hrt.2.1
                have hb1 := hbt.1
                have hb2 := hbt.2.1
                have hE1 := hE.1
                have hC1 := hC.1
                have hP : va_P D vwCl [(mo, .inr (3, [.ref rs, .int (iz len), .int (iz 0), .ref ex, .int (iz 24), .int (iz (-149)), .ref li, .int (iz used), .ref bo, .int (iz bl), .ref cu])), (rs, .inl (cB, 4096, .inl (az fr))), (ex, .inr (4, [.ref xd, .int (iz ne), .int (iz pe)])), (xd, .inl (cB, 1300, .inl (az fe))), (li, .inl (cL, 160, .inr (.inl (azl lm)))), (bo, .inl (cB, 4096, .inl (az fb))), (cu, .inr (4, [.ref cd, .int (iz nc), .int (iz pp)])), (cd, .inl (cB, 1300, .inl (az fc)))] H := hP
                have hD : va_D (AM mo rs ex xd li bo cu cd) [(mo, .inr (3, [.ref rs, .int (iz len), .int (iz 0), .ref ex, .int (iz 24), .int (iz (-149)), .ref li, .int (iz used), .ref bo, .int (iz bl), .ref cu])), (rs, .inl (cB, 4096, .inl (az fr))), (ex, .inr (4, [.ref xd, .int (iz ne), .int (iz pe)])), (xd, .inl (cB, 1300, .inl (az fe))), (li, .inl (cL, 160, .inr (.inl (azl lm)))), (bo, .inl (cB, 4096, .inl (az fb))), (cu, .inr (4, [.ref cd, .int (iz nc), .int (iz pp)])), (cd, .inl (cB, 1300, .inl (az fc)))] := hD
                refine z_go (va_runV (As := [.long (lz sz)]) (rest := []) ⟨hx, hb, hml, hown, hts⟩ hct.2 (z_cwV hts w_Mo_isNone tw_466 (by decide)) (z_preV hct.1 (va_recv hK hP (ci := 3) (q0 := 0) rfl rfl) hw) rfl rfl hl.1 rfl (lv_room (Nat.le_of_ble_eq_true rfl)) d_Mo_shown24_85 ⟨Nat.zero_le _, Nat.zero_le _⟩) hS (fun _ h9 => h9) (fun v9 t9 H locs hv9 hp9 hz9 hk9 hS => ?_)
                obtain ⟨rfl, hw⟩ := hp9
                have hw := MW.moved hv9.symm hw
                refine W.eq (g2 := F0 m 88 ls [.int (iz (if 2139095040 < sz then 1 else 0))]) rfl ?_
                refine z_if_eq (tgt := 96) hx hb d_Mo_shown24_88 rfl (by split <;> exact ⟨by omega, by omega⟩) (fun hc88 => ?_) (fun hc88 => ?_)
                · have hfr0 : frB 23 B = 0 := by
                    by_cases h8 : 2139095040 < sz
                    · rw [if_pos h8] at hc88
                      omega
                    · omega
                  refine va_ldcS hx hb hown hsx.2.2.1 d_Mo_shown24_96 ?_
                  refine lv_astore hx hb d_Mo_shown24_98 hl (by decide) rfl (fun ls hl => ?_)
                  have hl : lv_has ls 11 [(9, .ref kI), (7, .long (lz sz)), (0, .ref mo), (1, .int (iz kd)), (2, .int (iz (pr : Int))), (3, .int (iz gr)), (4, .int (iz pt)), (5, .long B)] := hl
                  refine lv_iconst (v := iz 0) hx hb d_Mo_shown24_100 rfl ?_
                  refine lv_istore hx hb d_Mo_shown24_101 hl (by decide) rfl (fun ls hl => ?_)
                  have hl : lv_has ls 11 [(10, .int (iz 0)), (9, .ref kI), (7, .long (lz sz)), (0, .ref mo), (1, .int (iz kd)), (2, .int (iz (pr : Int))), (3, .int (iz gr)), (4, .int (iz pt)), (5, .long B)] := hl
                  have hw : MW D cB cL mo rs ex xd li bo cu cd 0 24 (-149) rt ((infL).take 0) V C s H := by
                    rw [List.take_zero]
                    exact hw
                  exact L103 _ kI vI infL 0 0 _ _ _ hw hS (lv_sub hl [3, 1, 0] rfl) (hsx.1) (by decide) (outT1_inf hex8 hfr0) ⟨rfl, Nat.zero_le _⟩ (Nat.lt_succ_self _)
                · have hfr1 : ¬ frB 23 B = 0 := fun h8 => hc88 (if_neg (by omega))
                  refine va_ldcS hx hb hown hsx.2.2.2 d_Mo_shown24_91 ?_
                  refine lv_goto (tgt := 98) hx hb d_Mo_shown24_93 rfl ?_
                  refine lv_astore hx hb d_Mo_shown24_98 hl (by decide) rfl (fun ls hl => ?_)
                  have hl : lv_has ls 11 [(9, .ref kN), (7, .long (lz sz)), (0, .ref mo), (1, .int (iz kd)), (2, .int (iz (pr : Int))), (3, .int (iz gr)), (4, .int (iz pt)), (5, .long B)] := hl
                  refine lv_iconst (v := iz 0) hx hb d_Mo_shown24_100 rfl ?_
                  refine lv_istore hx hb d_Mo_shown24_101 hl (by decide) rfl (fun ls hl => ?_)
                  have hl : lv_has ls 11 [(10, .int (iz 0)), (9, .ref kN), (7, .long (lz sz)), (0, .ref mo), (1, .int (iz kd)), (2, .int (iz (pr : Int))), (3, .int (iz gr)), (4, .int (iz pt)), (5, .long B)] := hl
                  have hw : MW D cB cL mo rs ex xd li bo cu cd 0 24 (-149) rt ((nanL).take 0) V C s H := by
                    rw [List.take_zero]
                    exact hw
                  exact L103 _ kN vN nanL 0 0 _ _ _ hw hS (lv_sub hl [3, 1, 0] rfl) (hsx.2.1) (by decide) (outT1_nan hex8 hfr1) ⟨rfl, Nat.zero_le _⟩ (Nat.lt_succ_self _)
            · exfalso
              omega
          · exfalso
            omega
