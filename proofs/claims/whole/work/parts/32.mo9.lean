theorem d_Mo_row_0 : decode b_Mo_row 0 = .ok (.aload_n 0, 1) := by decide +kernel
theorem d_Mo_row_1 : decode b_Mo_row 1 = .ok (.iconst 0, 1) := by decide +kernel
theorem d_Mo_row_2 : decode b_Mo_row 2 = .ok (.putfield 64, 3) := by decide +kernel
theorem d_Mo_row_5 : decode b_Mo_row 5 = .ok (.lload_n 1, 1) := by decide +kernel
theorem d_Mo_row_6 : decode b_Mo_row 6 = .ok (.lstore 5, 2) := by decide +kernel
theorem d_Mo_row_8 : decode b_Mo_row 8 = .ok (.lload 5, 2) := by decide +kernel
theorem d_Mo_row_10 : decode b_Mo_row 10 = .ok (.lconst 0, 1) := by decide +kernel
theorem d_Mo_row_11 : decode b_Mo_row 11 = .ok (.lcmp, 1) := by decide +kernel
theorem d_Mo_row_12 : decode b_Mo_row 12 = .ok (.ifCond .le (39), 3) := by decide +kernel
theorem d_Mo_row_15 : decode b_Mo_row 15 = .ok (.aload_n 0, 1) := by decide +kernel
theorem d_Mo_row_16 : decode b_Mo_row 16 = .ok (.getfield 20, 3) := by decide +kernel
theorem d_Mo_row_19 : decode b_Mo_row 19 = .ok (.aload_n 0, 1) := by decide +kernel
theorem d_Mo_row_20 : decode b_Mo_row 20 = .ok (.getfield 64, 3) := by decide +kernel
theorem d_Mo_row_23 : decode b_Mo_row 23 = .ok (.lload 5, 2) := by decide +kernel
theorem d_Mo_row_25 : decode b_Mo_row 25 = .ok (.ldc2_w 67, 3) := by decide +kernel
theorem d_Mo_row_28 : decode b_Mo_row 28 = .ok (.lrem, 1) := by decide +kernel
theorem d_Mo_row_29 : decode b_Mo_row 29 = .ok (.lastore, 1) := by decide +kernel
theorem d_Mo_row_30 : decode b_Mo_row 30 = .ok (.aload_n 0, 1) := by decide +kernel
theorem d_Mo_row_31 : decode b_Mo_row 31 = .ok (.dup, 1) := by decide +kernel
theorem d_Mo_row_32 : decode b_Mo_row 32 = .ok (.getfield 64, 3) := by decide +kernel
theorem d_Mo_row_35 : decode b_Mo_row 35 = .ok (.iconst 1, 1) := by decide +kernel
theorem d_Mo_row_36 : decode b_Mo_row 36 = .ok (.iadd, 1) := by decide +kernel
theorem d_Mo_row_37 : decode b_Mo_row 37 = .ok (.putfield 64, 3) := by decide +kernel
theorem d_Mo_row_40 : decode b_Mo_row 40 = .ok (.lload 5, 2) := by decide +kernel
theorem d_Mo_row_42 : decode b_Mo_row 42 = .ok (.ldc2_w 67, 3) := by decide +kernel
theorem d_Mo_row_45 : decode b_Mo_row 45 = .ok (.ldiv, 1) := by decide +kernel
theorem d_Mo_row_46 : decode b_Mo_row 46 = .ok (.lstore 5, 2) := by decide +kernel
theorem d_Mo_row_48 : decode b_Mo_row 48 = .ok (.goto (-40), 3) := by decide +kernel
theorem d_Mo_row_51 : decode b_Mo_row 51 = .ok (.iconst 0, 1) := by decide +kernel
theorem d_Mo_row_52 : decode b_Mo_row 52 = .ok (.istore 5, 2) := by decide +kernel
theorem d_Mo_row_54 : decode b_Mo_row 54 = .ok (.iload 5, 2) := by decide +kernel
theorem d_Mo_row_56 : decode b_Mo_row 56 = .ok (.bipush (29), 2) := by decide +kernel
theorem d_Mo_row_58 : decode b_Mo_row 58 = .ok (.iadd, 1) := by decide +kernel
theorem d_Mo_row_59 : decode b_Mo_row 59 = .ok (.iload_n 3, 1) := by decide +kernel
theorem d_Mo_row_60 : decode b_Mo_row 60 = .ok (.if_icmp .gt (16), 3) := by decide +kernel
theorem d_Mo_row_63 : decode b_Mo_row 63 = .ok (.aload_n 0, 1) := by decide +kernel
theorem d_Mo_row_64 : decode b_Mo_row 64 = .ok (.ldc2_w 69, 3) := by decide +kernel
theorem d_Mo_row_67 : decode b_Mo_row 67 = .ok (.invokevirtual 71, 3) := by decide +kernel
theorem d_Mo_row_70 : decode b_Mo_row 70 = .ok (.iinc 5 (29), 3) := by decide +kernel
theorem d_Mo_row_73 : decode b_Mo_row 73 = .ok (.goto (-19), 3) := by decide +kernel
theorem d_Mo_row_76 : decode b_Mo_row 76 = .ok (.iload_n 3, 1) := by decide +kernel
theorem d_Mo_row_77 : decode b_Mo_row 77 = .ok (.ifCond .le (13), 3) := by decide +kernel
theorem d_Mo_row_80 : decode b_Mo_row 80 = .ok (.aload_n 0, 1) := by decide +kernel
theorem d_Mo_row_81 : decode b_Mo_row 81 = .ok (.lconst 1, 1) := by decide +kernel
theorem d_Mo_row_82 : decode b_Mo_row 82 = .ok (.iload_n 3, 1) := by decide +kernel
theorem d_Mo_row_83 : decode b_Mo_row 83 = .ok (.bipush (29), 2) := by decide +kernel
theorem d_Mo_row_85 : decode b_Mo_row 85 = .ok (.irem, 1) := by decide +kernel
theorem d_Mo_row_86 : decode b_Mo_row 86 = .ok (.lshl, 1) := by decide +kernel
theorem d_Mo_row_87 : decode b_Mo_row 87 = .ok (.invokevirtual 71, 3) := by decide +kernel
theorem d_Mo_row_90 : decode b_Mo_row 90 = .ok (.iconst 0, 1) := by decide +kernel
theorem d_Mo_row_91 : decode b_Mo_row 91 = .ok (.istore 5, 2) := by decide +kernel
theorem d_Mo_row_93 : decode b_Mo_row 93 = .ok (.iload 5, 2) := by decide +kernel
theorem d_Mo_row_95 : decode b_Mo_row 95 = .ok (.bipush (12), 2) := by decide +kernel
theorem d_Mo_row_97 : decode b_Mo_row 97 = .ok (.iadd, 1) := by decide +kernel
theorem d_Mo_row_98 : decode b_Mo_row 98 = .ok (.iload_n 3, 1) := by decide +kernel
theorem d_Mo_row_99 : decode b_Mo_row 99 = .ok (.ineg, 1) := by decide +kernel
theorem d_Mo_row_100 : decode b_Mo_row 100 = .ok (.if_icmp .gt (16), 3) := by decide +kernel
theorem d_Mo_row_103 : decode b_Mo_row 103 = .ok (.aload_n 0, 1) := by decide +kernel
theorem d_Mo_row_104 : decode b_Mo_row 104 = .ok (.ldc2_w 75, 3) := by decide +kernel
theorem d_Mo_row_107 : decode b_Mo_row 107 = .ok (.invokevirtual 71, 3) := by decide +kernel
theorem d_Mo_row_110 : decode b_Mo_row 110 = .ok (.iinc 5 (12), 3) := by decide +kernel
theorem d_Mo_row_113 : decode b_Mo_row 113 = .ok (.goto (-20), 3) := by decide +kernel
theorem d_Mo_row_116 : decode b_Mo_row 116 = .ok (.iconst 0, 1) := by decide +kernel
theorem d_Mo_row_117 : decode b_Mo_row 117 = .ok (.istore 5, 2) := by decide +kernel
theorem d_Mo_row_119 : decode b_Mo_row 119 = .ok (.iload 5, 2) := by decide +kernel
theorem d_Mo_row_121 : decode b_Mo_row 121 = .ok (.iload_n 3, 1) := by decide +kernel
theorem d_Mo_row_122 : decode b_Mo_row 122 = .ok (.ifCond .ge (11), 3) := by decide +kernel
theorem d_Mo_row_125 : decode b_Mo_row 125 = .ok (.iload_n 3, 1) := by decide +kernel
theorem d_Mo_row_126 : decode b_Mo_row 126 = .ok (.ineg, 1) := by decide +kernel
theorem d_Mo_row_127 : decode b_Mo_row 127 = .ok (.bipush (12), 2) := by decide +kernel
theorem d_Mo_row_129 : decode b_Mo_row 129 = .ok (.irem, 1) := by decide +kernel
theorem d_Mo_row_130 : decode b_Mo_row 130 = .ok (.goto (4), 3) := by decide +kernel
theorem d_Mo_row_133 : decode b_Mo_row 133 = .ok (.iconst 0, 1) := by decide +kernel
theorem d_Mo_row_134 : decode b_Mo_row 134 = .ok (.if_icmp .ge (16), 3) := by decide +kernel
theorem d_Mo_row_137 : decode b_Mo_row 137 = .ok (.aload_n 0, 1) := by decide +kernel
theorem d_Mo_row_138 : decode b_Mo_row 138 = .ok (.ldc2_w 77, 3) := by decide +kernel
theorem d_Mo_row_141 : decode b_Mo_row 141 = .ok (.invokevirtual 71, 3) := by decide +kernel
theorem d_Mo_row_144 : decode b_Mo_row 144 = .ok (.iinc 5 (1), 3) := by decide +kernel
theorem d_Mo_row_147 : decode b_Mo_row 147 = .ok (.goto (-28), 3) := by decide +kernel
theorem d_Mo_row_150 : decode b_Mo_row 150 = .ok (.aload 4, 2) := by decide +kernel
theorem d_Mo_row_152 : decode b_Mo_row 152 = .ok (.iconst 0, 1) := by decide +kernel
theorem d_Mo_row_153 : decode b_Mo_row 153 = .ok (.putfield 79, 3) := by decide +kernel
theorem d_Mo_row_156 : decode b_Mo_row 156 = .ok (.aload_n 0, 1) := by decide +kernel
theorem d_Mo_row_157 : decode b_Mo_row 157 = .ok (.getfield 64, 3) := by decide +kernel
theorem d_Mo_row_160 : decode b_Mo_row 160 = .ok (.iconst 1, 1) := by decide +kernel
theorem d_Mo_row_161 : decode b_Mo_row 161 = .ok (.isub, 1) := by decide +kernel
theorem d_Mo_row_162 : decode b_Mo_row 162 = .ok (.istore 5, 2) := by decide +kernel
theorem d_Mo_row_164 : decode b_Mo_row 164 = .ok (.iload 5, 2) := by decide +kernel
theorem d_Mo_row_166 : decode b_Mo_row 166 = .ok (.ifCond .lt (90), 3) := by decide +kernel
theorem d_Mo_row_169 : decode b_Mo_row 169 = .ok (.ldc2_w 82, 3) := by decide +kernel
theorem d_Mo_row_172 : decode b_Mo_row 172 = .ok (.lstore 6, 2) := by decide +kernel
theorem d_Mo_row_174 : decode b_Mo_row 174 = .ok (.lload 6, 2) := by decide +kernel
theorem d_Mo_row_176 : decode b_Mo_row 176 = .ok (.lconst 0, 1) := by decide +kernel
theorem d_Mo_row_177 : decode b_Mo_row 177 = .ok (.lcmp, 1) := by decide +kernel
theorem d_Mo_row_178 : decode b_Mo_row 178 = .ok (.ifCond .le (72), 3) := by decide +kernel
theorem d_Mo_row_181 : decode b_Mo_row 181 = .ok (.aload_n 0, 1) := by decide +kernel
theorem d_Mo_row_182 : decode b_Mo_row 182 = .ok (.getfield 20, 3) := by decide +kernel
theorem d_Mo_row_185 : decode b_Mo_row 185 = .ok (.iload 5, 2) := by decide +kernel
theorem d_Mo_row_187 : decode b_Mo_row 187 = .ok (.laload, 1) := by decide +kernel
theorem d_Mo_row_188 : decode b_Mo_row 188 = .ok (.lload 6, 2) := by decide +kernel
theorem d_Mo_row_190 : decode b_Mo_row 190 = .ok (.ldiv, 1) := by decide +kernel
theorem d_Mo_row_191 : decode b_Mo_row 191 = .ok (.ldc2_w 84, 3) := by decide +kernel
theorem d_Mo_row_194 : decode b_Mo_row 194 = .ok (.lrem, 1) := by decide +kernel
theorem d_Mo_row_195 : decode b_Mo_row 195 = .ok (.l2i, 1) := by decide +kernel
theorem d_Mo_row_196 : decode b_Mo_row 196 = .ok (.i2b, 1) := by decide +kernel
theorem d_Mo_row_197 : decode b_Mo_row 197 = .ok (.istore 8, 2) := by decide +kernel
theorem d_Mo_row_199 : decode b_Mo_row 199 = .ok (.aload 4, 2) := by decide +kernel
theorem d_Mo_row_201 : decode b_Mo_row 201 = .ok (.getfield 79, 3) := by decide +kernel
theorem d_Mo_row_204 : decode b_Mo_row 204 = .ok (.ifCond .ne (11), 3) := by decide +kernel
theorem d_Mo_row_207 : decode b_Mo_row 207 = .ok (.iload 8, 2) := by decide +kernel
theorem d_Mo_row_209 : decode b_Mo_row 209 = .ok (.ifCond .ne (6), 3) := by decide +kernel
theorem d_Mo_row_212 : decode b_Mo_row 212 = .ok (.goto (27), 3) := by decide +kernel
theorem d_Mo_row_215 : decode b_Mo_row 215 = .ok (.aload 4, 2) := by decide +kernel
theorem d_Mo_row_217 : decode b_Mo_row 217 = .ok (.getfield 86, 3) := by decide +kernel
theorem d_Mo_row_220 : decode b_Mo_row 220 = .ok (.aload 4, 2) := by decide +kernel
theorem d_Mo_row_222 : decode b_Mo_row 222 = .ok (.getfield 79, 3) := by decide +kernel
theorem d_Mo_row_225 : decode b_Mo_row 225 = .ok (.iload 8, 2) := by decide +kernel
theorem d_Mo_row_227 : decode b_Mo_row 227 = .ok (.bastore, 1) := by decide +kernel
theorem d_Mo_row_228 : decode b_Mo_row 228 = .ok (.aload 4, 2) := by decide +kernel
theorem d_Mo_row_230 : decode b_Mo_row 230 = .ok (.dup, 1) := by decide +kernel
theorem d_Mo_row_231 : decode b_Mo_row 231 = .ok (.getfield 79, 3) := by decide +kernel
theorem d_Mo_row_234 : decode b_Mo_row 234 = .ok (.iconst 1, 1) := by decide +kernel
theorem d_Mo_row_235 : decode b_Mo_row 235 = .ok (.iadd, 1) := by decide +kernel
theorem d_Mo_row_236 : decode b_Mo_row 236 = .ok (.putfield 79, 3) := by decide +kernel
theorem d_Mo_row_239 : decode b_Mo_row 239 = .ok (.lload 6, 2) := by decide +kernel
theorem d_Mo_row_241 : decode b_Mo_row 241 = .ok (.ldc2_w 84, 3) := by decide +kernel
theorem d_Mo_row_244 : decode b_Mo_row 244 = .ok (.ldiv, 1) := by decide +kernel
theorem d_Mo_row_245 : decode b_Mo_row 245 = .ok (.lstore 6, 2) := by decide +kernel
theorem d_Mo_row_247 : decode b_Mo_row 247 = .ok (.goto (-73), 3) := by decide +kernel
theorem d_Mo_row_250 : decode b_Mo_row 250 = .ok (.iinc 5 (-1), 3) := by decide +kernel
theorem d_Mo_row_253 : decode b_Mo_row 253 = .ok (.goto (-89), 3) := by decide +kernel
theorem d_Mo_row_256 : decode b_Mo_row 256 = .ok (.aload 4, 2) := by decide +kernel
theorem d_Mo_row_258 : decode b_Mo_row 258 = .ok (.aload 4, 2) := by decide +kernel
theorem d_Mo_row_260 : decode b_Mo_row 260 = .ok (.getfield 79, 3) := by decide +kernel
theorem d_Mo_row_263 : decode b_Mo_row 263 = .ok (.iload_n 3, 1) := by decide +kernel
theorem d_Mo_row_264 : decode b_Mo_row 264 = .ok (.ifCond .ge (7), 3) := by decide +kernel
theorem d_Mo_row_267 : decode b_Mo_row 267 = .ok (.iload_n 3, 1) := by decide +kernel
theorem d_Mo_row_268 : decode b_Mo_row 268 = .ok (.goto (4), 3) := by decide +kernel
theorem d_Mo_row_271 : decode b_Mo_row 271 = .ok (.iconst 0, 1) := by decide +kernel
theorem d_Mo_row_272 : decode b_Mo_row 272 = .ok (.iadd, 1) := by decide +kernel
theorem d_Mo_row_273 : decode b_Mo_row 273 = .ok (.putfield 89, 3) := by decide +kernel
theorem d_Mo_row_276 : decode b_Mo_row 276 = .ok (.aload 4, 2) := by decide +kernel
theorem d_Mo_row_278 : decode b_Mo_row 278 = .ok (.getfield 79, 3) := by decide +kernel
theorem d_Mo_row_281 : decode b_Mo_row 281 = .ok (.ifCond .le (33), 3) := by decide +kernel
theorem d_Mo_row_284 : decode b_Mo_row 284 = .ok (.aload 4, 2) := by decide +kernel
theorem d_Mo_row_286 : decode b_Mo_row 286 = .ok (.getfield 86, 3) := by decide +kernel
theorem d_Mo_row_289 : decode b_Mo_row 289 = .ok (.aload 4, 2) := by decide +kernel
theorem d_Mo_row_291 : decode b_Mo_row 291 = .ok (.getfield 79, 3) := by decide +kernel
theorem d_Mo_row_294 : decode b_Mo_row 294 = .ok (.iconst 1, 1) := by decide +kernel
theorem d_Mo_row_295 : decode b_Mo_row 295 = .ok (.isub, 1) := by decide +kernel
theorem d_Mo_row_296 : decode b_Mo_row 296 = .ok (.baload, 1) := by decide +kernel
theorem d_Mo_row_297 : decode b_Mo_row 297 = .ok (.ifCond .ne (17), 3) := by decide +kernel
theorem d_Mo_row_300 : decode b_Mo_row 300 = .ok (.aload 4, 2) := by decide +kernel
theorem d_Mo_row_302 : decode b_Mo_row 302 = .ok (.dup, 1) := by decide +kernel
theorem d_Mo_row_303 : decode b_Mo_row 303 = .ok (.getfield 79, 3) := by decide +kernel
theorem d_Mo_row_306 : decode b_Mo_row 306 = .ok (.iconst 1, 1) := by decide +kernel
theorem d_Mo_row_307 : decode b_Mo_row 307 = .ok (.isub, 1) := by decide +kernel
theorem d_Mo_row_308 : decode b_Mo_row 308 = .ok (.putfield 79, 3) := by decide +kernel
theorem d_Mo_row_311 : decode b_Mo_row 311 = .ok (.goto (-35), 3) := by decide +kernel
theorem d_Mo_row_314 : decode b_Mo_row 314 = .ok (.return_, 1) := by decide +kernel
set_option maxHeartbeats 4000000 in
set_option maxRecDepth 100000 in
theorem c_Mo_row (l : Launch) (D : va_G) (cB cL : ClassId) (mo rs ex xd li bo cu cd : Nat) (co bi le : Int) (rt bt : List Int) (V C : Int) (cf q Vn : Int) (hcf : 0 ≤ cf ∧ cf < 1000000000000000000) (hq : -1074 ≤ q ∧ q ≤ 971) (hVn : Vn = cf * 2 ^ q.toNat * 5 ^ (-q).toNat * 10 ^ (min q 0 + 1080).toNat) (hLf : cf * 2 ^ q.toNat * 5 ^ (-q).toNat < 10 ^ 800) (hLm : 0 ≤ cf * 2 ^ q.toNat * 5 ^ (-q).toNat) : Ct l y_Mo_row (ws_Mo_row) 1 (AM mo rs ex xd li bo cu cd) [.ref mo, .long (lz cf), .int (iz q), .ref ex] (MW D cB cL mo rs ex xd li bo cu cd co bi le rt bt V C) (zR none (MW D cB cL mo rs ex xd li bo cu cd co bi le rt bt Vn C)) := by
  refine z_body zSt_MW (by decide +kernel) rfl (Nat.le_of_ble_eq_true rfl) ?_
  intro p e s m args below meth c ls hx hb hml hr hlk hts0 hown hpre0 H locs hpre hS hl
  have hts : ∀ w ∈ TBL, w.before args s = true := fun w hw => hts0 w (List.mem_cons_of_mem _ hw)
  have hl : lv_has ls 9 [(0, .ref mo), (1, .long (lz cf)), (3, .int (iz q)), (4, .ref ex)] := hl
  have hw := hpre
  have hw9 := hw
  obtain ⟨fc, nc, pp, ⟨len, used, bl, fr, fb, lm, fe, ne, pe, ⟨hK, hP, hD⟩, hrt, hbt, hE, hpe, hlm⟩, hC⟩ := hw9
  have hr1 := hrt.1
  have hr2 := hrt.2.1
  have hb1 := hbt.1
  have hb2 := hbt.2.1
  have hE1 := hE.1
  have hC1 := hC.1
  have L276 : ∀ (N276 : Nat) (h : Int → Int) (n : Int) (lm2 : Int → Int) (u2 : Int) (len : Int) (bl : Int) (fr : Int → Int) (fb : Int → Int) (fc : Int → Int) (nc : Int) (pp : Int) (p2 : Int) (H : Heap) (locs : List Loc) (ls : Array Slot), va_P D vwCl [(mo, .inr (3, [.ref rs, .int (iz len), .int (iz co), .ref ex, .int (iz bi), .int (iz le), .ref li, .int (iz u2), .ref bo, .int (iz bl), .ref cu])), (rs, .inl (cB, 4096, .inl (az fr))), (ex, .inr (4, [.ref xd, .int (iz n), .int (iz p2)])), (xd, .inl (cB, 1300, .inl (az h))), (li, .inl (cL, 160, .inr (.inl (azl lm2)))), (bo, .inl (cB, 4096, .inl (az fb))), (cu, .inr (4, [.ref cd, .int (iz nc), .int (iz pp)])), (cd, .inl (cB, 1300, .inl (az fc)))] H → va_D (AM mo rs ex xd li bo cu cd) [(mo, .inr (3, [.ref rs, .int (iz len), .int (iz co), .ref ex, .int (iz bi), .int (iz le), .ref li, .int (iz u2), .ref bo, .int (iz bl), .ref cu])), (rs, .inl (cB, 4096, .inl (az fr))), (ex, .inr (4, [.ref xd, .int (iz n), .int (iz p2)])), (xd, .inl (cB, 1300, .inl (az h))), (li, .inl (cL, 160, .inr (.inl (azl lm2)))), (bo, .inl (cB, 4096, .inl (az fb))), (cu, .inr (4, [.ref cd, .int (iz nc), .int (iz pp)])), (cd, .inl (cB, 1300, .inl (az fc)))] → va_S (AM mo rs ex xd li bo cu cd) s.heap H locs → lv_has ls 9 [(0, .ref mo), (4, .ref ex)] → (va_K D vwCl (tysM cB cL) s) → (TxM fr len rt) → (TxM fb bl bt) → (RowOK fc nc pp C) → (∀ j, 0 ≤ lm2 j ∧ lm2 j < 1000000000) → (RowOK h n p2 Vn) → (-1400 ≤ p2 ∧ p2 ≤ 1400) → n.toNat < N276 → W p l e (zrm 1) s m args below meth c H locs 0 0 (MQ below (zQ (AM mo rs ex xd li bo cu cd) (zR none (MW D cB cL mo rs ex xd li bo cu cd co bi le rt bt Vn C))) args s 0 0 (AM mo rs ex xd li bo cu cd)) (F0 m 276 ls []) := by
    intro N276
    induction N276 with
    | zero => intro h n lm2 u2 len bl fr fb fc nc pp p2 H locs ls hP hD hS hl hK hrt hbt hC hlm hE hpe hN276; exact absurd hN276 (Nat.not_lt_zero _)
    | succ N276 ih276 =>
      intro h n lm2 u2 len bl fr fb fc nc pp p2 H locs ls hP hD hS hl hK hrt hbt hC hlm hE hpe hN276
      have hE1 := hE.1
      refine lv_aload hx hb d_Mo_row_276 (lv_at hl 1 rfl) ?_
      refine va_get (D := D) (ci := 4) (v := .int (iz n)) (C := R_4) (T := T_4) (N := 3) hx hb hts in_4 hown hK hP 2 rfl rfl 1 (by decide) (hts _ tw_383) (fun _ h9 => h9) rfl d_Mo_row_278 ?_
      refine z_if_le (tgt := 314) hx hb d_Mo_row_281 rfl ⟨by omega, by omega⟩ (fun hc281 => ?_) (fun hc281 => ?_)
      · exact z_vret hx hb hr hlk hS (zR_st zSt_MW) ⟨rfl, _, _, _, ⟨_, _, _, _, _, _, _, _, _, ⟨hK, hP, hD⟩, hrt, hbt, hE, hpe, hlm⟩, hC⟩ d_Mo_row_314
      · have hEn := hE.2.1 (n - 1) (by omega) (by omega)
        refine lv_aload hx hb d_Mo_row_284 (lv_at hl 1 rfl) ?_
        refine va_get (D := D) (ci := 4) (v := .ref xd) (C := R_4) (T := T_4) (N := 3) hx hb hts in_4 hown hK hP 2 rfl rfl 0 (by decide) (hts _ tw_382) (fun _ h9 => h9) rfl d_Mo_row_286 ?_
        refine lv_aload hx hb d_Mo_row_289 (lv_at hl 1 rfl) ?_
        refine va_get (D := D) (ci := 4) (v := .int (iz n)) (C := R_4) (T := T_4) (N := 3) hx hb hts in_4 hown hK hP 2 rfl rfl 1 (by decide) (hts _ tw_383) (fun _ h9 => h9) rfl d_Mo_row_291 ?_
        refine lv_iconst (v := iz 1) hx hb d_Mo_row_294 rfl ?_
        refine z_isub hx hb d_Mo_row_295 ?_
        refine z_bald hx hb hK hP 3 0 rfl rfl (by omega) (by omega) (by decide) d_Mo_row_296 ?_
        refine z_if_ne (tgt := 314) hx hb d_Mo_row_297 rfl ⟨by omega, by omega⟩ (fun hc297 => ?_) (fun hc297 => ?_)
        · exact z_vret hx hb hr hlk hS (zR_st zSt_MW) ⟨rfl, _, _, _, ⟨_, _, _, _, _, _, _, _, _, ⟨hK, hP, hD⟩, hrt, hbt, hE, hpe, hlm⟩, hC⟩ d_Mo_row_314
        · refine lv_aload hx hb d_Mo_row_300 (lv_at hl 1 rfl) ?_
          refine lv_dup hx hb d_Mo_row_302 rfl ?_
          refine va_get (D := D) (ci := 4) (v := .int (iz n)) (C := R_4) (T := T_4) (N := 3) hx hb hts in_4 hown hK hP 2 rfl rfl 1 (by decide) (hts _ tw_383) (fun _ h9 => h9) rfl d_Mo_row_303 ?_
          refine lv_iconst (v := iz 1) hx hb d_Mo_row_306 rfl ?_
          refine z_isub hx hb d_Mo_row_307 ?_
          refine va_put (D := D) (ci := 4) (v := .int (iz (n - 1))) (ty := .int) (C := R_4) (T := T_4) (N := 3) hx hb hts in_4 ty_4 tyok_4 nm_4 hown hK hP hD hS 2 rfl rfl 1 (by decide) (hts _ tw_383) (fun _ h9 => h9) rfl (by decide +kernel) rfl rfl (Nat.le_of_ble_eq_true rfl) d_Mo_row_308 (fun H locs hP hD hS => ?_)
          have hP : va_P D vwCl [(mo, .inr (3, [.ref rs, .int (iz len), .int (iz co), .ref ex, .int (iz bi), .int (iz le), .ref li, .int (iz u2), .ref bo, .int (iz bl), .ref cu])), (rs, .inl (cB, 4096, .inl (az fr))), (ex, .inr (4, [.ref xd, .int (iz (n - 1)), .int (iz p2)])), (xd, .inl (cB, 1300, .inl (az h))), (li, .inl (cL, 160, .inr (.inl (azl lm2)))), (bo, .inl (cB, 4096, .inl (az fb))), (cu, .inr (4, [.ref cd, .int (iz nc), .int (iz pp)])), (cd, .inl (cB, 1300, .inl (az fc)))] H := hP
          have hD : va_D (AM mo rs ex xd li bo cu cd) [(mo, .inr (3, [.ref rs, .int (iz len), .int (iz co), .ref ex, .int (iz bi), .int (iz le), .ref li, .int (iz u2), .ref bo, .int (iz bl), .ref cu])), (rs, .inl (cB, 4096, .inl (az fr))), (ex, .inr (4, [.ref xd, .int (iz (n - 1)), .int (iz p2)])), (xd, .inl (cB, 1300, .inl (az h))), (li, .inl (cL, 160, .inr (.inl (azl lm2)))), (bo, .inl (cB, 4096, .inl (az fb))), (cu, .inr (4, [.ref cd, .int (iz nc), .int (iz pp)])), (cd, .inl (cB, 1300, .inl (az fc)))] := hD
          refine lv_goto (tgt := 276) hx hb d_Mo_row_311 rfl ?_
          exact ih276 h (n - 1) lm2 u2 len bl fr fb fc nc pp p2 _ _ _ hP hD hS (lv_sub hl [0, 1] rfl) hK hrt hbt hC hlm (hE.strip (by omega) hc297) hpe (by omega)
  have L164 : ∀ (N164 : Nat) (h : Int → Int) (n : Int) (i : Int) (lm2 : Int → Int) (u2 : Int) (len : Int) (bl : Int) (fr : Int → Int) (fb : Int → Int) (fc : Int → Int) (nc : Int) (pp : Int) (p2 : Int) (H : Heap) (locs : List Loc) (ls : Array Slot), va_P D vwCl [(mo, .inr (3, [.ref rs, .int (iz len), .int (iz co), .ref ex, .int (iz bi), .int (iz le), .ref li, .int (iz u2), .ref bo, .int (iz bl), .ref cu])), (rs, .inl (cB, 4096, .inl (az fr))), (ex, .inr (4, [.ref xd, .int (iz n), .int (iz p2)])), (xd, .inl (cB, 1300, .inl (az h))), (li, .inl (cL, 160, .inr (.inl (azl lm2)))), (bo, .inl (cB, 4096, .inl (az fb))), (cu, .inr (4, [.ref cd, .int (iz nc), .int (iz pp)])), (cd, .inl (cB, 1300, .inl (az fc)))] H → va_D (AM mo rs ex xd li bo cu cd) [(mo, .inr (3, [.ref rs, .int (iz len), .int (iz co), .ref ex, .int (iz bi), .int (iz le), .ref li, .int (iz u2), .ref bo, .int (iz bl), .ref cu])), (rs, .inl (cB, 4096, .inl (az fr))), (ex, .inr (4, [.ref xd, .int (iz n), .int (iz p2)])), (xd, .inl (cB, 1300, .inl (az h))), (li, .inl (cL, 160, .inr (.inl (azl lm2)))), (bo, .inl (cB, 4096, .inl (az fb))), (cu, .inr (4, [.ref cd, .int (iz nc), .int (iz pp)])), (cd, .inl (cB, 1300, .inl (az fc)))] → va_S (AM mo rs ex xd li bo cu cd) s.heap H locs → lv_has ls 9 [(0, .ref mo), (3, .int (iz q)), (4, .ref ex), (5, .int (iz i))] → (va_K D vwCl (tysM cB cL) s) → (TxM fr len rt) → (TxM fb bl bt) → (RowOK fc nc pp C) → (LmOK lm2 u2 (cf * 2 ^ q.toNat * 5 ^ (-q).toNat)) → (-1 ≤ i ∧ i < u2 ∨ i = u2 - 1 ∧ -1 ≤ i) → (DigI h n (cf * 2 ^ q.toNat * 5 ^ (-q).toNat / 1000000000 ^ (i + 1).toNat)) → (i + 1).toNat < N164 → W p l e (zrm 1) s m args below meth c H locs 0 0 (MQ below (zQ (AM mo rs ex xd li bo cu cd) (zR none (MW D cB cL mo rs ex xd li bo cu cd co bi le rt bt Vn C))) args s 0 0 (AM mo rs ex xd li bo cu cd)) (F0 m 164 ls []) := by
    intro N164
    induction N164 with
    | zero => intro h n i lm2 u2 len bl fr fb fc nc pp p2 H locs ls hP hD hS hl hK hrt hbt hC hLm2 hi hG hN164; exact absurd hN164 (Nat.not_lt_zero _)
    | succ N164 ih164 =>
      intro h n i lm2 u2 len bl fr fb fc nc pp p2 H locs ls hP hD hS hl hK hrt hbt hC hLm2 hi hG hN164
      have L174 : ∀ (N174 : Nat) (h : Int → Int) (n : Int) (w : Nat) (H : Heap) (locs : List Loc) (ls : Array Slot), va_P D vwCl [(mo, .inr (3, [.ref rs, .int (iz len), .int (iz co), .ref ex, .int (iz bi), .int (iz le), .ref li, .int (iz u2), .ref bo, .int (iz bl), .ref cu])), (rs, .inl (cB, 4096, .inl (az fr))), (ex, .inr (4, [.ref xd, .int (iz n), .int (iz p2)])), (xd, .inl (cB, 1300, .inl (az h))), (li, .inl (cL, 160, .inr (.inl (azl lm2)))), (bo, .inl (cB, 4096, .inl (az fb))), (cu, .inr (4, [.ref cd, .int (iz nc), .int (iz pp)])), (cd, .inl (cB, 1300, .inl (az fc)))] H → va_D (AM mo rs ex xd li bo cu cd) [(mo, .inr (3, [.ref rs, .int (iz len), .int (iz co), .ref ex, .int (iz bi), .int (iz le), .ref li, .int (iz u2), .ref bo, .int (iz bl), .ref cu])), (rs, .inl (cB, 4096, .inl (az fr))), (ex, .inr (4, [.ref xd, .int (iz n), .int (iz p2)])), (xd, .inl (cB, 1300, .inl (az h))), (li, .inl (cL, 160, .inr (.inl (azl lm2)))), (bo, .inl (cB, 4096, .inl (az fb))), (cu, .inr (4, [.ref cd, .int (iz nc), .int (iz pp)])), (cd, .inl (cB, 1300, .inl (az fc)))] → va_S (AM mo rs ex xd li bo cu cd) s.heap H locs → lv_has ls 9 [(0, .ref mo), (3, .int (iz q)), (4, .ref ex), (5, .int (iz i)), (6, .long (lz (tenW w)))] → (w ≤ 9) → (0 ≤ i) → (DigI h n (cf * 2 ^ q.toNat * 5 ^ (-q).toNat / (1000000000 ^ i.toNat * 10 ^ w))) → w < N174 → W p l e (zrm 1) s m args below meth c H locs 0 0 (MQ below (zQ (AM mo rs ex xd li bo cu cd) (zR none (MW D cB cL mo rs ex xd li bo cu cd co bi le rt bt Vn C))) args s 0 0 (AM mo rs ex xd li bo cu cd)) (F0 m 174 ls []) := by
        intro N174
        induction N174 with
        | zero => intro h n w H locs ls hP hD hS hl hw9 hi0 hG hN174; exact absurd hN174 (Nat.not_lt_zero _)
        | succ N174 ih174 =>
          intro h n w H locs ls hP hD hS hl hw9 hi0 hG hN174
          have hl1 := hLm2.1
          have htw := tenW_r w hw9
          have hlr := hLm2.2.1 i
          have hnl := hG.len (b := 800) (Int.lt_of_le_of_lt (quo_le hLm _ (Int.mul_pos (Int.pow_pos (by decide)) (pow_pos10 _))) hLf)
          have hn0 := hG.1
          refine lv_lload hx hb d_Mo_row_174 (lv_at hl 4 rfl) ?_
          refine lv_lconst (v := lz 0) hx hb d_Mo_row_176 (by decide) ?_
          refine z_lif_le (tgt := 250) hx hb d_Mo_row_177 d_Mo_row_178 rfl ⟨by omega, by omega⟩ ⟨by omega, by omega⟩ (fun hc177 => ?_) (fun hc177 => ?_)
          · refine lv_iinc (k := 3) (v := (iz (i - 1))) hx hb d_Mo_row_250 hl rfl (by show iz _ + iz (-1) = _; rw [← iz_add]; try rfl) (by decide) rfl (fun ls hl => ?_)
            have hl : lv_has ls 9 [(5, .int (iz (i - 1))), (0, .ref mo), (3, .int (iz q)), (4, .ref ex), (6, .long (lz (tenW w)))] := hl
            refine lv_goto (tgt := 164) hx hb d_Mo_row_253 rfl ?_
            exact ih164 h n (i - 1) lm2 u2 len bl fr fb fc nc pp p2 _ _ _ hP hD hS (lv_sub hl [1, 2, 3, 0] rfl) hK hrt hbt hC hLm2 (by omega) (by
                    rw [show (i - 1 + 1).toNat = i.toNat by omega]
                    rw [show w = 0 by have := tenW_r w hw9; omega, Int.pow_zero, Int.mul_one] at hG
                    exact hG) (by omega)
          · have hdd : 0 ≤ lm2 i / tenW w ∧ lm2 i / tenW w ≤ lm2 i := ⟨Int.ediv_nonneg (by omega) (by omega), Int.ediv_le_self _ (by omega)⟩
            have hqs := quo_step hLm2 (k := i.toNat) (w := w) (by omega) hw9 (by omega)
            rw [Int.toNat_of_nonneg hi0] at hqs
            refine lv_aload_n hx hb d_Mo_row_181 rfl (lv_at hl 0 rfl) ?_
            refine va_get (D := D) (ci := 3) (v := .ref li) (C := R_3) (T := T_3) (N := 11) hx hb hts in_3 hown hK hP 0 rfl rfl 6 (by decide) (hts _ tw_398) (fun _ h9 => h9) rfl d_Mo_row_182 ?_
            refine lv_iload hx hb d_Mo_row_185 (lv_at hl 3 rfl) ?_
            refine z_lald hx hb hK hP 4 1 rfl rfl (by omega) (by omega) (by decide) d_Mo_row_187 ?_
            refine lv_lload hx hb d_Mo_row_188 (lv_at hl 4 rfl) ?_
            refine z_ldiv hx hb d_Mo_row_190 ⟨by omega, by omega⟩ ⟨by omega, by omega⟩ ?_
            refine lv_ldc2 (v := (10 : Int64)) hx hb hown (hts _ tw_503) d_Mo_row_191 ?_
            refine z_topl (y := lz (10)) (by decide) ?_
            refine z_lrem hx hb d_Mo_row_194 ⟨by omega, by omega⟩ ⟨by omega, by omega⟩ ?_
            refine z_l2i hx hb d_Mo_row_195 ?_
            refine z_i2b hx hb d_Mo_row_196 ⟨by omega, by omega⟩ ?_
            refine lv_istore hx hb d_Mo_row_197 hl (by decide) rfl (fun ls hl => ?_)
            have hl : lv_has ls 9 [(8, .int (iz (((lm2 i) / (tenW w)) % 10))), (0, .ref mo), (3, .int (iz q)), (4, .ref ex), (5, .int (iz i)), (6, .long (lz (tenW w)))] := hl
            refine lv_aload hx hb d_Mo_row_199 (lv_at hl 3 rfl) ?_
            refine va_get (D := D) (ci := 4) (v := .int (iz n)) (C := R_4) (T := T_4) (N := 3) hx hb hts in_4 hown hK hP 2 rfl rfl 1 (by decide) (hts _ tw_383) (fun _ h9 => h9) rfl d_Mo_row_201 ?_
            refine z_if_ne (tgt := 215) hx hb d_Mo_row_204 rfl ⟨by omega, by omega⟩ (fun hc204 => ?_) (fun hc204 => ?_)
            · refine lv_aload hx hb d_Mo_row_215 (lv_at hl 3 rfl) ?_
              refine va_get (D := D) (ci := 4) (v := .ref xd) (C := R_4) (T := T_4) (N := 3) hx hb hts in_4 hown hK hP 2 rfl rfl 0 (by decide) (hts _ tw_382) (fun _ h9 => h9) rfl d_Mo_row_217 ?_
              refine lv_aload hx hb d_Mo_row_220 (lv_at hl 3 rfl) ?_
              refine va_get (D := D) (ci := 4) (v := .int (iz n)) (C := R_4) (T := T_4) (N := 3) hx hb hts in_4 hown hK hP 2 rfl rfl 1 (by decide) (hts _ tw_383) (fun _ h9 => h9) rfl d_Mo_row_222 ?_
              refine lv_iload hx hb d_Mo_row_225 (lv_at hl 0 rfl) ?_
              refine z_bast hx hb hK hP hD hS 3 0 rfl rfl (by omega) (by omega) (by decide) ⟨by omega, by omega⟩ d_Mo_row_227 (fun H locs hP hD hS => ?_)
              have hP : va_P D vwCl [(mo, .inr (3, [.ref rs, .int (iz len), .int (iz co), .ref ex, .int (iz bi), .int (iz le), .ref li, .int (iz u2), .ref bo, .int (iz bl), .ref cu])), (rs, .inl (cB, 4096, .inl (az fr))), (ex, .inr (4, [.ref xd, .int (iz n), .int (iz p2)])), (xd, .inl (cB, 1300, .inl (az (up h n (((lm2 i) / (tenW w)) % 10))))), (li, .inl (cL, 160, .inr (.inl (azl lm2)))), (bo, .inl (cB, 4096, .inl (az fb))), (cu, .inr (4, [.ref cd, .int (iz nc), .int (iz pp)])), (cd, .inl (cB, 1300, .inl (az fc)))] H := hP
              have hD : va_D (AM mo rs ex xd li bo cu cd) [(mo, .inr (3, [.ref rs, .int (iz len), .int (iz co), .ref ex, .int (iz bi), .int (iz le), .ref li, .int (iz u2), .ref bo, .int (iz bl), .ref cu])), (rs, .inl (cB, 4096, .inl (az fr))), (ex, .inr (4, [.ref xd, .int (iz n), .int (iz p2)])), (xd, .inl (cB, 1300, .inl (az (up h n (((lm2 i) / (tenW w)) % 10))))), (li, .inl (cL, 160, .inr (.inl (azl lm2)))), (bo, .inl (cB, 4096, .inl (az fb))), (cu, .inr (4, [.ref cd, .int (iz nc), .int (iz pp)])), (cd, .inl (cB, 1300, .inl (az fc)))] := hD
              refine lv_aload hx hb d_Mo_row_228 (lv_at hl 3 rfl) ?_
              refine lv_dup hx hb d_Mo_row_230 rfl ?_
              refine va_get (D := D) (ci := 4) (v := .int (iz n)) (C := R_4) (T := T_4) (N := 3) hx hb hts in_4 hown hK hP 2 rfl rfl 1 (by decide) (hts _ tw_383) (fun _ h9 => h9) rfl d_Mo_row_231 ?_
              refine lv_iconst (v := iz 1) hx hb d_Mo_row_234 rfl ?_
              refine z_iadd hx hb d_Mo_row_235 ?_
              refine va_put (D := D) (ci := 4) (v := .int (iz (n + 1))) (ty := .int) (C := R_4) (T := T_4) (N := 3) hx hb hts in_4 ty_4 tyok_4 nm_4 hown hK hP hD hS 2 rfl rfl 1 (by decide) (hts _ tw_383) (fun _ h9 => h9) rfl (by decide +kernel) rfl rfl (Nat.le_of_ble_eq_true rfl) d_Mo_row_236 (fun H locs hP hD hS => ?_)
              have hP : va_P D vwCl [(mo, .inr (3, [.ref rs, .int (iz len), .int (iz co), .ref ex, .int (iz bi), .int (iz le), .ref li, .int (iz u2), .ref bo, .int (iz bl), .ref cu])), (rs, .inl (cB, 4096, .inl (az fr))), (ex, .inr (4, [.ref xd, .int (iz (n + 1)), .int (iz p2)])), (xd, .inl (cB, 1300, .inl (az (up h n (((lm2 i) / (tenW w)) % 10))))), (li, .inl (cL, 160, .inr (.inl (azl lm2)))), (bo, .inl (cB, 4096, .inl (az fb))), (cu, .inr (4, [.ref cd, .int (iz nc), .int (iz pp)])), (cd, .inl (cB, 1300, .inl (az fc)))] H := hP
              have hD : va_D (AM mo rs ex xd li bo cu cd) [(mo, .inr (3, [.ref rs, .int (iz len), .int (iz co), .ref ex, .int (iz bi), .int (iz le), .ref li, .int (iz u2), .ref bo, .int (iz bl), .ref cu])), (rs, .inl (cB, 4096, .inl (az fr))), (ex, .inr (4, [.ref xd, .int (iz (n + 1)), .int (iz p2)])), (xd, .inl (cB, 1300, .inl (az (up h n (((lm2 i) / (tenW w)) % 10))))), (li, .inl (cL, 160, .inr (.inl (azl lm2)))), (bo, .inl (cB, 4096, .inl (az fb))), (cu, .inr (4, [.ref cd, .int (iz nc), .int (iz pp)])), (cd, .inl (cB, 1300, .inl (az fc)))] := hD
              refine lv_lload hx hb d_Mo_row_239 (lv_at hl 5 rfl) ?_
              refine lv_ldc2 (v := (10 : Int64)) hx hb hown (hts _ tw_503) d_Mo_row_241 ?_
              refine z_topl (y := lz (10)) (by decide) ?_
              refine z_ldiv hx hb d_Mo_row_244 ⟨by omega, by omega⟩ ⟨by omega, by omega⟩ ?_
              refine z_rl (b := tenW (w - 1)) (tenW_d w hw9 (by omega)) ?_
              refine lv_lstore hx hb d_Mo_row_245 hl (by decide) rfl (fun ls hl => ?_)
              have hl : lv_has ls 9 [(6, .long (lz (tenW (w - 1)))), (8, .int (iz (((lm2 i) / (tenW w)) % 10))), (0, .ref mo), (3, .int (iz q)), (4, .ref ex), (5, .int (iz i))] := hl
              refine lv_goto (tgt := 174) hx hb d_Mo_row_247 rfl ?_
              exact ih174 (up h n (((lm2 i) / (tenW w)) % 10)) (n + 1) (w - 1) _ _ _ hP hD hS (lv_sub hl [2, 3, 4, 5, 0] rfl) (by omega) hi0 (by rw [hqs]; exact hG.put ⟨by omega, by omega⟩ (fun h8 => by omega)) (by omega)
            · refine lv_iload hx hb d_Mo_row_207 (lv_at hl 0 rfl) ?_
              refine z_if_ne (tgt := 215) hx hb d_Mo_row_209 rfl ⟨by omega, by omega⟩ (fun hc209 => ?_) (fun hc209 => ?_)
              · refine lv_aload hx hb d_Mo_row_215 (lv_at hl 3 rfl) ?_
                refine va_get (D := D) (ci := 4) (v := .ref xd) (C := R_4) (T := T_4) (N := 3) hx hb hts in_4 hown hK hP 2 rfl rfl 0 (by decide) (hts _ tw_382) (fun _ h9 => h9) rfl d_Mo_row_217 ?_
                refine lv_aload hx hb d_Mo_row_220 (lv_at hl 3 rfl) ?_
                refine va_get (D := D) (ci := 4) (v := .int (iz n)) (C := R_4) (T := T_4) (N := 3) hx hb hts in_4 hown hK hP 2 rfl rfl 1 (by decide) (hts _ tw_383) (fun _ h9 => h9) rfl d_Mo_row_222 ?_
                refine lv_iload hx hb d_Mo_row_225 (lv_at hl 0 rfl) ?_
                refine z_bast hx hb hK hP hD hS 3 0 rfl rfl (by omega) (by omega) (by decide) ⟨by omega, by omega⟩ d_Mo_row_227 (fun H locs hP hD hS => ?_)
                have hP : va_P D vwCl [(mo, .inr (3, [.ref rs, .int (iz len), .int (iz co), .ref ex, .int (iz bi), .int (iz le), .ref li, .int (iz u2), .ref bo, .int (iz bl), .ref cu])), (rs, .inl (cB, 4096, .inl (az fr))), (ex, .inr (4, [.ref xd, .int (iz n), .int (iz p2)])), (xd, .inl (cB, 1300, .inl (az (up h n (((lm2 i) / (tenW w)) % 10))))), (li, .inl (cL, 160, .inr (.inl (azl lm2)))), (bo, .inl (cB, 4096, .inl (az fb))), (cu, .inr (4, [.ref cd, .int (iz nc), .int (iz pp)])), (cd, .inl (cB, 1300, .inl (az fc)))] H := hP
                have hD : va_D (AM mo rs ex xd li bo cu cd) [(mo, .inr (3, [.ref rs, .int (iz len), .int (iz co), .ref ex, .int (iz bi), .int (iz le), .ref li, .int (iz u2), .ref bo, .int (iz bl), .ref cu])), (rs, .inl (cB, 4096, .inl (az fr))), (ex, .inr (4, [.ref xd, .int (iz n), .int (iz p2)])), (xd, .inl (cB, 1300, .inl (az (up h n (((lm2 i) / (tenW w)) % 10))))), (li, .inl (cL, 160, .inr (.inl (azl lm2)))), (bo, .inl (cB, 4096, .inl (az fb))), (cu, .inr (4, [.ref cd, .int (iz nc), .int (iz pp)])), (cd, .inl (cB, 1300, .inl (az fc)))] := hD
                refine lv_aload hx hb d_Mo_row_228 (lv_at hl 3 rfl) ?_
                refine lv_dup hx hb d_Mo_row_230 rfl ?_
                refine va_get (D := D) (ci := 4) (v := .int (iz n)) (C := R_4) (T := T_4) (N := 3) hx hb hts in_4 hown hK hP 2 rfl rfl 1 (by decide) (hts _ tw_383) (fun _ h9 => h9) rfl d_Mo_row_231 ?_
                refine lv_iconst (v := iz 1) hx hb d_Mo_row_234 rfl ?_
                refine z_iadd hx hb d_Mo_row_235 ?_
                refine va_put (D := D) (ci := 4) (v := .int (iz (n + 1))) (ty := .int) (C := R_4) (T := T_4) (N := 3) hx hb hts in_4 ty_4 tyok_4 nm_4 hown hK hP hD hS 2 rfl rfl 1 (by decide) (hts _ tw_383) (fun _ h9 => h9) rfl (by decide +kernel) rfl rfl (Nat.le_of_ble_eq_true rfl) d_Mo_row_236 (fun H locs hP hD hS => ?_)
                have hP : va_P D vwCl [(mo, .inr (3, [.ref rs, .int (iz len), .int (iz co), .ref ex, .int (iz bi), .int (iz le), .ref li, .int (iz u2), .ref bo, .int (iz bl), .ref cu])), (rs, .inl (cB, 4096, .inl (az fr))), (ex, .inr (4, [.ref xd, .int (iz (n + 1)), .int (iz p2)])), (xd, .inl (cB, 1300, .inl (az (up h n (((lm2 i) / (tenW w)) % 10))))), (li, .inl (cL, 160, .inr (.inl (azl lm2)))), (bo, .inl (cB, 4096, .inl (az fb))), (cu, .inr (4, [.ref cd, .int (iz nc), .int (iz pp)])), (cd, .inl (cB, 1300, .inl (az fc)))] H := hP
                have hD : va_D (AM mo rs ex xd li bo cu cd) [(mo, .inr (3, [.ref rs, .int (iz len), .int (iz co), .ref ex, .int (iz bi), .int (iz le), .ref li, .int (iz u2), .ref bo, .int (iz bl), .ref cu])), (rs, .inl (cB, 4096, .inl (az fr))), (ex, .inr (4, [.ref xd, .int (iz (n + 1)), .int (iz p2)])), (xd, .inl (cB, 1300, .inl (az (up h n (((lm2 i) / (tenW w)) % 10))))), (li, .inl (cL, 160, .inr (.inl (azl lm2)))), (bo, .inl (cB, 4096, .inl (az fb))), (cu, .inr (4, [.ref cd, .int (iz nc), .int (iz pp)])), (cd, .inl (cB, 1300, .inl (az fc)))] := hD
                refine lv_lload hx hb d_Mo_row_239 (lv_at hl 5 rfl) ?_
                refine lv_ldc2 (v := (10 : Int64)) hx hb hown (hts _ tw_503) d_Mo_row_241 ?_
                refine z_topl (y := lz (10)) (by decide) ?_
                refine z_ldiv hx hb d_Mo_row_244 ⟨by omega, by omega⟩ ⟨by omega, by omega⟩ ?_
                refine z_rl (b := tenW (w - 1)) (tenW_d w hw9 (by omega)) ?_
                refine lv_lstore hx hb d_Mo_row_245 hl (by decide) rfl (fun ls hl => ?_)
                have hl : lv_has ls 9 [(6, .long (lz (tenW (w - 1)))), (8, .int (iz (((lm2 i) / (tenW w)) % 10))), (0, .ref mo), (3, .int (iz q)), (4, .ref ex), (5, .int (iz i))] := hl
                refine lv_goto (tgt := 174) hx hb d_Mo_row_247 rfl ?_
                exact ih174 (up h n (((lm2 i) / (tenW w)) % 10)) (n + 1) (w - 1) _ _ _ hP hD hS (lv_sub hl [2, 3, 4, 5, 0] rfl) (by omega) hi0 (by rw [hqs]; exact hG.put ⟨by omega, by omega⟩ (fun h8 => by omega)) (by omega)
              · refine lv_goto (tgt := 239) hx hb d_Mo_row_212 rfl ?_
                refine lv_lload hx hb d_Mo_row_239 (lv_at hl 5 rfl) ?_
                refine lv_ldc2 (v := (10 : Int64)) hx hb hown (hts _ tw_503) d_Mo_row_241 ?_
                refine z_topl (y := lz (10)) (by decide) ?_
                refine z_ldiv hx hb d_Mo_row_244 ⟨by omega, by omega⟩ ⟨by omega, by omega⟩ ?_
                refine z_rl (b := tenW (w - 1)) (tenW_d w hw9 (by omega)) ?_
                refine lv_lstore hx hb d_Mo_row_245 hl (by decide) rfl (fun ls hl => ?_)
                have hl : lv_has ls 9 [(6, .long (lz (tenW (w - 1)))), (8, .int (iz (((lm2 i) / (tenW w)) % 10))), (0, .ref mo), (3, .int (iz q)), (4, .ref ex), (5, .int (iz i))] := hl
                refine lv_goto (tgt := 174) hx hb d_Mo_row_247 rfl ?_
                exact ih174 h n (w - 1) _ _ _ hP hD hS (lv_sub hl [2, 3, 4, 5, 0] rfl) (by omega) hi0 (by
                          have e8 := hG.z hc204
                          rw [hqs, hc209, e8]
                          rw [e8] at hG
                          exact hG) (by omega)
      have hl1 := hLm2.1
      refine lv_iload hx hb d_Mo_row_164 (lv_at hl 3 rfl) ?_
      refine z_if_lt (tgt := 256) hx hb d_Mo_row_166 rfl ⟨by omega, by omega⟩ (fun hc166 => ?_) (fun hc166 => ?_)
      · have hG9 : DigI h n (cf * 2 ^ q.toNat * 5 ^ (-q).toNat) := by
          rw [show (i + 1).toNat = 0 by omega, Int.pow_zero, Int.ediv_one] at hG
          exact hG
        have hnl := hG9.len (b := 800) hLf
        have hn0 := hG9.1
        refine lv_aload hx hb d_Mo_row_256 (lv_at hl 2 rfl) ?_
        refine lv_aload hx hb d_Mo_row_258 (lv_at hl 2 rfl) ?_
        refine va_get (D := D) (ci := 4) (v := .int (iz n)) (C := R_4) (T := T_4) (N := 3) hx hb hts in_4 hown hK hP 2 rfl rfl 1 (by decide) (hts _ tw_383) (fun _ h9 => h9) rfl d_Mo_row_260 ?_
        refine lv_iload_n hx hb d_Mo_row_263 rfl (lv_at hl 1 rfl) ?_
        refine z_if_ge (tgt := 271) hx hb d_Mo_row_264 rfl ⟨by omega, by omega⟩ (fun hc264 => ?_) (fun hc264 => ?_)
        · refine lv_iconst (v := iz 0) hx hb d_Mo_row_271 rfl ?_
          refine z_ri (b := min q 0) (by omega) ?_
          refine z_iadd hx hb d_Mo_row_272 ?_
          refine va_put (D := D) (ci := 4) (v := .int (iz (n + (min q 0)))) (ty := .int) (C := R_4) (T := T_4) (N := 3) hx hb hts in_4 ty_4 tyok_4 nm_4 hown hK hP hD hS 2 rfl rfl 2 (by decide) (hts _ tw_384) (fun _ h9 => h9) rfl (by decide +kernel) rfl rfl (Nat.le_of_ble_eq_true rfl) d_Mo_row_273 (fun H locs hP hD hS => ?_)
          have hP : va_P D vwCl [(mo, .inr (3, [.ref rs, .int (iz len), .int (iz co), .ref ex, .int (iz bi), .int (iz le), .ref li, .int (iz u2), .ref bo, .int (iz bl), .ref cu])), (rs, .inl (cB, 4096, .inl (az fr))), (ex, .inr (4, [.ref xd, .int (iz n), .int (iz (n + (min q 0)))])), (xd, .inl (cB, 1300, .inl (az h))), (li, .inl (cL, 160, .inr (.inl (azl lm2)))), (bo, .inl (cB, 4096, .inl (az fb))), (cu, .inr (4, [.ref cd, .int (iz nc), .int (iz pp)])), (cd, .inl (cB, 1300, .inl (az fc)))] H := hP
          have hD : va_D (AM mo rs ex xd li bo cu cd) [(mo, .inr (3, [.ref rs, .int (iz len), .int (iz co), .ref ex, .int (iz bi), .int (iz le), .ref li, .int (iz u2), .ref bo, .int (iz bl), .ref cu])), (rs, .inl (cB, 4096, .inl (az fr))), (ex, .inr (4, [.ref xd, .int (iz n), .int (iz (n + (min q 0)))])), (xd, .inl (cB, 1300, .inl (az h))), (li, .inl (cL, 160, .inr (.inl (azl lm2)))), (bo, .inl (cB, 4096, .inl (az fb))), (cu, .inr (4, [.ref cd, .int (iz nc), .int (iz pp)])), (cd, .inl (cB, 1300, .inl (az fc)))] := hD
          exact L276 _ h n lm2 u2 len bl fr fb fc nc pp (n + min q 0) _ _ _ hP hD hS (lv_sub hl [0, 2] rfl) hK hrt hbt hC hLm2.2.1 (DigI.row hG9 (by omega) ⟨by omega, by omega⟩ hVn) ⟨by omega, by omega⟩ (Nat.lt_succ_self _)
        · refine lv_iload_n hx hb d_Mo_row_267 rfl (lv_at hl 1 rfl) ?_
          refine z_ri (b := min q 0) (by omega) ?_
          refine lv_goto (tgt := 272) hx hb d_Mo_row_268 rfl ?_
          refine z_iadd hx hb d_Mo_row_272 ?_
          refine va_put (D := D) (ci := 4) (v := .int (iz (n + (min q 0)))) (ty := .int) (C := R_4) (T := T_4) (N := 3) hx hb hts in_4 ty_4 tyok_4 nm_4 hown hK hP hD hS 2 rfl rfl 2 (by decide) (hts _ tw_384) (fun _ h9 => h9) rfl (by decide +kernel) rfl rfl (Nat.le_of_ble_eq_true rfl) d_Mo_row_273 (fun H locs hP hD hS => ?_)
          have hP : va_P D vwCl [(mo, .inr (3, [.ref rs, .int (iz len), .int (iz co), .ref ex, .int (iz bi), .int (iz le), .ref li, .int (iz u2), .ref bo, .int (iz bl), .ref cu])), (rs, .inl (cB, 4096, .inl (az fr))), (ex, .inr (4, [.ref xd, .int (iz n), .int (iz (n + (min q 0)))])), (xd, .inl (cB, 1300, .inl (az h))), (li, .inl (cL, 160, .inr (.inl (azl lm2)))), (bo, .inl (cB, 4096, .inl (az fb))), (cu, .inr (4, [.ref cd, .int (iz nc), .int (iz pp)])), (cd, .inl (cB, 1300, .inl (az fc)))] H := hP
          have hD : va_D (AM mo rs ex xd li bo cu cd) [(mo, .inr (3, [.ref rs, .int (iz len), .int (iz co), .ref ex, .int (iz bi), .int (iz le), .ref li, .int (iz u2), .ref bo, .int (iz bl), .ref cu])), (rs, .inl (cB, 4096, .inl (az fr))), (ex, .inr (4, [.ref xd, .int (iz n), .int (iz (n + (min q 0)))])), (xd, .inl (cB, 1300, .inl (az h))), (li, .inl (cL, 160, .inr (.inl (azl lm2)))), (bo, .inl (cB, 4096, .inl (az fb))), (cu, .inr (4, [.ref cd, .int (iz nc), .int (iz pp)])), (cd, .inl (cB, 1300, .inl (az fc)))] := hD
          exact L276 _ h n lm2 u2 len bl fr fb fc nc pp (n + min q 0) _ _ _ hP hD hS (lv_sub hl [0, 2] rfl) hK hrt hbt hC hLm2.2.1 (DigI.row hG9 (by omega) ⟨by omega, by omega⟩ hVn) ⟨by omega, by omega⟩ (Nat.lt_succ_self _)
      · refine lv_ldc2 (v := (100000000 : Int64)) hx hb hown (hts _ tw_502) d_Mo_row_169 ?_
        refine z_topl (y := lz (100000000)) (by decide) ?_
        refine lv_lstore hx hb d_Mo_row_172 hl (by decide) rfl (fun ls hl => ?_)
        have hl : lv_has ls 9 [(6, .long (lz 100000000)), (0, .ref mo), (3, .int (iz q)), (4, .ref ex), (5, .int (iz i))] := hl
        exact L174 _ h n 9 _ _ _ hP hD hS (lv_sub hl [1, 2, 3, 4, 0] rfl) (Nat.le_refl 9) (by omega) (by rw [← quo_next, show i.toNat + 1 = (i + 1).toNat by omega]; exact hG) (Nat.lt_succ_self _)
  have L119 : ∀ (N119 : Nat) (k : Int) (H : Heap) (locs : List Loc) (ls : Array Slot), MWL D cB cL mo rs ex xd li bo cu cd co bi le rt bt V C (cf * 2 ^ q.toNat * 5 ^ (((-q).toNat - (-q).toNat % 12) + k.toNat)) s H → va_S (AM mo rs ex xd li bo cu cd) s.heap H locs → lv_has ls 9 [(0, .ref mo), (3, .int (iz q)), (4, .ref ex), (5, .int (iz k))] → (0 ≤ k ∧ (k ≤ (-q) % 12 ∧ q < 0 ∨ k = 0)) → ((-q) % 12 - k).toNat < N119 → W p l e (zrm 1) s m args below meth c H locs 0 0 (MQ below (zQ (AM mo rs ex xd li bo cu cd) (zR none (MW D cB cL mo rs ex xd li bo cu cd co bi le rt bt Vn C))) args s 0 0 (AM mo rs ex xd li bo cu cd)) (F0 m 119 ls []) := by
    intro N119
    induction N119 with
    | zero => intro k H locs ls hw hS hl hk hN119; exact absurd hN119 (Nat.not_lt_zero _)
    | succ N119 ih119 =>
      intro k H locs ls hw hS hl hk hN119
      refine lv_iload hx hb d_Mo_row_119 (lv_at hl 3 rfl) ?_
      refine lv_iload_n hx hb d_Mo_row_121 rfl (lv_at hl 1 rfl) ?_
      refine z_if_ge (tgt := 133) hx hb d_Mo_row_122 rfl ⟨by omega, by omega⟩ (fun hc122 => ?_) (fun hc122 => ?_)
      · refine lv_iconst (v := iz 0) hx hb d_Mo_row_133 rfl ?_
        refine z_icmp_ge (tgt := 150) hx hb d_Mo_row_134 rfl ⟨by omega, by omega⟩ ⟨by omega, by omega⟩ (fun hc134 => ?_) (fun hc134 => ?_)
        · have hw : MWL D cB cL mo rs ex xd li bo cu cd co bi le rt bt V C (cf * 2 ^ q.toNat * 5 ^ (-q).toNat) s H := by
            rw [show (-q).toNat = ((-q).toNat - (-q).toNat % 12) + k.toNat by omega]
            exact hw
          have hw9 := hw
          obtain ⟨len, used, bl, fr, fb, lm, fe, ne, pe, fc, nc, pp, ⟨hK, hP, hD⟩, hrt, hbt, hE, hpe, hC, hL⟩ := hw9
          have hL1 := hL.1
          have hP : va_P D vwCl [(mo, .inr (3, [.ref rs, .int (iz len), .int (iz co), .ref ex, .int (iz bi), .int (iz le), .ref li, .int (iz used), .ref bo, .int (iz bl), .ref cu])), (rs, .inl (cB, 4096, .inl (az fr))), (ex, .inr (4, [.ref xd, .int (iz ne), .int (iz pe)])), (xd, .inl (cB, 1300, .inl (az fe))), (li, .inl (cL, 160, .inr (.inl (azl lm)))), (bo, .inl (cB, 4096, .inl (az fb))), (cu, .inr (4, [.ref cd, .int (iz nc), .int (iz pp)])), (cd, .inl (cB, 1300, .inl (az fc)))] H := hP
          have hD : va_D (AM mo rs ex xd li bo cu cd) [(mo, .inr (3, [.ref rs, .int (iz len), .int (iz co), .ref ex, .int (iz bi), .int (iz le), .ref li, .int (iz used), .ref bo, .int (iz bl), .ref cu])), (rs, .inl (cB, 4096, .inl (az fr))), (ex, .inr (4, [.ref xd, .int (iz ne), .int (iz pe)])), (xd, .inl (cB, 1300, .inl (az fe))), (li, .inl (cL, 160, .inr (.inl (azl lm)))), (bo, .inl (cB, 4096, .inl (az fb))), (cu, .inr (4, [.ref cd, .int (iz nc), .int (iz pp)])), (cd, .inl (cB, 1300, .inl (az fc)))] := hD
          refine lv_aload hx hb d_Mo_row_150 (lv_at hl 2 rfl) ?_
          refine lv_iconst (v := iz 0) hx hb d_Mo_row_152 rfl ?_
          refine va_put (D := D) (ci := 4) (v := .int (iz 0)) (ty := .int) (C := R_4) (T := T_4) (N := 3) hx hb hts in_4 ty_4 tyok_4 nm_4 hown hK hP hD hS 2 rfl rfl 1 (by decide) (hts _ tw_383) (fun _ h9 => h9) rfl (by decide +kernel) rfl rfl (Nat.le_of_ble_eq_true rfl) d_Mo_row_153 (fun H locs hP hD hS => ?_)
          have hP : va_P D vwCl [(mo, .inr (3, [.ref rs, .int (iz len), .int (iz co), .ref ex, .int (iz bi), .int (iz le), .ref li, .int (iz used), .ref bo, .int (iz bl), .ref cu])), (rs, .inl (cB, 4096, .inl (az fr))), (ex, .inr (4, [.ref xd, .int (iz 0), .int (iz pe)])), (xd, .inl (cB, 1300, .inl (az fe))), (li, .inl (cL, 160, .inr (.inl (azl lm)))), (bo, .inl (cB, 4096, .inl (az fb))), (cu, .inr (4, [.ref cd, .int (iz nc), .int (iz pp)])), (cd, .inl (cB, 1300, .inl (az fc)))] H := hP
          have hD : va_D (AM mo rs ex xd li bo cu cd) [(mo, .inr (3, [.ref rs, .int (iz len), .int (iz co), .ref ex, .int (iz bi), .int (iz le), .ref li, .int (iz used), .ref bo, .int (iz bl), .ref cu])), (rs, .inl (cB, 4096, .inl (az fr))), (ex, .inr (4, [.ref xd, .int (iz 0), .int (iz pe)])), (xd, .inl (cB, 1300, .inl (az fe))), (li, .inl (cL, 160, .inr (.inl (azl lm)))), (bo, .inl (cB, 4096, .inl (az fb))), (cu, .inr (4, [.ref cd, .int (iz nc), .int (iz pp)])), (cd, .inl (cB, 1300, .inl (az fc)))] := hD
          refine lv_aload_n hx hb d_Mo_row_156 rfl (lv_at hl 0 rfl) ?_
          refine va_get (D := D) (ci := 3) (v := .int (iz used)) (C := R_3) (T := T_3) (N := 11) hx hb hts in_3 hown hK hP 0 rfl rfl 7 (by decide) (hts _ tw_399) (fun _ h9 => h9) rfl d_Mo_row_157 ?_
          refine lv_iconst (v := iz 1) hx hb d_Mo_row_160 rfl ?_
          refine z_isub hx hb d_Mo_row_161 ?_
          refine lv_istore hx hb d_Mo_row_162 hl (by decide) rfl (fun ls hl => ?_)
          have hl : lv_has ls 9 [(5, .int (iz (used - 1))), (0, .ref mo), (3, .int (iz q)), (4, .ref ex)] := hl
          exact L164 _ fe 0 (used - 1) lm used len bl fr fb fc nc pp pe _ _ _ hP hD hS (lv_sub hl [1, 2, 3, 0] rfl) hK hrt hbt hC hL (by omega) (by
                rw [show used - 1 + 1 = used by omega, hL.quo]
                exact ⟨Int.le_refl 0, fun j q1 q2 => absurd q1 (by omega), fun q => absurd q (by omega), rfl⟩) (Nat.lt_succ_self _)
        · refine lv_aload_n hx hb d_Mo_row_137 rfl (lv_at hl 0 rfl) ?_
          refine lv_ldc2 (v := (5 : Int64)) hx hb hown (hts _ tw_501) d_Mo_row_138 ?_
          refine z_topl (y := lz (5)) (by decide) ?_
          have hct := c_Mo_times l D cB cL mo rs ex xd li bo cu cd co bi le rt bt V C (cf * 2 ^ q.toNat * 5 ^ (((-q).toNat - (-q).toNat % 12) + k.toNat)) (5) ⟨by omega, by omega⟩ (row_lt hLf (row_le1 hcf.1 (by omega) (by omega)) (row_1 _ _ (by omega)))
          refine z_go (va_runV (As := [.long (lz 5)]) (rest := []) ⟨hx, hb, hml, hown, hts⟩ hct.2 (z_cwV hts w_Mo_times tw_496 (by decide)) (z_preV hct.1 (hw.recv) hw) rfl rfl hl.1 rfl (lv_room (Nat.le_of_ble_eq_true rfl)) d_Mo_row_141 ⟨Nat.zero_le _, Nat.zero_le _⟩) hS (fun _ h9 => h9) (fun v9 t9 H locs hv9 hp9 hz9 hk9 hS => ?_)
          obtain ⟨rfl, hw⟩ := hp9
          have hw := MWL.moved hv9.symm hw
          rw [show 5 * (cf * 2 ^ q.toNat * 5 ^ (((-q).toNat - (-q).toNat % 12) + k.toNat)) = cf * 2 ^ q.toNat * 5 ^ (((-q).toNat - (-q).toNat % 12) + (k + 1).toNat) from (row_1 _ _ (by omega))] at hw
          refine W.eq (g2 := F0 m 144 ls []) rfl ?_
          refine lv_iinc (k := 3) (v := (iz (k + 1))) hx hb d_Mo_row_144 hl rfl (by show iz _ + iz (1) = _; rw [← iz_add]; try rfl) (by decide) rfl (fun ls hl => ?_)
          have hl : lv_has ls 9 [(5, .int (iz (k + 1))), (0, .ref mo), (3, .int (iz q)), (4, .ref ex)] := hl
          refine lv_goto (tgt := 119) hx hb d_Mo_row_147 rfl ?_
          exact ih119 (k + 1) _ _ _ hw hS (lv_sub hl [1, 2, 3, 0] rfl) ⟨by omega, by omega⟩ (by omega)
      · refine lv_iload_n hx hb d_Mo_row_125 rfl (lv_at hl 1 rfl) ?_
        refine z_ineg hx hb d_Mo_row_126 ?_
        refine lv_bipush (v := iz 12) hx hb d_Mo_row_127 (by decide) ?_
        refine z_irem hx hb d_Mo_row_129 ⟨by omega, by omega⟩ ⟨by omega, by omega⟩ ?_
        refine lv_goto (tgt := 134) hx hb d_Mo_row_130 rfl ?_
        refine z_icmp_ge (tgt := 150) hx hb d_Mo_row_134 rfl ⟨by omega, by omega⟩ ⟨by omega, by omega⟩ (fun hc134 => ?_) (fun hc134 => ?_)
        · have hw : MWL D cB cL mo rs ex xd li bo cu cd co bi le rt bt V C (cf * 2 ^ q.toNat * 5 ^ (-q).toNat) s H := by
            rw [show (-q).toNat = ((-q).toNat - (-q).toNat % 12) + k.toNat by omega]
            exact hw
          have hw9 := hw
          obtain ⟨len, used, bl, fr, fb, lm, fe, ne, pe, fc, nc, pp, ⟨hK, hP, hD⟩, hrt, hbt, hE, hpe, hC, hL⟩ := hw9
          have hL1 := hL.1
          have hP : va_P D vwCl [(mo, .inr (3, [.ref rs, .int (iz len), .int (iz co), .ref ex, .int (iz bi), .int (iz le), .ref li, .int (iz used), .ref bo, .int (iz bl), .ref cu])), (rs, .inl (cB, 4096, .inl (az fr))), (ex, .inr (4, [.ref xd, .int (iz ne), .int (iz pe)])), (xd, .inl (cB, 1300, .inl (az fe))), (li, .inl (cL, 160, .inr (.inl (azl lm)))), (bo, .inl (cB, 4096, .inl (az fb))), (cu, .inr (4, [.ref cd, .int (iz nc), .int (iz pp)])), (cd, .inl (cB, 1300, .inl (az fc)))] H := hP
          have hD : va_D (AM mo rs ex xd li bo cu cd) [(mo, .inr (3, [.ref rs, .int (iz len), .int (iz co), .ref ex, .int (iz bi), .int (iz le), .ref li, .int (iz used), .ref bo, .int (iz bl), .ref cu])), (rs, .inl (cB, 4096, .inl (az fr))), (ex, .inr (4, [.ref xd, .int (iz ne), .int (iz pe)])), (xd, .inl (cB, 1300, .inl (az fe))), (li, .inl (cL, 160, .inr (.inl (azl lm)))), (bo, .inl (cB, 4096, .inl (az fb))), (cu, .inr (4, [.ref cd, .int (iz nc), .int (iz pp)])), (cd, .inl (cB, 1300, .inl (az fc)))] := hD
          refine lv_aload hx hb d_Mo_row_150 (lv_at hl 2 rfl) ?_
          refine lv_iconst (v := iz 0) hx hb d_Mo_row_152 rfl ?_
          refine va_put (D := D) (ci := 4) (v := .int (iz 0)) (ty := .int) (C := R_4) (T := T_4) (N := 3) hx hb hts in_4 ty_4 tyok_4 nm_4 hown hK hP hD hS 2 rfl rfl 1 (by decide) (hts _ tw_383) (fun _ h9 => h9) rfl (by decide +kernel) rfl rfl (Nat.le_of_ble_eq_true rfl) d_Mo_row_153 (fun H locs hP hD hS => ?_)
          have hP : va_P D vwCl [(mo, .inr (3, [.ref rs, .int (iz len), .int (iz co), .ref ex, .int (iz bi), .int (iz le), .ref li, .int (iz used), .ref bo, .int (iz bl), .ref cu])), (rs, .inl (cB, 4096, .inl (az fr))), (ex, .inr (4, [.ref xd, .int (iz 0), .int (iz pe)])), (xd, .inl (cB, 1300, .inl (az fe))), (li, .inl (cL, 160, .inr (.inl (azl lm)))), (bo, .inl (cB, 4096, .inl (az fb))), (cu, .inr (4, [.ref cd, .int (iz nc), .int (iz pp)])), (cd, .inl (cB, 1300, .inl (az fc)))] H := hP
          have hD : va_D (AM mo rs ex xd li bo cu cd) [(mo, .inr (3, [.ref rs, .int (iz len), .int (iz co), .ref ex, .int (iz bi), .int (iz le), .ref li, .int (iz used), .ref bo, .int (iz bl), .ref cu])), (rs, .inl (cB, 4096, .inl (az fr))), (ex, .inr (4, [.ref xd, .int (iz 0), .int (iz pe)])), (xd, .inl (cB, 1300, .inl (az fe))), (li, .inl (cL, 160, .inr (.inl (azl lm)))), (bo, .inl (cB, 4096, .inl (az fb))), (cu, .inr (4, [.ref cd, .int (iz nc), .int (iz pp)])), (cd, .inl (cB, 1300, .inl (az fc)))] := hD
          refine lv_aload_n hx hb d_Mo_row_156 rfl (lv_at hl 0 rfl) ?_
          refine va_get (D := D) (ci := 3) (v := .int (iz used)) (C := R_3) (T := T_3) (N := 11) hx hb hts in_3 hown hK hP 0 rfl rfl 7 (by decide) (hts _ tw_399) (fun _ h9 => h9) rfl d_Mo_row_157 ?_
          refine lv_iconst (v := iz 1) hx hb d_Mo_row_160 rfl ?_
          refine z_isub hx hb d_Mo_row_161 ?_
          refine lv_istore hx hb d_Mo_row_162 hl (by decide) rfl (fun ls hl => ?_)
          have hl : lv_has ls 9 [(5, .int (iz (used - 1))), (0, .ref mo), (3, .int (iz q)), (4, .ref ex)] := hl
          exact L164 _ fe 0 (used - 1) lm used len bl fr fb fc nc pp pe _ _ _ hP hD hS (lv_sub hl [1, 2, 3, 0] rfl) hK hrt hbt hC hL (by omega) (by
                rw [show used - 1 + 1 = used by omega, hL.quo]
                exact ⟨Int.le_refl 0, fun j q1 q2 => absurd q1 (by omega), fun q => absurd q (by omega), rfl⟩) (Nat.lt_succ_self _)
        · refine lv_aload_n hx hb d_Mo_row_137 rfl (lv_at hl 0 rfl) ?_
          refine lv_ldc2 (v := (5 : Int64)) hx hb hown (hts _ tw_501) d_Mo_row_138 ?_
          refine z_topl (y := lz (5)) (by decide) ?_
          have hct := c_Mo_times l D cB cL mo rs ex xd li bo cu cd co bi le rt bt V C (cf * 2 ^ q.toNat * 5 ^ (((-q).toNat - (-q).toNat % 12) + k.toNat)) (5) ⟨by omega, by omega⟩ (row_lt hLf (row_le1 hcf.1 (by omega) (by omega)) (row_1 _ _ (by omega)))
          refine z_go (va_runV (As := [.long (lz 5)]) (rest := []) ⟨hx, hb, hml, hown, hts⟩ hct.2 (z_cwV hts w_Mo_times tw_496 (by decide)) (z_preV hct.1 (hw.recv) hw) rfl rfl hl.1 rfl (lv_room (Nat.le_of_ble_eq_true rfl)) d_Mo_row_141 ⟨Nat.zero_le _, Nat.zero_le _⟩) hS (fun _ h9 => h9) (fun v9 t9 H locs hv9 hp9 hz9 hk9 hS => ?_)
          obtain ⟨rfl, hw⟩ := hp9
          have hw := MWL.moved hv9.symm hw
          rw [show 5 * (cf * 2 ^ q.toNat * 5 ^ (((-q).toNat - (-q).toNat % 12) + k.toNat)) = cf * 2 ^ q.toNat * 5 ^ (((-q).toNat - (-q).toNat % 12) + (k + 1).toNat) from (row_1 _ _ (by omega))] at hw
          refine W.eq (g2 := F0 m 144 ls []) rfl ?_
          refine lv_iinc (k := 3) (v := (iz (k + 1))) hx hb d_Mo_row_144 hl rfl (by show iz _ + iz (1) = _; rw [← iz_add]; try rfl) (by decide) rfl (fun ls hl => ?_)
          have hl : lv_has ls 9 [(5, .int (iz (k + 1))), (0, .ref mo), (3, .int (iz q)), (4, .ref ex)] := hl
          refine lv_goto (tgt := 119) hx hb d_Mo_row_147 rfl ?_
          exact ih119 (k + 1) _ _ _ hw hS (lv_sub hl [1, 2, 3, 0] rfl) ⟨by omega, by omega⟩ (by omega)
  have L93 : ∀ (N93 : Nat) (k : Int) (H : Heap) (locs : List Loc) (ls : Array Slot), MWL D cB cL mo rs ex xd li bo cu cd co bi le rt bt V C (cf * 2 ^ q.toNat * 5 ^ k.toNat) s H → va_S (AM mo rs ex xd li bo cu cd) s.heap H locs → lv_has ls 9 [(0, .ref mo), (3, .int (iz q)), (4, .ref ex), (5, .int (iz k))] → (0 ≤ k ∧ k % 12 = 0 ∧ (k ≤ -q ∨ k = 0)) → (-q - k).toNat < N93 → W p l e (zrm 1) s m args below meth c H locs 0 0 (MQ below (zQ (AM mo rs ex xd li bo cu cd) (zR none (MW D cB cL mo rs ex xd li bo cu cd co bi le rt bt Vn C))) args s 0 0 (AM mo rs ex xd li bo cu cd)) (F0 m 93 ls []) := by
    intro N93
    induction N93 with
    | zero => intro k H locs ls hw hS hl hk hN93; exact absurd hN93 (Nat.not_lt_zero _)
    | succ N93 ih93 =>
      intro k H locs ls hw hS hl hk hN93
      refine lv_iload hx hb d_Mo_row_93 (lv_at hl 3 rfl) ?_
      refine lv_bipush (v := iz 12) hx hb d_Mo_row_95 (by decide) ?_
      refine z_iadd hx hb d_Mo_row_97 ?_
      refine lv_iload_n hx hb d_Mo_row_98 rfl (lv_at hl 1 rfl) ?_
      refine z_ineg hx hb d_Mo_row_99 ?_
      refine z_icmp_gt (tgt := 116) hx hb d_Mo_row_100 rfl ⟨by omega, by omega⟩ ⟨by omega, by omega⟩ (fun hc100 => ?_) (fun hc100 => ?_)
      · refine lv_iconst (v := iz 0) hx hb d_Mo_row_116 rfl ?_
        refine lv_istore hx hb d_Mo_row_117 hl (by decide) rfl (fun ls hl => ?_)
        have hl : lv_has ls 9 [(5, .int (iz 0)), (0, .ref mo), (3, .int (iz q)), (4, .ref ex)] := hl
        have hw : MWL D cB cL mo rs ex xd li bo cu cd co bi le rt bt V C (cf * 2 ^ q.toNat * 5 ^ (((-q).toNat - (-q).toNat % 12) + (0 : Int).toNat)) s H := by
          rw [show ((-q).toNat - (-q).toNat % 12) + (0 : Int).toNat = k.toNat by omega]
          exact hw
        exact L119 _ 0 _ _ _ hw hS (lv_sub hl [1, 2, 3, 0] rfl) ⟨by omega, Or.inr rfl⟩ (Nat.lt_succ_self _)
      · refine lv_aload_n hx hb d_Mo_row_103 rfl (lv_at hl 0 rfl) ?_
        refine lv_ldc2 (v := (244140625 : Int64)) hx hb hown (hts _ tw_500) d_Mo_row_104 ?_
        refine z_topl (y := lz (244140625)) (by decide) ?_
        have hct := c_Mo_times l D cB cL mo rs ex xd li bo cu cd co bi le rt bt V C (cf * 2 ^ q.toNat * 5 ^ k.toNat) (244140625) ⟨by omega, by omega⟩ (row_lt hLf (row_le5 hcf.1 (by omega) (by omega)) (row_5 _ (by omega)))
        refine z_go (va_runV (As := [.long (lz 244140625)]) (rest := []) ⟨hx, hb, hml, hown, hts⟩ hct.2 (z_cwV hts w_Mo_times tw_496 (by decide)) (z_preV hct.1 (hw.recv) hw) rfl rfl hl.1 rfl (lv_room (Nat.le_of_ble_eq_true rfl)) d_Mo_row_107 ⟨Nat.zero_le _, Nat.zero_le _⟩) hS (fun _ h9 => h9) (fun v9 t9 H locs hv9 hp9 hz9 hk9 hS => ?_)
        obtain ⟨rfl, hw⟩ := hp9
        have hw := MWL.moved hv9.symm hw
        rw [show 244140625 * (cf * 2 ^ q.toNat * 5 ^ k.toNat) = cf * 2 ^ q.toNat * 5 ^ (k + 12).toNat from (row_5 _ (by omega))] at hw
        refine W.eq (g2 := F0 m 110 ls []) rfl ?_
        refine lv_iinc (k := 3) (v := (iz (k + 12))) hx hb d_Mo_row_110 hl rfl (by show iz _ + iz (12) = _; rw [← iz_add]; try rfl) (by decide) rfl (fun ls hl => ?_)
        have hl : lv_has ls 9 [(5, .int (iz (k + 12))), (0, .ref mo), (3, .int (iz q)), (4, .ref ex)] := hl
        refine lv_goto (tgt := 93) hx hb d_Mo_row_113 rfl ?_
        exact ih93 (k + 12) _ _ _ hw hS (lv_sub hl [1, 2, 3, 0] rfl) ⟨by omega, by omega, by omega⟩ (by omega)
  have L54 : ∀ (N54 : Nat) (k : Int) (H : Heap) (locs : List Loc) (ls : Array Slot), MWL D cB cL mo rs ex xd li bo cu cd co bi le rt bt V C (cf * 2 ^ k.toNat) s H → va_S (AM mo rs ex xd li bo cu cd) s.heap H locs → lv_has ls 9 [(0, .ref mo), (3, .int (iz q)), (4, .ref ex), (5, .int (iz k))] → (0 ≤ k ∧ k % 29 = 0 ∧ (k ≤ q ∨ k = 0)) → (q - k).toNat < N54 → W p l e (zrm 1) s m args below meth c H locs 0 0 (MQ below (zQ (AM mo rs ex xd li bo cu cd) (zR none (MW D cB cL mo rs ex xd li bo cu cd co bi le rt bt Vn C))) args s 0 0 (AM mo rs ex xd li bo cu cd)) (F0 m 54 ls []) := by
    intro N54
    induction N54 with
    | zero => intro k H locs ls hw hS hl hk hN54; exact absurd hN54 (Nat.not_lt_zero _)
    | succ N54 ih54 =>
      intro k H locs ls hw hS hl hk hN54
      refine lv_iload hx hb d_Mo_row_54 (lv_at hl 3 rfl) ?_
      refine lv_bipush (v := iz 29) hx hb d_Mo_row_56 (by decide) ?_
      refine z_iadd hx hb d_Mo_row_58 ?_
      refine lv_iload_n hx hb d_Mo_row_59 rfl (lv_at hl 1 rfl) ?_
      refine z_icmp_gt (tgt := 76) hx hb d_Mo_row_60 rfl ⟨by omega, by omega⟩ ⟨by omega, by omega⟩ (fun hc60 => ?_) (fun hc60 => ?_)
      · refine lv_iload_n hx hb d_Mo_row_76 rfl (lv_at hl 1 rfl) ?_
        refine z_if_le (tgt := 90) hx hb d_Mo_row_77 rfl ⟨by omega, by omega⟩ (fun hc77 => ?_) (fun hc77 => ?_)
        · refine lv_iconst (v := iz 0) hx hb d_Mo_row_90 rfl ?_
          refine lv_istore hx hb d_Mo_row_91 hl (by decide) rfl (fun ls hl => ?_)
          have hl : lv_has ls 9 [(5, .int (iz 0)), (0, .ref mo), (3, .int (iz q)), (4, .ref ex)] := hl
          have hw : MWL D cB cL mo rs ex xd li bo cu cd co bi le rt bt V C (cf * 2 ^ q.toNat * 5 ^ (0 : Int).toNat) s H := by
            show MWL _ _ _ _ _ _ _ _ _ _ _ _ _ _ _ _ _ _ (_ * 1) _ _
            rw [Int.mul_one]
            first
              | exact hw
              | (rw [show k.toNat = q.toNat by omega] at hw; exact hw)
          exact L93 _ 0 _ _ _ hw hS (lv_sub hl [1, 2, 3, 0] rfl) ⟨by omega, by omega, Or.inr rfl⟩ (Nat.lt_succ_self _)
        · refine lv_aload_n hx hb d_Mo_row_80 rfl (lv_at hl 0 rfl) ?_
          refine lv_lconst (v := lz 1) hx hb d_Mo_row_81 (by decide) ?_
          refine lv_iload_n hx hb d_Mo_row_82 rfl (lv_at hl 1 rfl) ?_
          refine lv_bipush (v := iz 29) hx hb d_Mo_row_83 (by decide) ?_
          refine z_irem hx hb d_Mo_row_85 ⟨by omega, by omega⟩ ⟨by omega, by omega⟩ ?_
          refine z_lshl hx hb ((q % 29).toNat) d_Mo_row_86 (by omega) (by omega) ⟨by omega, by omega⟩ (by have := pow2_29 (b := (q % 29).toNat) (by omega); exact ⟨by omega, by omega⟩) ?_
          refine z_rl (b := 2 ^ (q % 29).toNat) (by rw [Int.one_mul]) ?_
          have hp8 := pow2_29 (b := (q % 29).toNat) (by omega)
          have hct := c_Mo_times l D cB cL mo rs ex xd li bo cu cd co bi le rt bt V C (cf * 2 ^ k.toNat) (2 ^ (q % 29).toNat) ⟨by omega, by omega⟩ (row_lt hLf (row_le2b hcf.1 (by omega)) (row_2b cf (by omega) (by omega)))
          refine z_go (va_runV (As := [.long (lz (2 ^ (q % 29).toNat))]) (rest := []) ⟨hx, hb, hml, hown, hts⟩ hct.2 (z_cwV hts w_Mo_times tw_496 (by decide)) (z_preV hct.1 (hw.recv) hw) rfl rfl hl.1 rfl (lv_room (Nat.le_of_ble_eq_true rfl)) d_Mo_row_87 ⟨Nat.zero_le _, Nat.zero_le _⟩) hS (fun _ h9 => h9) (fun v9 t9 H locs hv9 hp9 hz9 hk9 hS => ?_)
          obtain ⟨rfl, hw⟩ := hp9
          have hw := MWL.moved hv9.symm hw
          rw [show (2 ^ (q % 29).toNat) * (cf * 2 ^ k.toNat) = cf * 2 ^ q.toNat from (row_2b cf (by omega) (by omega))] at hw
          refine W.eq (g2 := F0 m 90 ls []) rfl ?_
          refine lv_iconst (v := iz 0) hx hb d_Mo_row_90 rfl ?_
          refine lv_istore hx hb d_Mo_row_91 hl (by decide) rfl (fun ls hl => ?_)
          have hl : lv_has ls 9 [(5, .int (iz 0)), (0, .ref mo), (3, .int (iz q)), (4, .ref ex)] := hl
          have hw : MWL D cB cL mo rs ex xd li bo cu cd co bi le rt bt V C (cf * 2 ^ q.toNat * 5 ^ (0 : Int).toNat) s H := by
            show MWL _ _ _ _ _ _ _ _ _ _ _ _ _ _ _ _ _ _ (_ * 1) _ _
            rw [Int.mul_one]
            first
              | exact hw
              | (rw [show k.toNat = q.toNat by omega] at hw; exact hw)
          exact L93 _ 0 _ _ _ hw hS (lv_sub hl [1, 2, 3, 0] rfl) ⟨by omega, by omega, Or.inr rfl⟩ (Nat.lt_succ_self _)
      · refine lv_aload_n hx hb d_Mo_row_63 rfl (lv_at hl 0 rfl) ?_
        refine lv_ldc2 (v := (536870912 : Int64)) hx hb hown (hts _ tw_495) d_Mo_row_64 ?_
        refine z_topl (y := lz (536870912)) (by decide) ?_
        have hct := c_Mo_times l D cB cL mo rs ex xd li bo cu cd co bi le rt bt V C (cf * 2 ^ k.toNat) (536870912) ⟨by omega, by omega⟩ (row_lt hLf (row_le2 hcf.1 (by omega) (by omega)) (row_2 cf (by omega)))
        refine z_go (va_runV (As := [.long (lz 536870912)]) (rest := []) ⟨hx, hb, hml, hown, hts⟩ hct.2 (z_cwV hts w_Mo_times tw_496 (by decide)) (z_preV hct.1 (hw.recv) hw) rfl rfl hl.1 rfl (lv_room (Nat.le_of_ble_eq_true rfl)) d_Mo_row_67 ⟨Nat.zero_le _, Nat.zero_le _⟩) hS (fun _ h9 => h9) (fun v9 t9 H locs hv9 hp9 hz9 hk9 hS => ?_)
        obtain ⟨rfl, hw⟩ := hp9
        have hw := MWL.moved hv9.symm hw
        rw [show 536870912 * (cf * 2 ^ k.toNat) = cf * 2 ^ (k + 29).toNat from (row_2 cf (by omega))] at hw
        refine W.eq (g2 := F0 m 70 ls []) rfl ?_
        refine lv_iinc (k := 3) (v := (iz (k + 29))) hx hb d_Mo_row_70 hl rfl (by show iz _ + iz (29) = _; rw [← iz_add]; try rfl) (by decide) rfl (fun ls hl => ?_)
        have hl : lv_has ls 9 [(5, .int (iz (k + 29))), (0, .ref mo), (3, .int (iz q)), (4, .ref ex)] := hl
        refine lv_goto (tgt := 54) hx hb d_Mo_row_73 rfl ?_
        exact ih54 (k + 29) _ _ _ hw hS (lv_sub hl [1, 2, 3, 0] rfl) ⟨by omega, by omega, by omega⟩ (by omega)
  have L8 : ∀ (N8 : Nat) (h : Int → Int) (u : Int) (x : Int) (H : Heap) (locs : List Loc) (ls : Array Slot), va_P D vwCl [(mo, .inr (3, [.ref rs, .int (iz len), .int (iz co), .ref ex, .int (iz bi), .int (iz le), .ref li, .int (iz u), .ref bo, .int (iz bl), .ref cu])), (rs, .inl (cB, 4096, .inl (az fr))), (ex, .inr (4, [.ref xd, .int (iz ne), .int (iz pe)])), (xd, .inl (cB, 1300, .inl (az fe))), (li, .inl (cL, 160, .inr (.inl (azl h)))), (bo, .inl (cB, 4096, .inl (az fb))), (cu, .inr (4, [.ref cd, .int (iz nc), .int (iz pp)])), (cd, .inl (cB, 1300, .inl (az fc)))] H → va_D (AM mo rs ex xd li bo cu cd) [(mo, .inr (3, [.ref rs, .int (iz len), .int (iz co), .ref ex, .int (iz bi), .int (iz le), .ref li, .int (iz u), .ref bo, .int (iz bl), .ref cu])), (rs, .inl (cB, 4096, .inl (az fr))), (ex, .inr (4, [.ref xd, .int (iz ne), .int (iz pe)])), (xd, .inl (cB, 1300, .inl (az fe))), (li, .inl (cL, 160, .inr (.inl (azl h)))), (bo, .inl (cB, 4096, .inl (az fb))), (cu, .inr (4, [.ref cd, .int (iz nc), .int (iz pp)])), (cd, .inl (cB, 1300, .inl (az fc)))] → va_S (AM mo rs ex xd li bo cu cd) s.heap H locs → lv_has ls 9 [(0, .ref mo), (3, .int (iz q)), (4, .ref ex), (5, .long (lz x))] → (WhoI h u x cf) → x.toNat < N8 → W p l e (zrm 1) s m args below meth c H locs 0 0 (MQ below (zQ (AM mo rs ex xd li bo cu cd) (zR none (MW D cB cL mo rs ex xd li bo cu cd co bi le rt bt Vn C))) args s 0 0 (AM mo rs ex xd li bo cu cd)) (F0 m 8 ls []) := by
    intro N8
    induction N8 with
    | zero => intro h u x H locs ls hP hD hS hl hI hN8; exact absurd hN8 (Nat.not_lt_zero _)
    | succ N8 ih8 =>
      intro h u x H locs ls hP hD hS hl hI hN8
      have hI0 := hI.1
      have hI1 := hI.2.1
      refine lv_lload hx hb d_Mo_row_8 (lv_at hl 3 rfl) ?_
      refine lv_lconst (v := lz 0) hx hb d_Mo_row_10 (by decide) ?_
      refine z_lif_le (tgt := 51) hx hb d_Mo_row_11 d_Mo_row_12 rfl ⟨by omega, by omega⟩ ⟨by omega, by omega⟩ (fun hc11 => ?_) (fun hc11 => ?_)
      · refine lv_iconst (v := iz 0) hx hb d_Mo_row_51 rfl ?_
        refine lv_istore hx hb d_Mo_row_52 hl (by decide) rfl (fun ls hl => ?_)
        have hl : lv_has ls 9 [(5, .int (iz 0)), (0, .ref mo), (3, .int (iz q)), (4, .ref ex)] := hl
        have hw : MWL D cB cL mo rs ex xd li bo cu cd co bi le rt bt V C (cf * 2 ^ (0 : Int).toNat) s H := by
          have h8 : LmOK h u cf := by
            rw [show x = 0 by have := hI.1; omega] at hI
            exact hI.stop
          show MWL _ _ _ _ _ _ _ _ _ _ _ _ _ _ _ _ _ _ (cf * 1) _ _
          rw [Int.mul_one]
          exact ⟨_, _, _, _, _, _, _, _, _, _, _, _, ⟨hK, hP, hD⟩, hrt, hbt, hE, hpe, hC, h8⟩
        exact L54 _ 0 _ _ _ hw hS (lv_sub hl [1, 2, 3, 0] rfl) ⟨by omega, by omega, Or.inr rfl⟩ (Nat.lt_succ_self _)
      · refine lv_aload_n hx hb d_Mo_row_15 rfl (lv_at hl 0 rfl) ?_
        refine va_get (D := D) (ci := 3) (v := .ref li) (C := R_3) (T := T_3) (N := 11) hx hb hts in_3 hown hK hP 0 rfl rfl 6 (by decide) (hts _ tw_398) (fun _ h9 => h9) rfl d_Mo_row_16 ?_
        refine lv_aload_n hx hb d_Mo_row_19 rfl (lv_at hl 0 rfl) ?_
        refine va_get (D := D) (ci := 3) (v := .int (iz u)) (C := R_3) (T := T_3) (N := 11) hx hb hts in_3 hown hK hP 0 rfl rfl 7 (by decide) (hts _ tw_399) (fun _ h9 => h9) rfl d_Mo_row_20 ?_
        refine lv_lload hx hb d_Mo_row_23 (lv_at hl 3 rfl) ?_
        refine lv_ldc2 (v := (1000000000 : Int64)) hx hb hown (hts _ tw_494) d_Mo_row_25 ?_
        refine z_topl (y := lz (1000000000)) (by decide) ?_
        refine z_lrem hx hb d_Mo_row_28 ⟨by omega, by omega⟩ ⟨by omega, by omega⟩ ?_
        refine z_last hx hb hK hP hD hS 4 1 rfl rfl (by omega) (by omega) (by decide) d_Mo_row_29 (fun H locs hP hD hS => ?_)
        have hP : va_P D vwCl [(mo, .inr (3, [.ref rs, .int (iz len), .int (iz co), .ref ex, .int (iz bi), .int (iz le), .ref li, .int (iz u), .ref bo, .int (iz bl), .ref cu])), (rs, .inl (cB, 4096, .inl (az fr))), (ex, .inr (4, [.ref xd, .int (iz ne), .int (iz pe)])), (xd, .inl (cB, 1300, .inl (az fe))), (li, .inl (cL, 160, .inr (.inl (azl (up h u (x % 1000000000)))))), (bo, .inl (cB, 4096, .inl (az fb))), (cu, .inr (4, [.ref cd, .int (iz nc), .int (iz pp)])), (cd, .inl (cB, 1300, .inl (az fc)))] H := hP
        have hD : va_D (AM mo rs ex xd li bo cu cd) [(mo, .inr (3, [.ref rs, .int (iz len), .int (iz co), .ref ex, .int (iz bi), .int (iz le), .ref li, .int (iz u), .ref bo, .int (iz bl), .ref cu])), (rs, .inl (cB, 4096, .inl (az fr))), (ex, .inr (4, [.ref xd, .int (iz ne), .int (iz pe)])), (xd, .inl (cB, 1300, .inl (az fe))), (li, .inl (cL, 160, .inr (.inl (azl (up h u (x % 1000000000)))))), (bo, .inl (cB, 4096, .inl (az fb))), (cu, .inr (4, [.ref cd, .int (iz nc), .int (iz pp)])), (cd, .inl (cB, 1300, .inl (az fc)))] := hD
        refine lv_aload_n hx hb d_Mo_row_30 rfl (lv_at hl 0 rfl) ?_
        refine lv_dup hx hb d_Mo_row_31 rfl ?_
        refine va_get (D := D) (ci := 3) (v := .int (iz u)) (C := R_3) (T := T_3) (N := 11) hx hb hts in_3 hown hK hP 0 rfl rfl 7 (by decide) (hts _ tw_399) (fun _ h9 => h9) rfl d_Mo_row_32 ?_
        refine lv_iconst (v := iz 1) hx hb d_Mo_row_35 rfl ?_
        refine z_iadd hx hb d_Mo_row_36 ?_
        refine va_put (D := D) (ci := 3) (v := .int (iz (u + 1))) (ty := .int) (C := R_3) (T := T_3) (N := 11) hx hb hts in_3 ty_3 tyok_3 nm_3 hown hK hP hD hS 0 rfl rfl 7 (by decide) (hts _ tw_399) (fun _ h9 => h9) rfl (by decide +kernel) rfl rfl (Nat.le_of_ble_eq_true rfl) d_Mo_row_37 (fun H locs hP hD hS => ?_)
        have hP : va_P D vwCl [(mo, .inr (3, [.ref rs, .int (iz len), .int (iz co), .ref ex, .int (iz bi), .int (iz le), .ref li, .int (iz (u + 1)), .ref bo, .int (iz bl), .ref cu])), (rs, .inl (cB, 4096, .inl (az fr))), (ex, .inr (4, [.ref xd, .int (iz ne), .int (iz pe)])), (xd, .inl (cB, 1300, .inl (az fe))), (li, .inl (cL, 160, .inr (.inl (azl (up h u (x % 1000000000)))))), (bo, .inl (cB, 4096, .inl (az fb))), (cu, .inr (4, [.ref cd, .int (iz nc), .int (iz pp)])), (cd, .inl (cB, 1300, .inl (az fc)))] H := hP
        have hD : va_D (AM mo rs ex xd li bo cu cd) [(mo, .inr (3, [.ref rs, .int (iz len), .int (iz co), .ref ex, .int (iz bi), .int (iz le), .ref li, .int (iz (u + 1)), .ref bo, .int (iz bl), .ref cu])), (rs, .inl (cB, 4096, .inl (az fr))), (ex, .inr (4, [.ref xd, .int (iz ne), .int (iz pe)])), (xd, .inl (cB, 1300, .inl (az fe))), (li, .inl (cL, 160, .inr (.inl (azl (up h u (x % 1000000000)))))), (bo, .inl (cB, 4096, .inl (az fb))), (cu, .inr (4, [.ref cd, .int (iz nc), .int (iz pp)])), (cd, .inl (cB, 1300, .inl (az fc)))] := hD
        refine lv_lload hx hb d_Mo_row_40 (lv_at hl 3 rfl) ?_
        refine lv_ldc2 (v := (1000000000 : Int64)) hx hb hown (hts _ tw_494) d_Mo_row_42 ?_
        refine z_topl (y := lz (1000000000)) (by decide) ?_
        refine z_ldiv hx hb d_Mo_row_45 ⟨by omega, by omega⟩ ⟨by omega, by omega⟩ ?_
        refine lv_lstore hx hb d_Mo_row_46 hl (by decide) rfl (fun ls hl => ?_)
        have hl : lv_has ls 9 [(5, .long (lz (x / 1000000000))), (0, .ref mo), (3, .int (iz q)), (4, .ref ex)] := hl
        refine lv_goto (tgt := 8) hx hb d_Mo_row_48 rfl ?_
        exact ih8 (up h u (x % 1000000000)) (u + 1) (x / 1000000000) _ _ _ hP hD hS (lv_sub hl [1, 2, 3, 0] rfl) (hI.step (by omega)) (by omega)
  refine lv_aload_n hx hb d_Mo_row_0 rfl (lv_at hl 0 rfl) ?_
  refine lv_iconst (v := iz 0) hx hb d_Mo_row_1 rfl ?_
  refine va_put (D := D) (ci := 3) (v := .int (iz 0)) (ty := .int) (C := R_3) (T := T_3) (N := 11) hx hb hts in_3 ty_3 tyok_3 nm_3 hown hK hP hD hS 0 rfl rfl 7 (by decide) (hts _ tw_399) (fun _ h9 => h9) rfl (by decide +kernel) rfl rfl (Nat.le_of_ble_eq_true rfl) d_Mo_row_2 (fun H locs hP hD hS => ?_)
  have hP : va_P D vwCl [(mo, .inr (3, [.ref rs, .int (iz len), .int (iz co), .ref ex, .int (iz bi), .int (iz le), .ref li, .int (iz 0), .ref bo, .int (iz bl), .ref cu])), (rs, .inl (cB, 4096, .inl (az fr))), (ex, .inr (4, [.ref xd, .int (iz ne), .int (iz pe)])), (xd, .inl (cB, 1300, .inl (az fe))), (li, .inl (cL, 160, .inr (.inl (azl lm)))), (bo, .inl (cB, 4096, .inl (az fb))), (cu, .inr (4, [.ref cd, .int (iz nc), .int (iz pp)])), (cd, .inl (cB, 1300, .inl (az fc)))] H := hP
  have hD : va_D (AM mo rs ex xd li bo cu cd) [(mo, .inr (3, [.ref rs, .int (iz len), .int (iz co), .ref ex, .int (iz bi), .int (iz le), .ref li, .int (iz 0), .ref bo, .int (iz bl), .ref cu])), (rs, .inl (cB, 4096, .inl (az fr))), (ex, .inr (4, [.ref xd, .int (iz ne), .int (iz pe)])), (xd, .inl (cB, 1300, .inl (az fe))), (li, .inl (cL, 160, .inr (.inl (azl lm)))), (bo, .inl (cB, 4096, .inl (az fb))), (cu, .inr (4, [.ref cd, .int (iz nc), .int (iz pp)])), (cd, .inl (cB, 1300, .inl (az fc)))] := hD
  refine lv_lload_n hx hb d_Mo_row_5 rfl (lv_at hl 1 rfl) ?_
  refine lv_lstore hx hb d_Mo_row_6 hl (by decide) rfl (fun ls hl => ?_)
  have hl : lv_has ls 9 [(5, .long (lz cf)), (0, .ref mo), (1, .long (lz cf)), (3, .int (iz q)), (4, .ref ex)] := hl
  exact L8 _ lm 0 cf _ _ _ hP hD hS (lv_sub hl [1, 3, 4, 0] rfl) ⟨hcf.1, Or.inl ⟨rfl, hcf.2⟩, hlm, (by show 0 + cf * 1 = cf; omega)⟩ (Nat.lt_succ_self _)
