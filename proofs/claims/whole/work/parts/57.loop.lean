set_option maxHeartbeats 8000000 in
set_option maxRecDepth 100000 in
theorem law_loop {p : Program} {e : Env} {s : State} {m : MethodId} {below : List Frame} {meth : Method} {c : Code} (l : Launch) (htr : ∀ e : Env, l.admits e → e.platform.stackTraces = false) {b L : Nat} {xs : Nat → Int32} (hL : L ≤ 3584) (hx : p.tables.exec = Jvm.exec) (hb : c.code = code) (hr : meth.sig.returnType = ret) (hlk : meth.locks = false) (hml : c.maxLocals = 8) (hown : s.vm.findClass R_law = some m.cls) (hts : ∀ w ∈ TBL, w.before #[Value.ref b] s = true) (hXs : va_X b L xs s s.heap) (hbl : b < s.heap.size)
    (D : va_G) (cI cB cL : ClassId) (x d la t ba tt : Nat) (ad : Nat → Nat) (ou mo rs ex xd li bo cu cd : Nat) (kI vI kN vN k57 k60 k46 : Nat) (dj : DJ s.heap.size x d la t ba ou mo rs ex xd li bo cu cd) (gs : GS s.heap.size tt ad kI vI kN vN k57 k60 k46 s s.heap) :
    ∀ (j : Nat) (i : Int) (tx : List Int) (g : Int → Int) (co : Int) (H : Heap) (locs : List Loc) (ls : Array Slot), LI D cI cB cL x d la t ba tt ad ou mo rs ex xd li bo cu cd tx g co tx s H → va_S (A0s s.heap.size) s.heap H locs → lv_has ls 8 [(0, .ref b), (1, .ref x), (2, .ref mo), (3, .ref ou), (4, .int (iz i))] → (i = 7 * (j : Int) ∧ 7 * j ≤ L) → W p l e room_1 s m #[Value.ref b] below meth c H locs (14 + j) (12744 + 6 * j) (lw_Z below #[Value.ref b] s) (F0 m 23 ls []) := by
  have hown : s.vm.findClass "ExactNotationLaw" = some m.cls := hown
  have hbA : ¬ A0s s.heap.size b := fun h => absurd hbl (Nat.not_lt.mpr h)
  have hAH : ∀ q, AHx x d la t ba ou q → A0s s.heap.size q := fun q h => h.elim (dj.2.2.2.1 q) (fun e9 => by rw [e9]; exact dj.2.2.2.2.2)
  have hAM : ∀ q, AM mo rs ex xd li bo cu cd q → A0s s.heap.size q := dj.2.2.2.2.1
  have L23 : ∀ (N23 : Nat) (j : Nat) (i : Int) (tx : List Int) (g : Int → Int) (co : Int) (H : Heap) (locs : List Loc) (ls : Array Slot), LI D cI cB cL x d la t ba tt ad ou mo rs ex xd li bo cu cd tx g co tx s H → va_S (A0s s.heap.size) s.heap H locs → lv_has ls 8 [(0, .ref b), (1, .ref x), (2, .ref mo), (3, .ref ou), (4, .int (iz i))] → (i = 7 * (j : Int) ∧ 7 * j ≤ L) → L - 7 * j < N23 → W p l e room_1 s m #[Value.ref b] below meth c H locs (14 + j) (12744 + 6 * j) (lw_Z below #[Value.ref b] s) (F0 m 23 ls []) := by
    intro N23
    induction N23 with
    | zero => intro j i tx g co H locs ls hw hS hl hj hN23; exact absurd hN23 (Nat.not_lt_zero _)
    | succ N23 ih23 =>
      intro j i tx g co H locs ls hw hS hl hj hN23
      refine lv_iload hx hb d_law_23 (lv_at hl 4 rfl) ?_
      refine lv_aload_n hx hb d_law_25 rfl (lv_at hl 0 rfl) ?_
      refine l_slen hx hb hXs hbl hbA hS d_law_26 ?_
      refine lv_bipush (v := iz 7) hx hb d_law_27 (by decide) ?_
      refine z_isub hx hb d_law_29 ?_
      refine z_icmp_gt (tgt := 431) hx hb d_law_30 rfl ⟨by omega, by omega⟩ ⟨by omega, by omega⟩ (fun hc30 => ?_) (fun hc30 => ?_)
      · refine va_forget hS.2.2 ?_
        refine l_widen (k9 := 1041) (n9 := 20954) (by omega) (by omega) ?_
        refine lv_iconst (v := (1 : Int32)) hx hb d_law_431 rfl ?_
        exact lw_ret hx hb hr hlk d_law_432
      · have hjL : j < 512 := by omega
        refine lv_aload_n hx hb d_law_33 rfl (lv_at hl 0 rfl) ?_
        refine lv_iload hx hb d_law_34 (lv_at hl 4 rfl) ?_
        refine l_sld (7 * j + 0) hx hb hXs hbl hbA hS (by omega) (by omega) hL d_law_36 ?_
        refine lv_iconst (v := iz 3) hx hb d_law_37 rfl ?_
        refine lv_iand hx hb d_law_38 ?_
        obtain ⟨o9, ho9, e9⟩ := op4 (xs (7 * j + 0))
        rw [e9]
        rcases (show o9 = 0 ∨ o9 = 1 ∨ o9 = 2 ∨ o9 = 3 by omega) with rfl | rfl | rfl | rfl
        · refine lv_tableIn (off := 25) (tgt := 64) hx hb d_law_39 (by decide) (by decide) (by decide) rfl ?_
          refine lv_aload_n hx hb d_law_64 rfl (lv_at hl 1 rfl) ?_
          refine lv_aload_n hx hb d_law_65 rfl (lv_at hl 0 rfl) ?_
          refine lv_iload hx hb d_law_66 (lv_at hl 4 rfl) ?_
          refine lv_iconst (v := iz 1) hx hb d_law_68 rfl ?_
          refine z_iadd hx hb d_law_69 ?_
          refine l_sld (7 * j + 1) hx hb hXs hbl hbA hS (by omega) (by omega) hL d_law_70 ?_
          refine z_topi (y := iz (xs (7 * j + 1)).toInt) (iz_of _).symm ?_
          refine lv_aload_n hx hb d_law_71 rfl (lv_at hl 0 rfl) ?_
          refine lv_iload hx hb d_law_72 (lv_at hl 4 rfl) ?_
          refine lv_iconst (v := iz 2) hx hb d_law_74 rfl ?_
          refine z_iadd hx hb d_law_75 ?_
          refine l_sld (7 * j + 2) hx hb hXs hbl hbA hS (by omega) (by omega) hL d_law_76 ?_
          refine z_topi (y := iz (xs (7 * j + 2)).toInt) (iz_of _).symm ?_
          refine lv_aload_n hx hb d_law_77 rfl (lv_at hl 0 rfl) ?_
          refine lv_iload hx hb d_law_78 (lv_at hl 4 rfl) ?_
          refine lv_iconst (v := iz 3) hx hb d_law_80 rfl ?_
          refine z_iadd hx hb d_law_81 ?_
          refine l_sld (7 * j + 3) hx hb hXs hbl hbA hS (by omega) (by omega) hL d_law_82 ?_
          refine l_bool hx hb rfl rfl d_law_83 d_law_86 d_law_87 d_law_90 ?_
          refine lv_aload_n hx hb d_law_91 rfl (lv_at hl 0 rfl) ?_
          refine lv_iload hx hb d_law_92 (lv_at hl 4 rfl) ?_
          refine lv_iconst (v := iz 4) hx hb d_law_94 rfl ?_
          refine z_iadd hx hb d_law_95 ?_
          refine l_sld (7 * j + 4) hx hb hXs hbl hbA hS (by omega) (by omega) hL d_law_96 ?_
          refine l_bool hx hb rfl rfl d_law_97 d_law_100 d_law_101 d_law_104 ?_
          refine lv_aload_n hx hb d_law_105 rfl (lv_at hl 0 rfl) ?_
          refine lv_iload hx hb d_law_106 (lv_at hl 4 rfl) ?_
          refine lv_iconst (v := iz 5) hx hb d_law_108 rfl ?_
          refine z_iadd hx hb d_law_109 ?_
          refine l_sld (7 * j + 5) hx hb hXs hbl hbA hS (by omega) (by omega) hL d_law_110 ?_
          refine lv_i2l hx hb d_law_111 rfl ?_
          refine lv_bipush (v := iz 32) hx hb d_law_112 (by decide) ?_
          refine lv_lshl hx hb d_law_114 rfl ?_
          refine lv_aload_n hx hb d_law_115 rfl (lv_at hl 0 rfl) ?_
          refine lv_iload hx hb d_law_116 (lv_at hl 4 rfl) ?_
          refine lv_bipush (v := iz 6) hx hb d_law_118 (by decide) ?_
          refine z_iadd hx hb d_law_120 ?_
          refine l_sld (7 * j + 6) hx hb hXs hbl hbA hS (by omega) (by omega) hL d_law_121 ?_
          refine lv_i2l hx hb d_law_122 rfl ?_
          refine lv_ldc2 (v := (4294967295 : Int64)) hx hb hown (hts _ tw_530) d_law_123 ?_
          refine z_topl (y := lz (4294967295)) (by decide) ?_
          refine lv_land hx hb d_law_126 ?_
          refine lv_lor hx hb d_law_127 ?_
          refine lv_aload_n hx hb d_law_128 rfl (lv_at hl 3 rfl) ?_
          by_cases hrg : (0 ≤ (xs (7 * j + 1)).toInt ∧ (xs (7 * j + 1)).toInt ≤ 2) ∧ (0 ≤ (xs (7 * j + 2)).toInt ∧ (xs (7 * j + 2)).toInt ≤ 1200)
          · have hct := h_show l D cI cB cL x d la t ba tt ad ou tx g kI vI kN vN (xs (7 * j + 1)).toInt (xs (7 * j + 2)).toInt.toNat (bz (xs (7 * j + 3))) (bz (xs (7 * j + 4))) ((((xs (7 * j + 5)).toInt64) <<< ((iz 32).toInt64 &&& 63)) ||| (((xs (7 * j + 6)).toInt64) &&& (lz 4294967295))) hrg.1 (by omega) (bz_01 _) (bz_01 _)
            rw [show (((xs (7 * j + 2)).toInt.toNat : Nat) : Int) = (xs (7 * j + 2)).toInt by omega] at hct
            refine l_go (l_runS (n := 7) (rest := []) hx hb (hml.trans hl.1.symm) hown hts hct rfl tw_67 tw_66 tw_0 tw_65 (by decide +kernel) ⟨by decide, by decide⟩ ⟨hw.helper dj (gs.kept hS.2.1).1, (gs.kept hS.2.1).sx dj⟩ rfl rfl (Nat.zero_le _) d_law_129 ⟨by show 14 + j + 1 ≤ 1041; omega, by show 12744 + 6 * j + 6 ≤ 20954; omega⟩) hS hAH (fun v9 t9 H locs hv9 hp9 hz9 hk9 hS => ?_)
            obtain ⟨rfl, hw9⟩ := hp9
            have hw := hw.newX dj hw9 hv9 hk9
            refine W.eq (g2 := F0 m 132 ls [.int (iz 0)]) rfl ?_
            refine lv_istore hx hb d_law_132 hl (by decide) rfl (fun ls hl => ?_)
            have hl : lv_has ls 8 [(5, .int (iz 0)), (0, .ref b), (1, .ref x), (2, .ref mo), (3, .ref ou), (4, .int (iz i))] := hl
            refine lv_aload_n hx hb d_law_134 rfl (lv_at hl 3 rfl) ?_
            refine lv_aload_n hx hb d_law_135 rfl (lv_at hl 1 rfl) ?_
            refine lv_iload hx hb d_law_136 (lv_at hl 5 rfl) ?_
            refine lv_iconst (v := iz 1) hx hb d_law_138 rfl ?_
            refine z_iadd hx hb d_law_139 ?_
            refine l_sld (7 * j + 1) hx hb hXs hbl hbA hS (by omega) (by omega) hL d_law_140 ?_
            refine z_topi (y := iz (xs (7 * j + 1)).toInt) (iz_of _).symm ?_
            refine lv_aload_n hx hb d_law_141 rfl (lv_at hl 1 rfl) ?_
            refine lv_iload hx hb d_law_142 (lv_at hl 5 rfl) ?_
            refine lv_iconst (v := iz 2) hx hb d_law_144 rfl ?_
            refine z_iadd hx hb d_law_145 ?_
            refine l_sld (7 * j + 2) hx hb hXs hbl hbA hS (by omega) (by omega) hL d_law_146 ?_
            refine z_topi (y := iz (xs (7 * j + 2)).toInt) (iz_of _).symm ?_
            refine lv_aload_n hx hb d_law_147 rfl (lv_at hl 1 rfl) ?_
            refine lv_iload hx hb d_law_148 (lv_at hl 5 rfl) ?_
            refine lv_iconst (v := iz 3) hx hb d_law_150 rfl ?_
            refine z_iadd hx hb d_law_151 ?_
            refine l_sld (7 * j + 3) hx hb hXs hbl hbA hS (by omega) (by omega) hL d_law_152 ?_
            refine l_bool hx hb rfl rfl d_law_153 d_law_156 d_law_157 d_law_160 ?_
            refine lv_aload_n hx hb d_law_161 rfl (lv_at hl 1 rfl) ?_
            refine lv_iload hx hb d_law_162 (lv_at hl 5 rfl) ?_
            refine lv_iconst (v := iz 4) hx hb d_law_164 rfl ?_
            refine z_iadd hx hb d_law_165 ?_
            refine l_sld (7 * j + 4) hx hb hXs hbl hbA hS (by omega) (by omega) hL d_law_166 ?_
            refine l_bool hx hb rfl rfl d_law_167 d_law_170 d_law_171 d_law_174 ?_
            refine lv_aload_n hx hb d_law_175 rfl (lv_at hl 1 rfl) ?_
            refine lv_iload hx hb d_law_176 (lv_at hl 5 rfl) ?_
            refine lv_iconst (v := iz 5) hx hb d_law_178 rfl ?_
            refine z_iadd hx hb d_law_179 ?_
            refine l_sld (7 * j + 5) hx hb hXs hbl hbA hS (by omega) (by omega) hL d_law_180 ?_
            refine lv_i2l hx hb d_law_181 rfl ?_
            refine lv_bipush (v := iz 32) hx hb d_law_182 (by decide) ?_
            refine lv_lshl hx hb d_law_184 rfl ?_
            refine lv_aload_n hx hb d_law_185 rfl (lv_at hl 1 rfl) ?_
            refine lv_iload hx hb d_law_186 (lv_at hl 5 rfl) ?_
            refine lv_bipush (v := iz 6) hx hb d_law_188 (by decide) ?_
            refine z_iadd hx hb d_law_190 ?_
            refine l_sld (7 * j + 6) hx hb hXs hbl hbA hS (by omega) (by omega) hL d_law_191 ?_
            refine lv_i2l hx hb d_law_192 rfl ?_
            refine lv_ldc2 (v := (4294967295 : Int64)) hx hb hown (hts _ tw_530) d_law_193 ?_
            refine z_topl (y := lz (4294967295)) (by decide) ?_
            refine lv_land hx hb d_law_196 ?_
            refine lv_lor hx hb d_law_197 ?_
            have hct := c_Mo_show l D cB cL mo rs ex xd li bo cu cd co tx kI vI kN vN (xs (7 * j + 1)).toInt (xs (7 * j + 2)).toInt.toNat (bz (xs (7 * j + 3))) (bz (xs (7 * j + 4))) ((((xs (7 * j + 5)).toInt64) <<< ((iz 32).toInt64 &&& 63)) ||| (((xs (7 * j + 6)).toInt64) &&& (lz 4294967295))) hrg.1 (by omega) (bz_01 _) (bz_01 _)
            rw [show (((xs (7 * j + 2)).toInt.toNat : Nat) : Int) = (xs (7 * j + 2)).toInt by omega] at hct
            refine z_go (va_runV (As := [.int (iz ((xs (7 * j + 1)).toInt)), .int (iz ((xs (7 * j + 2)).toInt)), .int (iz (bz (xs (7 * j + 3)))), .int (iz (bz (xs (7 * j + 4)))), .long ((((xs (7 * j + 5)).toInt64) <<< ((iz 32).toInt64 &&& 63)) ||| (((xs (7 * j + 6)).toInt64) &&& (lz 4294967295)))]) (rest := []) ⟨hx, hb, hml, hown, hts⟩ hct.2 (z_cwV hts w_Mo_show tw_440 (by decide)) (z_preV hct.1 hw.2.2.recv ⟨hw.2.2, (gs.kept hS.2.1).sm dj⟩) rfl rfl hl.1 rfl (lv_room (Nat.le_of_ble_eq_true rfl)) d_law_198 ⟨by show 14 + j + 1 + 0 ≤ 1041; omega, by show 12744 + 6 * j + 6 + 0 ≤ 20954; omega⟩) hS hAM (fun v9 t9 H locs hv9 hp9 hz9 hk9 hS => ?_)
            obtain ⟨rfl, hw9⟩ := hp9
            have hw := hw.newM dj hw9 hv9 hk9 (gs.kept hS.2.1).1
            refine W.eq (g2 := F0 m 201 ls [.int (iz ((outT 52 2047 (-1074) (xs (7 * j + 1)).toInt (xs (7 * j + 2)).toInt.toNat (bz (xs (7 * j + 3))) (bz (xs (7 * j + 4))) ((((xs (7 * j + 5)).toInt64) <<< ((iz 32).toInt64 &&& 63)) ||| (((xs (7 * j + 6)).toInt64) &&& (lz 4294967295)))).length : Int))]) rfl ?_
            refine lv_istore hx hb d_law_201 hl (by decide) rfl (fun ls hl => ?_)
            have hl : lv_has ls 8 [(6, .int (iz ((outT 52 2047 (-1074) (xs (7 * j + 1)).toInt (xs (7 * j + 2)).toInt.toNat (bz (xs (7 * j + 3))) (bz (xs (7 * j + 4))) ((((xs (7 * j + 5)).toInt64) <<< ((iz 32).toInt64 &&& 63)) ||| (((xs (7 * j + 6)).toInt64) &&& (lz 4294967295)))).length : Int))), (5, .int (iz 0)), (0, .ref b), (1, .ref x), (2, .ref mo), (3, .ref ou), (4, .int (iz i))] := hl
            refine lv_aload_n hx hb d_law_203 rfl (lv_at hl 4 rfl) ?_
            have hct := k_Mthrown l D cB cL mo rs ex xd li bo cu cd 0 (outT 52 2047 (-1074) (xs (7 * j + 1)).toInt (xs (7 * j + 2)).toInt.toNat (bz (xs (7 * j + 3))) (bz (xs (7 * j + 4))) ((((xs (7 * j + 5)).toInt64) <<< ((iz 32).toInt64 &&& 63)) ||| (((xs (7 * j + 6)).toInt64) &&& (lz 4294967295))))
            refine z_go (va_runV (As := []) (rest := []) ⟨hx, hb, hml, hown, hts⟩ hct.2 (z_cwV hts w_Mo_thrown tw_427 (by decide)) (z_preV hct.1 hw.2.2.recv hw.2.2) rfl rfl hl.1 rfl (lv_room (Nat.le_of_ble_eq_true rfl)) d_law_204 ⟨by show 14 + j + 1 + 0 ≤ 1041; omega, by show 12744 + 6 * j + 6 + 0 ≤ 20954; omega⟩) hS hAM (fun v9 t9 H locs hv9 hp9 hz9 hk9 hS => ?_)
            obtain ⟨rfl, hw9⟩ := hp9
            have hw := hw.newM dj hw9 hv9 hk9 (gs.kept hS.2.1).1
            refine W.eq (g2 := F0 m 207 ls [.int (iz 0)]) rfl ?_
            refine lv_iload hx hb d_law_207 (lv_at hl 1 rfl) ?_
            refine z_icmp_eq (tgt := 214) hx hb d_law_209 rfl ⟨by omega, by omega⟩ ⟨by omega, by omega⟩ (fun hc209 => ?_) (fun hc209 => ?_)
            · refine lv_iload hx hb d_law_214 (lv_at hl 1 rfl) ?_
              refine z_if_ne (tgt := 231) hx hb d_law_216 rfl ⟨by omega, by omega⟩ (fun hc216 => ?_) (fun hc216 => ?_)
              · exfalso
                omega
              · refine lv_aload_n hx hb d_law_219 rfl (lv_at hl 5 rfl) ?_
                refine lv_iconst (v := iz 0) hx hb d_law_220 rfl ?_
                refine l_oald hx hb hw.2.1 d_law_221 ?_
                refine z_rl (b := ((outT 52 2047 (-1074) (xs (7 * j + 1)).toInt (xs (7 * j + 2)).toInt.toNat (bz (xs (7 * j + 3))) (bz (xs (7 * j + 4))) ((((xs (7 * j + 5)).toInt64) <<< ((iz 32).toInt64 &&& 63)) ||| (((xs (7 * j + 6)).toInt64) &&& (lz 4294967295)))).length : Int)) (by rw [up_s]) ?_
                have hlen9 := hw.1.len
                refine lv_iload hx hb d_law_222 (lv_at hl 0 rfl) ?_
                refine z_i2l hx hb d_law_224 ⟨by omega, by omega⟩ ?_
                refine z_lif_eq (tgt := 231) hx hb d_law_225 d_law_226 rfl ⟨by omega, by omega⟩ ⟨by omega, by omega⟩ (fun hc225 => ?_) (fun hc225 => ?_)
                · refine lv_goto (tgt := 425) hx hb d_law_231 rfl ?_
                  refine lv_iinc (k := 6) (v := (iz (i + 7))) hx hb d_law_425 hl rfl (by show iz _ + iz (7) = _; rw [← iz_add]; try rfl) (by decide) rfl (fun ls hl => ?_)
                  have hl : lv_has ls 8 [(4, .int (iz (i + 7))), (6, .int (iz ((outT 52 2047 (-1074) (xs (7 * j + 1)).toInt (xs (7 * j + 2)).toInt.toNat (bz (xs (7 * j + 3))) (bz (xs (7 * j + 4))) ((((xs (7 * j + 5)).toInt64) <<< ((iz 32).toInt64 &&& 63)) ||| (((xs (7 * j + 6)).toInt64) &&& (lz 4294967295)))).length : Int))), (5, .int (iz 0)), (0, .ref b), (1, .ref x), (2, .ref mo), (3, .ref ou)] := hl
                  refine lv_goto (tgt := 23) hx hb d_law_428 rfl ?_
                  refine l_widen (k9 := 14 + (j + 1)) (n9 := 12744 + 6 * (j + 1)) (by omega) (by omega) ?_
                  exact ih23 (j + 1) (i + 7) (outT 52 2047 (-1074) (xs (7 * j + 1)).toInt (xs (7 * j + 2)).toInt.toNat (bz (xs (7 * j + 3))) (bz (xs (7 * j + 4))) ((((xs (7 * j + 5)).toInt64) <<< ((iz 32).toInt64 &&& 63)) ||| (((xs (7 * j + 6)).toInt64) &&& (lz 4294967295)))) (up g 0 ((outT 52 2047 (-1074) (xs (7 * j + 1)).toInt (xs (7 * j + 2)).toInt.toNat (bz (xs (7 * j + 3))) (bz (xs (7 * j + 4))) ((((xs (7 * j + 5)).toInt64) <<< ((iz 32).toInt64 &&& 63)) ||| (((xs (7 * j + 6)).toInt64) &&& (lz 4294967295)))).length : Int)) 0 _ _ _ hw hS (lv_sub hl [3, 4, 5, 6, 0] rfl) ⟨by omega, by omega⟩ (by omega)
                · exfalso
                  omega
            · exfalso
              omega
          · have hct := h_showX l htr D cI cB cL x d la t ba tt ad ou tx g k57 k60 k46 (xs (7 * j + 1)).toInt (xs (7 * j + 2)).toInt (bz (xs (7 * j + 3))) (bz (xs (7 * j + 4))) ((((xs (7 * j + 5)).toInt64) <<< ((iz 32).toInt64 &&& 63)) ||| (((xs (7 * j + 6)).toInt64) &&& (lz 4294967295))) (iz_R _) (iz_R _) (by omega)
            refine l_go (l_runS (n := 7) (rest := []) hx hb (hml.trans hl.1.symm) hown hts hct rfl tw_67 tw_66 tw_0 tw_65 (by decide +kernel) ⟨by decide, by decide⟩ ⟨hw.helper dj (gs.kept hS.2.1).1, (gs.kept hS.2.1).2.2.2.none⟩ rfl rfl (Nat.zero_le _) d_law_129 ⟨by show 14 + j + 1 ≤ 1041; omega, by show 12744 + 6 * j + 6 ≤ 20954; omega⟩) hS hAH (fun v9 t9 H locs hv9 hp9 hz9 hk9 hS => ?_)
            obtain ⟨rfl, hw9⟩ := hp9
            have hw := hw.newX dj hw9 hv9 hk9
            refine W.eq (g2 := F0 m 132 ls [.int (iz 1)]) rfl ?_
            refine lv_istore hx hb d_law_132 hl (by decide) rfl (fun ls hl => ?_)
            have hl : lv_has ls 8 [(5, .int (iz 1)), (0, .ref b), (1, .ref x), (2, .ref mo), (3, .ref ou), (4, .int (iz i))] := hl
            refine lv_aload_n hx hb d_law_134 rfl (lv_at hl 3 rfl) ?_
            refine lv_aload_n hx hb d_law_135 rfl (lv_at hl 1 rfl) ?_
            refine lv_iload hx hb d_law_136 (lv_at hl 5 rfl) ?_
            refine lv_iconst (v := iz 1) hx hb d_law_138 rfl ?_
            refine z_iadd hx hb d_law_139 ?_
            refine l_sld (7 * j + 1) hx hb hXs hbl hbA hS (by omega) (by omega) hL d_law_140 ?_
            refine z_topi (y := iz (xs (7 * j + 1)).toInt) (iz_of _).symm ?_
            refine lv_aload_n hx hb d_law_141 rfl (lv_at hl 1 rfl) ?_
            refine lv_iload hx hb d_law_142 (lv_at hl 5 rfl) ?_
            refine lv_iconst (v := iz 2) hx hb d_law_144 rfl ?_
            refine z_iadd hx hb d_law_145 ?_
            refine l_sld (7 * j + 2) hx hb hXs hbl hbA hS (by omega) (by omega) hL d_law_146 ?_
            refine z_topi (y := iz (xs (7 * j + 2)).toInt) (iz_of _).symm ?_
            refine lv_aload_n hx hb d_law_147 rfl (lv_at hl 1 rfl) ?_
            refine lv_iload hx hb d_law_148 (lv_at hl 5 rfl) ?_
            refine lv_iconst (v := iz 3) hx hb d_law_150 rfl ?_
            refine z_iadd hx hb d_law_151 ?_
            refine l_sld (7 * j + 3) hx hb hXs hbl hbA hS (by omega) (by omega) hL d_law_152 ?_
            refine l_bool hx hb rfl rfl d_law_153 d_law_156 d_law_157 d_law_160 ?_
            refine lv_aload_n hx hb d_law_161 rfl (lv_at hl 1 rfl) ?_
            refine lv_iload hx hb d_law_162 (lv_at hl 5 rfl) ?_
            refine lv_iconst (v := iz 4) hx hb d_law_164 rfl ?_
            refine z_iadd hx hb d_law_165 ?_
            refine l_sld (7 * j + 4) hx hb hXs hbl hbA hS (by omega) (by omega) hL d_law_166 ?_
            refine l_bool hx hb rfl rfl d_law_167 d_law_170 d_law_171 d_law_174 ?_
            refine lv_aload_n hx hb d_law_175 rfl (lv_at hl 1 rfl) ?_
            refine lv_iload hx hb d_law_176 (lv_at hl 5 rfl) ?_
            refine lv_iconst (v := iz 5) hx hb d_law_178 rfl ?_
            refine z_iadd hx hb d_law_179 ?_
            refine l_sld (7 * j + 5) hx hb hXs hbl hbA hS (by omega) (by omega) hL d_law_180 ?_
            refine lv_i2l hx hb d_law_181 rfl ?_
            refine lv_bipush (v := iz 32) hx hb d_law_182 (by decide) ?_
            refine lv_lshl hx hb d_law_184 rfl ?_
            refine lv_aload_n hx hb d_law_185 rfl (lv_at hl 1 rfl) ?_
            refine lv_iload hx hb d_law_186 (lv_at hl 5 rfl) ?_
            refine lv_bipush (v := iz 6) hx hb d_law_188 (by decide) ?_
            refine z_iadd hx hb d_law_190 ?_
            refine l_sld (7 * j + 6) hx hb hXs hbl hbA hS (by omega) (by omega) hL d_law_191 ?_
            refine lv_i2l hx hb d_law_192 rfl ?_
            refine lv_ldc2 (v := (4294967295 : Int64)) hx hb hown (hts _ tw_530) d_law_193 ?_
            refine z_topl (y := lz (4294967295)) (by decide) ?_
            refine lv_land hx hb d_law_196 ?_
            refine lv_lor hx hb d_law_197 ?_
            have hct := c_Mo_showBad l D cB cL mo rs ex xd li bo cu cd co tx (xs (7 * j + 1)).toInt (xs (7 * j + 2)).toInt (bz (xs (7 * j + 3))) (bz (xs (7 * j + 4))) ((((xs (7 * j + 5)).toInt64) <<< ((iz 32).toInt64 &&& 63)) ||| (((xs (7 * j + 6)).toInt64) &&& (lz 4294967295))) ⟨iz_R _, iz_R _⟩ (by omega)
            refine z_go (va_runV (As := [.int (iz ((xs (7 * j + 1)).toInt)), .int (iz ((xs (7 * j + 2)).toInt)), .int (iz (bz (xs (7 * j + 3)))), .int (iz (bz (xs (7 * j + 4)))), .long ((((xs (7 * j + 5)).toInt64) <<< ((iz 32).toInt64 &&& 63)) ||| (((xs (7 * j + 6)).toInt64) &&& (lz 4294967295)))]) (rest := []) ⟨hx, hb, hml, hown, hts⟩ hct.2 (z_cwV hts w_Mo_show tw_440 (by decide)) (z_preV hct.1 hw.2.2.recv hw.2.2) rfl rfl hl.1 rfl (lv_room (Nat.le_of_ble_eq_true rfl)) d_law_198 ⟨by show 14 + j + 1 + 0 ≤ 1041; omega, by show 12744 + 6 * j + 6 + 0 ≤ 20954; omega⟩) hS hAM (fun v9 t9 H locs hv9 hp9 hz9 hk9 hS => ?_)
            obtain ⟨rfl, hw9⟩ := hp9
            have hw := hw.newM dj hw9 hv9 hk9 (gs.kept hS.2.1).1
            refine W.eq (g2 := F0 m 201 ls [.int (iz 0)]) rfl ?_
            refine lv_istore hx hb d_law_201 hl (by decide) rfl (fun ls hl => ?_)
            have hl : lv_has ls 8 [(6, .int (iz 0)), (5, .int (iz 1)), (0, .ref b), (1, .ref x), (2, .ref mo), (3, .ref ou), (4, .int (iz i))] := hl
            refine lv_aload_n hx hb d_law_203 rfl (lv_at hl 4 rfl) ?_
            have hct := k_Mthrown l D cB cL mo rs ex xd li bo cu cd 1 tx
            refine z_go (va_runV (As := []) (rest := []) ⟨hx, hb, hml, hown, hts⟩ hct.2 (z_cwV hts w_Mo_thrown tw_427 (by decide)) (z_preV hct.1 hw.2.2.recv hw.2.2) rfl rfl hl.1 rfl (lv_room (Nat.le_of_ble_eq_true rfl)) d_law_204 ⟨by show 14 + j + 1 + 0 ≤ 1041; omega, by show 12744 + 6 * j + 6 + 0 ≤ 20954; omega⟩) hS hAM (fun v9 t9 H locs hv9 hp9 hz9 hk9 hS => ?_)
            obtain ⟨rfl, hw9⟩ := hp9
            have hw := hw.newM dj hw9 hv9 hk9 (gs.kept hS.2.1).1
            refine W.eq (g2 := F0 m 207 ls [.int (iz 1)]) rfl ?_
            refine lv_iload hx hb d_law_207 (lv_at hl 1 rfl) ?_
            refine z_icmp_eq (tgt := 214) hx hb d_law_209 rfl ⟨by omega, by omega⟩ ⟨by omega, by omega⟩ (fun hc209 => ?_) (fun hc209 => ?_)
            · refine lv_iload hx hb d_law_214 (lv_at hl 1 rfl) ?_
              refine z_if_ne (tgt := 231) hx hb d_law_216 rfl ⟨by omega, by omega⟩ (fun hc216 => ?_) (fun hc216 => ?_)
              · refine lv_goto (tgt := 425) hx hb d_law_231 rfl ?_
                refine lv_iinc (k := 6) (v := (iz (i + 7))) hx hb d_law_425 hl rfl (by show iz _ + iz (7) = _; rw [← iz_add]; try rfl) (by decide) rfl (fun ls hl => ?_)
                have hl : lv_has ls 8 [(4, .int (iz (i + 7))), (6, .int (iz 0)), (5, .int (iz 1)), (0, .ref b), (1, .ref x), (2, .ref mo), (3, .ref ou)] := hl
                refine lv_goto (tgt := 23) hx hb d_law_428 rfl ?_
                refine l_widen (k9 := 14 + (j + 1)) (n9 := 12744 + 6 * (j + 1)) (by omega) (by omega) ?_
                exact ih23 (j + 1) (i + 7) tx g 1 _ _ _ hw hS (lv_sub hl [3, 4, 5, 6, 0] rfl) ⟨by omega, by omega⟩ (by omega)
              · exfalso
                omega
            · exfalso
              omega
        · refine lv_tableIn (off := 195) (tgt := 234) hx hb d_law_39 (by decide) (by decide) (by decide) rfl ?_
          refine lv_aload_n hx hb d_law_234 rfl (lv_at hl 1 rfl) ?_
          refine lv_aload_n hx hb d_law_235 rfl (lv_at hl 0 rfl) ?_
          refine lv_iload hx hb d_law_236 (lv_at hl 4 rfl) ?_
          refine lv_iconst (v := iz 1) hx hb d_law_238 rfl ?_
          refine z_iadd hx hb d_law_239 ?_
          refine l_sld (7 * j + 1) hx hb hXs hbl hbA hS (by omega) (by omega) hL d_law_240 ?_
          refine z_topi (y := iz (xs (7 * j + 1)).toInt) (iz_of _).symm ?_
          refine lv_aload_n hx hb d_law_241 rfl (lv_at hl 0 rfl) ?_
          refine lv_iload hx hb d_law_242 (lv_at hl 4 rfl) ?_
          refine lv_iconst (v := iz 2) hx hb d_law_244 rfl ?_
          refine z_iadd hx hb d_law_245 ?_
          refine l_sld (7 * j + 2) hx hb hXs hbl hbA hS (by omega) (by omega) hL d_law_246 ?_
          refine z_topi (y := iz (xs (7 * j + 2)).toInt) (iz_of _).symm ?_
          refine lv_aload_n hx hb d_law_247 rfl (lv_at hl 0 rfl) ?_
          refine lv_iload hx hb d_law_248 (lv_at hl 4 rfl) ?_
          refine lv_iconst (v := iz 3) hx hb d_law_250 rfl ?_
          refine z_iadd hx hb d_law_251 ?_
          refine l_sld (7 * j + 3) hx hb hXs hbl hbA hS (by omega) (by omega) hL d_law_252 ?_
          refine l_bool hx hb rfl rfl d_law_253 d_law_256 d_law_257 d_law_260 ?_
          refine lv_aload_n hx hb d_law_261 rfl (lv_at hl 0 rfl) ?_
          refine lv_iload hx hb d_law_262 (lv_at hl 4 rfl) ?_
          refine lv_iconst (v := iz 4) hx hb d_law_264 rfl ?_
          refine z_iadd hx hb d_law_265 ?_
          refine l_sld (7 * j + 4) hx hb hXs hbl hbA hS (by omega) (by omega) hL d_law_266 ?_
          refine l_bool hx hb rfl rfl d_law_267 d_law_270 d_law_271 d_law_274 ?_
          refine lv_aload_n hx hb d_law_275 rfl (lv_at hl 0 rfl) ?_
          refine lv_iload hx hb d_law_276 (lv_at hl 4 rfl) ?_
          refine lv_iconst (v := iz 5) hx hb d_law_278 rfl ?_
          refine z_iadd hx hb d_law_279 ?_
          refine l_sld (7 * j + 5) hx hb hXs hbl hbA hS (by omega) (by omega) hL d_law_280 ?_
          refine lv_aload_n hx hb d_law_281 rfl (lv_at hl 3 rfl) ?_
          by_cases hrg : (0 ≤ (xs (7 * j + 1)).toInt ∧ (xs (7 * j + 1)).toInt ≤ 2) ∧ (0 ≤ (xs (7 * j + 2)).toInt ∧ (xs (7 * j + 2)).toInt ≤ 1200)
          · have hct := h_showFloat l D cI cB cL x d la t ba tt ad ou tx g kI vI kN vN (xs (7 * j + 1)).toInt (xs (7 * j + 2)).toInt.toNat (bz (xs (7 * j + 3))) (bz (xs (7 * j + 4))) (xs (7 * j + 5)) hrg.1 (by omega) (bz_01 _) (bz_01 _)
            rw [show (((xs (7 * j + 2)).toInt.toNat : Nat) : Int) = (xs (7 * j + 2)).toInt by omega] at hct
            refine l_go (l_runS (n := 7) (rest := []) hx hb (hml.trans hl.1.symm) hown hts hct rfl tw_334 tw_333 tw_0 tw_332 (by decide +kernel) ⟨by decide, by decide⟩ ⟨hw.helper dj (gs.kept hS.2.1).1, (gs.kept hS.2.1).sx dj⟩ rfl rfl (Nat.zero_le _) d_law_282 ⟨by show 14 + j + 1 ≤ 1041; omega, by show 12744 + 6 * j + 6 ≤ 20954; omega⟩) hS hAH (fun v9 t9 H locs hv9 hp9 hz9 hk9 hS => ?_)
            obtain ⟨rfl, hw9⟩ := hp9
            have hw := hw.newX dj hw9 hv9 hk9
            refine W.eq (g2 := F0 m 285 ls [.int (iz 0)]) rfl ?_
            refine lv_istore hx hb d_law_285 hl (by decide) rfl (fun ls hl => ?_)
            have hl : lv_has ls 8 [(5, .int (iz 0)), (0, .ref b), (1, .ref x), (2, .ref mo), (3, .ref ou), (4, .int (iz i))] := hl
            refine lv_aload_n hx hb d_law_287 rfl (lv_at hl 3 rfl) ?_
            refine lv_aload_n hx hb d_law_288 rfl (lv_at hl 1 rfl) ?_
            refine lv_iload hx hb d_law_289 (lv_at hl 5 rfl) ?_
            refine lv_iconst (v := iz 1) hx hb d_law_291 rfl ?_
            refine z_iadd hx hb d_law_292 ?_
            refine l_sld (7 * j + 1) hx hb hXs hbl hbA hS (by omega) (by omega) hL d_law_293 ?_
            refine z_topi (y := iz (xs (7 * j + 1)).toInt) (iz_of _).symm ?_
            refine lv_aload_n hx hb d_law_294 rfl (lv_at hl 1 rfl) ?_
            refine lv_iload hx hb d_law_295 (lv_at hl 5 rfl) ?_
            refine lv_iconst (v := iz 2) hx hb d_law_297 rfl ?_
            refine z_iadd hx hb d_law_298 ?_
            refine l_sld (7 * j + 2) hx hb hXs hbl hbA hS (by omega) (by omega) hL d_law_299 ?_
            refine z_topi (y := iz (xs (7 * j + 2)).toInt) (iz_of _).symm ?_
            refine lv_aload_n hx hb d_law_300 rfl (lv_at hl 1 rfl) ?_
            refine lv_iload hx hb d_law_301 (lv_at hl 5 rfl) ?_
            refine lv_iconst (v := iz 3) hx hb d_law_303 rfl ?_
            refine z_iadd hx hb d_law_304 ?_
            refine l_sld (7 * j + 3) hx hb hXs hbl hbA hS (by omega) (by omega) hL d_law_305 ?_
            refine l_bool hx hb rfl rfl d_law_306 d_law_309 d_law_310 d_law_313 ?_
            refine lv_aload_n hx hb d_law_314 rfl (lv_at hl 1 rfl) ?_
            refine lv_iload hx hb d_law_315 (lv_at hl 5 rfl) ?_
            refine lv_iconst (v := iz 4) hx hb d_law_317 rfl ?_
            refine z_iadd hx hb d_law_318 ?_
            refine l_sld (7 * j + 4) hx hb hXs hbl hbA hS (by omega) (by omega) hL d_law_319 ?_
            refine l_bool hx hb rfl rfl d_law_320 d_law_323 d_law_324 d_law_327 ?_
            refine lv_aload_n hx hb d_law_328 rfl (lv_at hl 1 rfl) ?_
            refine lv_iload hx hb d_law_329 (lv_at hl 5 rfl) ?_
            refine lv_iconst (v := iz 5) hx hb d_law_331 rfl ?_
            refine z_iadd hx hb d_law_332 ?_
            refine l_sld (7 * j + 5) hx hb hXs hbl hbA hS (by omega) (by omega) hL d_law_333 ?_
            have hct := c_Mo_showFloat l D cB cL mo rs ex xd li bo cu cd co tx kI vI kN vN (xs (7 * j + 1)).toInt (xs (7 * j + 2)).toInt.toNat (bz (xs (7 * j + 3))) (bz (xs (7 * j + 4))) (xs (7 * j + 5)) hrg.1 (by omega) (bz_01 _) (bz_01 _)
            rw [show (((xs (7 * j + 2)).toInt.toNat : Nat) : Int) = (xs (7 * j + 2)).toInt by omega] at hct
            refine z_go (va_runV (As := [.int (iz ((xs (7 * j + 1)).toInt)), .int (iz ((xs (7 * j + 2)).toInt)), .int (iz (bz (xs (7 * j + 3)))), .int (iz (bz (xs (7 * j + 4)))), .int (xs (7 * j + 5))]) (rest := []) ⟨hx, hb, hml, hown, hts⟩ hct.2 (z_cwV hts w_Mo_showFloat tw_526 (by decide)) (z_preV hct.1 hw.2.2.recv ⟨hw.2.2, (gs.kept hS.2.1).sm dj⟩) rfl rfl hl.1 rfl (lv_room (Nat.le_of_ble_eq_true rfl)) d_law_334 ⟨by show 14 + j + 1 + 0 ≤ 1041; omega, by show 12744 + 6 * j + 6 + 0 ≤ 20954; omega⟩) hS hAM (fun v9 t9 H locs hv9 hp9 hz9 hk9 hS => ?_)
            obtain ⟨rfl, hw9⟩ := hp9
            have hw := hw.newM dj hw9 hv9 hk9 (gs.kept hS.2.1).1
            refine W.eq (g2 := F0 m 337 ls [.int (iz ((outT 23 255 (-149) (xs (7 * j + 1)).toInt (xs (7 * j + 2)).toInt.toNat (bz (xs (7 * j + 3))) (bz (xs (7 * j + 4))) ((xs (7 * j + 5))).toInt64).length : Int))]) rfl ?_
            refine lv_istore hx hb d_law_337 hl (by decide) rfl (fun ls hl => ?_)
            have hl : lv_has ls 8 [(6, .int (iz ((outT 23 255 (-149) (xs (7 * j + 1)).toInt (xs (7 * j + 2)).toInt.toNat (bz (xs (7 * j + 3))) (bz (xs (7 * j + 4))) ((xs (7 * j + 5))).toInt64).length : Int))), (5, .int (iz 0)), (0, .ref b), (1, .ref x), (2, .ref mo), (3, .ref ou), (4, .int (iz i))] := hl
            refine lv_aload_n hx hb d_law_339 rfl (lv_at hl 4 rfl) ?_
            have hct := k_Mthrown l D cB cL mo rs ex xd li bo cu cd 0 (outT 23 255 (-149) (xs (7 * j + 1)).toInt (xs (7 * j + 2)).toInt.toNat (bz (xs (7 * j + 3))) (bz (xs (7 * j + 4))) ((xs (7 * j + 5))).toInt64)
            refine z_go (va_runV (As := []) (rest := []) ⟨hx, hb, hml, hown, hts⟩ hct.2 (z_cwV hts w_Mo_thrown tw_427 (by decide)) (z_preV hct.1 hw.2.2.recv hw.2.2) rfl rfl hl.1 rfl (lv_room (Nat.le_of_ble_eq_true rfl)) d_law_340 ⟨by show 14 + j + 1 + 0 ≤ 1041; omega, by show 12744 + 6 * j + 6 + 0 ≤ 20954; omega⟩) hS hAM (fun v9 t9 H locs hv9 hp9 hz9 hk9 hS => ?_)
            obtain ⟨rfl, hw9⟩ := hp9
            have hw := hw.newM dj hw9 hv9 hk9 (gs.kept hS.2.1).1
            refine W.eq (g2 := F0 m 343 ls [.int (iz 0)]) rfl ?_
            refine lv_iload hx hb d_law_343 (lv_at hl 1 rfl) ?_
            refine z_icmp_eq (tgt := 350) hx hb d_law_345 rfl ⟨by omega, by omega⟩ ⟨by omega, by omega⟩ (fun hc345 => ?_) (fun hc345 => ?_)
            · refine lv_iload hx hb d_law_350 (lv_at hl 1 rfl) ?_
              refine z_if_ne (tgt := 367) hx hb d_law_352 rfl ⟨by omega, by omega⟩ (fun hc352 => ?_) (fun hc352 => ?_)
              · exfalso
                omega
              · refine lv_aload_n hx hb d_law_355 rfl (lv_at hl 5 rfl) ?_
                refine lv_iconst (v := iz 0) hx hb d_law_356 rfl ?_
                refine l_oald hx hb hw.2.1 d_law_357 ?_
                refine z_rl (b := ((outT 23 255 (-149) (xs (7 * j + 1)).toInt (xs (7 * j + 2)).toInt.toNat (bz (xs (7 * j + 3))) (bz (xs (7 * j + 4))) ((xs (7 * j + 5))).toInt64).length : Int)) (by rw [up_s]) ?_
                have hlen9 := hw.1.len
                refine lv_iload hx hb d_law_358 (lv_at hl 0 rfl) ?_
                refine z_i2l hx hb d_law_360 ⟨by omega, by omega⟩ ?_
                refine z_lif_eq (tgt := 367) hx hb d_law_361 d_law_362 rfl ⟨by omega, by omega⟩ ⟨by omega, by omega⟩ (fun hc361 => ?_) (fun hc361 => ?_)
                · refine lv_goto (tgt := 425) hx hb d_law_367 rfl ?_
                  refine lv_iinc (k := 6) (v := (iz (i + 7))) hx hb d_law_425 hl rfl (by show iz _ + iz (7) = _; rw [← iz_add]; try rfl) (by decide) rfl (fun ls hl => ?_)
                  have hl : lv_has ls 8 [(4, .int (iz (i + 7))), (6, .int (iz ((outT 23 255 (-149) (xs (7 * j + 1)).toInt (xs (7 * j + 2)).toInt.toNat (bz (xs (7 * j + 3))) (bz (xs (7 * j + 4))) ((xs (7 * j + 5))).toInt64).length : Int))), (5, .int (iz 0)), (0, .ref b), (1, .ref x), (2, .ref mo), (3, .ref ou)] := hl
                  refine lv_goto (tgt := 23) hx hb d_law_428 rfl ?_
                  refine l_widen (k9 := 14 + (j + 1)) (n9 := 12744 + 6 * (j + 1)) (by omega) (by omega) ?_
                  exact ih23 (j + 1) (i + 7) (outT 23 255 (-149) (xs (7 * j + 1)).toInt (xs (7 * j + 2)).toInt.toNat (bz (xs (7 * j + 3))) (bz (xs (7 * j + 4))) ((xs (7 * j + 5))).toInt64) (up g 0 ((outT 23 255 (-149) (xs (7 * j + 1)).toInt (xs (7 * j + 2)).toInt.toNat (bz (xs (7 * j + 3))) (bz (xs (7 * j + 4))) ((xs (7 * j + 5))).toInt64).length : Int)) 0 _ _ _ hw hS (lv_sub hl [3, 4, 5, 6, 0] rfl) ⟨by omega, by omega⟩ (by omega)
                · exfalso
                  omega
            · exfalso
              omega
          · have hct := h_showFloatX l htr D cI cB cL x d la t ba tt ad ou tx g k57 k60 k46 (xs (7 * j + 1)).toInt (xs (7 * j + 2)).toInt (bz (xs (7 * j + 3))) (bz (xs (7 * j + 4))) (xs (7 * j + 5)) (iz_R _) (iz_R _) (by omega)
            refine l_go (l_runS (n := 7) (rest := []) hx hb (hml.trans hl.1.symm) hown hts hct rfl tw_334 tw_333 tw_0 tw_332 (by decide +kernel) ⟨by decide, by decide⟩ ⟨hw.helper dj (gs.kept hS.2.1).1, (gs.kept hS.2.1).2.2.2.none⟩ rfl rfl (Nat.zero_le _) d_law_282 ⟨by show 14 + j + 1 ≤ 1041; omega, by show 12744 + 6 * j + 6 ≤ 20954; omega⟩) hS hAH (fun v9 t9 H locs hv9 hp9 hz9 hk9 hS => ?_)
            obtain ⟨rfl, hw9⟩ := hp9
            have hw := hw.newX dj hw9 hv9 hk9
            refine W.eq (g2 := F0 m 285 ls [.int (iz 1)]) rfl ?_
            refine lv_istore hx hb d_law_285 hl (by decide) rfl (fun ls hl => ?_)
            have hl : lv_has ls 8 [(5, .int (iz 1)), (0, .ref b), (1, .ref x), (2, .ref mo), (3, .ref ou), (4, .int (iz i))] := hl
            refine lv_aload_n hx hb d_law_287 rfl (lv_at hl 3 rfl) ?_
            refine lv_aload_n hx hb d_law_288 rfl (lv_at hl 1 rfl) ?_
            refine lv_iload hx hb d_law_289 (lv_at hl 5 rfl) ?_
            refine lv_iconst (v := iz 1) hx hb d_law_291 rfl ?_
            refine z_iadd hx hb d_law_292 ?_
            refine l_sld (7 * j + 1) hx hb hXs hbl hbA hS (by omega) (by omega) hL d_law_293 ?_
            refine z_topi (y := iz (xs (7 * j + 1)).toInt) (iz_of _).symm ?_
            refine lv_aload_n hx hb d_law_294 rfl (lv_at hl 1 rfl) ?_
            refine lv_iload hx hb d_law_295 (lv_at hl 5 rfl) ?_
            refine lv_iconst (v := iz 2) hx hb d_law_297 rfl ?_
            refine z_iadd hx hb d_law_298 ?_
            refine l_sld (7 * j + 2) hx hb hXs hbl hbA hS (by omega) (by omega) hL d_law_299 ?_
            refine z_topi (y := iz (xs (7 * j + 2)).toInt) (iz_of _).symm ?_
            refine lv_aload_n hx hb d_law_300 rfl (lv_at hl 1 rfl) ?_
            refine lv_iload hx hb d_law_301 (lv_at hl 5 rfl) ?_
            refine lv_iconst (v := iz 3) hx hb d_law_303 rfl ?_
            refine z_iadd hx hb d_law_304 ?_
            refine l_sld (7 * j + 3) hx hb hXs hbl hbA hS (by omega) (by omega) hL d_law_305 ?_
            refine l_bool hx hb rfl rfl d_law_306 d_law_309 d_law_310 d_law_313 ?_
            refine lv_aload_n hx hb d_law_314 rfl (lv_at hl 1 rfl) ?_
            refine lv_iload hx hb d_law_315 (lv_at hl 5 rfl) ?_
            refine lv_iconst (v := iz 4) hx hb d_law_317 rfl ?_
            refine z_iadd hx hb d_law_318 ?_
            refine l_sld (7 * j + 4) hx hb hXs hbl hbA hS (by omega) (by omega) hL d_law_319 ?_
            refine l_bool hx hb rfl rfl d_law_320 d_law_323 d_law_324 d_law_327 ?_
            refine lv_aload_n hx hb d_law_328 rfl (lv_at hl 1 rfl) ?_
            refine lv_iload hx hb d_law_329 (lv_at hl 5 rfl) ?_
            refine lv_iconst (v := iz 5) hx hb d_law_331 rfl ?_
            refine z_iadd hx hb d_law_332 ?_
            refine l_sld (7 * j + 5) hx hb hXs hbl hbA hS (by omega) (by omega) hL d_law_333 ?_
            have hct := c_Mo_showFloatBad l D cB cL mo rs ex xd li bo cu cd co tx (xs (7 * j + 1)).toInt (xs (7 * j + 2)).toInt (bz (xs (7 * j + 3))) (bz (xs (7 * j + 4))) (xs (7 * j + 5)) ⟨iz_R _, iz_R _⟩ (by omega)
            refine z_go (va_runV (As := [.int (iz ((xs (7 * j + 1)).toInt)), .int (iz ((xs (7 * j + 2)).toInt)), .int (iz (bz (xs (7 * j + 3)))), .int (iz (bz (xs (7 * j + 4)))), .int (xs (7 * j + 5))]) (rest := []) ⟨hx, hb, hml, hown, hts⟩ hct.2 (z_cwV hts w_Mo_showFloat tw_526 (by decide)) (z_preV hct.1 hw.2.2.recv hw.2.2) rfl rfl hl.1 rfl (lv_room (Nat.le_of_ble_eq_true rfl)) d_law_334 ⟨by show 14 + j + 1 + 0 ≤ 1041; omega, by show 12744 + 6 * j + 6 + 0 ≤ 20954; omega⟩) hS hAM (fun v9 t9 H locs hv9 hp9 hz9 hk9 hS => ?_)
            obtain ⟨rfl, hw9⟩ := hp9
            have hw := hw.newM dj hw9 hv9 hk9 (gs.kept hS.2.1).1
            refine W.eq (g2 := F0 m 337 ls [.int (iz 0)]) rfl ?_
            refine lv_istore hx hb d_law_337 hl (by decide) rfl (fun ls hl => ?_)
            have hl : lv_has ls 8 [(6, .int (iz 0)), (5, .int (iz 1)), (0, .ref b), (1, .ref x), (2, .ref mo), (3, .ref ou), (4, .int (iz i))] := hl
            refine lv_aload_n hx hb d_law_339 rfl (lv_at hl 4 rfl) ?_
            have hct := k_Mthrown l D cB cL mo rs ex xd li bo cu cd 1 tx
            refine z_go (va_runV (As := []) (rest := []) ⟨hx, hb, hml, hown, hts⟩ hct.2 (z_cwV hts w_Mo_thrown tw_427 (by decide)) (z_preV hct.1 hw.2.2.recv hw.2.2) rfl rfl hl.1 rfl (lv_room (Nat.le_of_ble_eq_true rfl)) d_law_340 ⟨by show 14 + j + 1 + 0 ≤ 1041; omega, by show 12744 + 6 * j + 6 + 0 ≤ 20954; omega⟩) hS hAM (fun v9 t9 H locs hv9 hp9 hz9 hk9 hS => ?_)
            obtain ⟨rfl, hw9⟩ := hp9
            have hw := hw.newM dj hw9 hv9 hk9 (gs.kept hS.2.1).1
            refine W.eq (g2 := F0 m 343 ls [.int (iz 1)]) rfl ?_
            refine lv_iload hx hb d_law_343 (lv_at hl 1 rfl) ?_
            refine z_icmp_eq (tgt := 350) hx hb d_law_345 rfl ⟨by omega, by omega⟩ ⟨by omega, by omega⟩ (fun hc345 => ?_) (fun hc345 => ?_)
            · refine lv_iload hx hb d_law_350 (lv_at hl 1 rfl) ?_
              refine z_if_ne (tgt := 367) hx hb d_law_352 rfl ⟨by omega, by omega⟩ (fun hc352 => ?_) (fun hc352 => ?_)
              · refine lv_goto (tgt := 425) hx hb d_law_367 rfl ?_
                refine lv_iinc (k := 6) (v := (iz (i + 7))) hx hb d_law_425 hl rfl (by show iz _ + iz (7) = _; rw [← iz_add]; try rfl) (by decide) rfl (fun ls hl => ?_)
                have hl : lv_has ls 8 [(4, .int (iz (i + 7))), (6, .int (iz 0)), (5, .int (iz 1)), (0, .ref b), (1, .ref x), (2, .ref mo), (3, .ref ou)] := hl
                refine lv_goto (tgt := 23) hx hb d_law_428 rfl ?_
                refine l_widen (k9 := 14 + (j + 1)) (n9 := 12744 + 6 * (j + 1)) (by omega) (by omega) ?_
                exact ih23 (j + 1) (i + 7) tx g 1 _ _ _ hw hS (lv_sub hl [3, 4, 5, 6, 0] rfl) ⟨by omega, by omega⟩ (by omega)
              · exfalso
                omega
            · exfalso
              omega
        · refine lv_tableIn (off := 331) (tgt := 370) hx hb d_law_39 (by decide) (by decide) (by decide) rfl ?_
          refine lv_aload_n hx hb d_law_370 rfl (lv_at hl 1 rfl) ?_
          refine lv_aload_n hx hb d_law_371 rfl (lv_at hl 0 rfl) ?_
          refine lv_iload hx hb d_law_372 (lv_at hl 4 rfl) ?_
          refine lv_iconst (v := iz 1) hx hb d_law_374 rfl ?_
          refine z_iadd hx hb d_law_375 ?_
          refine l_sld (7 * j + 1) hx hb hXs hbl hbA hS (by omega) (by omega) hL d_law_376 ?_
          refine z_topi (y := iz (xs (7 * j + 1)).toInt) (iz_of _).symm ?_
          refine lv_aload_n hx hb d_law_377 rfl (lv_at hl 3 rfl) ?_
          by_cases hrg : 0 ≤ (xs (7 * j + 1)).toInt ∧ (xs (7 * j + 1)).toInt < (tx.length : Int)
          · have hct := h_word l D cI cB cL x d la t ba tt ad ou tx g (xs (7 * j + 1)).toInt.toNat (by omega)
            rw [show (((xs (7 * j + 1)).toInt.toNat : Nat) : Int) = (xs (7 * j + 1)).toInt by omega] at hct
            refine l_go (l_runS (n := 3) (rest := []) hx hb (hml.trans hl.1.symm) hown hts hct rfl tw_343 tw_342 tw_0 tw_341 (by decide +kernel) ⟨by decide, by decide⟩ (hw.helper dj (gs.kept hS.2.1).1) rfl rfl (Nat.zero_le _) d_law_378 ⟨by show 14 + j + 1 ≤ 1041; omega, by show 12744 + 6 * j + 6 ≤ 20954; omega⟩) hS hAH (fun v9 t9 H locs hv9 hp9 hz9 hk9 hS => ?_)
            obtain ⟨rfl, hw9⟩ := hp9
            have hw := hw.newX dj hw9 hv9 hk9
            refine W.eq (g2 := F0 m 381 ls [.int (iz 0)]) rfl ?_
            refine lv_istore hx hb d_law_381 hl (by decide) rfl (fun ls hl => ?_)
            have hl : lv_has ls 8 [(5, .int (iz 0)), (0, .ref b), (1, .ref x), (2, .ref mo), (3, .ref ou), (4, .int (iz i))] := hl
            refine lv_aload_n hx hb d_law_383 rfl (lv_at hl 3 rfl) ?_
            refine lv_aload_n hx hb d_law_384 rfl (lv_at hl 1 rfl) ?_
            refine lv_iload hx hb d_law_385 (lv_at hl 5 rfl) ?_
            refine lv_iconst (v := iz 1) hx hb d_law_387 rfl ?_
            refine z_iadd hx hb d_law_388 ?_
            refine l_sld (7 * j + 1) hx hb hXs hbl hbA hS (by omega) (by omega) hL d_law_389 ?_
            refine z_topi (y := iz (xs (7 * j + 1)).toInt) (iz_of _).symm ?_
            have hct := k_MwordIn l D cB cL mo rs ex xd li bo cu cd co tx (xs (7 * j + 1)).toInt.toNat (by omega)
            rw [show (((xs (7 * j + 1)).toInt.toNat : Nat) : Int) = (xs (7 * j + 1)).toInt by omega] at hct
            refine z_go (va_runV (As := [.int (iz ((xs (7 * j + 1)).toInt))]) (rest := []) ⟨hx, hb, hml, hown, hts⟩ hct.2 (z_cwV hts w_Mo_word tw_431 (by decide)) (z_preV hct.1 hw.2.2.recv hw.2.2) rfl rfl hl.1 rfl (lv_room (Nat.le_of_ble_eq_true rfl)) d_law_390 ⟨by show 14 + j + 1 + 0 ≤ 1041; omega, by show 12744 + 6 * j + 6 + 0 ≤ 20954; omega⟩) hS hAM (fun v9 t9 H locs hv9 hp9 hz9 hk9 hS => ?_)
            obtain ⟨rfl, hw9⟩ := hp9
            have hw := hw.newM dj hw9 hv9 hk9 (gs.kept hS.2.1).1
            refine W.eq (g2 := F0 m 393 ls [.long (lz (w8 tx (xs (7 * j + 1)).toInt.toNat 8))]) rfl ?_
            refine lv_lstore hx hb d_law_393 hl (by decide) rfl (fun ls hl => ?_)
            have hl : lv_has ls 8 [(6, .long (lz (w8 tx (xs (7 * j + 1)).toInt.toNat 8))), (5, .int (iz 0)), (0, .ref b), (1, .ref x), (2, .ref mo), (3, .ref ou), (4, .int (iz i))] := hl
            refine lv_aload_n hx hb d_law_395 rfl (lv_at hl 4 rfl) ?_
            have hct := k_Mthrown l D cB cL mo rs ex xd li bo cu cd 0 tx
            refine z_go (va_runV (As := []) (rest := []) ⟨hx, hb, hml, hown, hts⟩ hct.2 (z_cwV hts w_Mo_thrown tw_427 (by decide)) (z_preV hct.1 hw.2.2.recv hw.2.2) rfl rfl hl.1 rfl (lv_room (Nat.le_of_ble_eq_true rfl)) d_law_396 ⟨by show 14 + j + 1 + 0 ≤ 1041; omega, by show 12744 + 6 * j + 6 + 0 ≤ 20954; omega⟩) hS hAM (fun v9 t9 H locs hv9 hp9 hz9 hk9 hS => ?_)
            obtain ⟨rfl, hw9⟩ := hp9
            have hw := hw.newM dj hw9 hv9 hk9 (gs.kept hS.2.1).1
            refine W.eq (g2 := F0 m 399 ls [.int (iz 0)]) rfl ?_
            refine lv_iload hx hb d_law_399 (lv_at hl 1 rfl) ?_
            refine z_icmp_eq (tgt := 406) hx hb d_law_401 rfl ⟨by omega, by omega⟩ ⟨by omega, by omega⟩ (fun hc401 => ?_) (fun hc401 => ?_)
            · refine lv_iload hx hb d_law_406 (lv_at hl 1 rfl) ?_
              refine z_if_ne (tgt := 422) hx hb d_law_408 rfl ⟨by omega, by omega⟩ (fun hc408 => ?_) (fun hc408 => ?_)
              · exfalso
                omega
              · have hw8r := XO.w8R hw.1 (xs (7 * j + 1)).toInt.toNat
                refine lv_aload_n hx hb d_law_411 rfl (lv_at hl 5 rfl) ?_
                refine lv_iconst (v := iz 0) hx hb d_law_412 rfl ?_
                refine l_oald hx hb hw.2.1 d_law_413 ?_
                refine z_rl (b := w8 tx (xs (7 * j + 1)).toInt.toNat 8) (by rw [up_s]) ?_
                refine lv_lload hx hb d_law_414 (lv_at hl 0 rfl) ?_
                refine z_lif_eq (tgt := 422) hx hb d_law_416 d_law_417 rfl hw8r hw8r (fun hc416 => ?_) (fun hc416 => ?_)
                · refine lv_goto (tgt := 425) hx hb d_law_422 rfl ?_
                  refine lv_iinc (k := 6) (v := (iz (i + 7))) hx hb d_law_425 hl rfl (by show iz _ + iz (7) = _; rw [← iz_add]; try rfl) (by decide) rfl (fun ls hl => ?_)
                  have hl : lv_has ls 8 [(4, .int (iz (i + 7))), (6, .long (lz (w8 tx (xs (7 * j + 1)).toInt.toNat 8))), (5, .int (iz 0)), (0, .ref b), (1, .ref x), (2, .ref mo), (3, .ref ou)] := hl
                  refine lv_goto (tgt := 23) hx hb d_law_428 rfl ?_
                  refine l_widen (k9 := 14 + (j + 1)) (n9 := 12744 + 6 * (j + 1)) (by omega) (by omega) ?_
                  exact ih23 (j + 1) (i + 7) tx (up g 0 (w8 tx (xs (7 * j + 1)).toInt.toNat 8)) 0 _ _ _ hw hS (lv_sub hl [3, 4, 5, 6, 0] rfl) ⟨by omega, by omega⟩ (by omega)
                · exfalso
                  exact absurd rfl hc416
            · exfalso
              omega
          · have hct := h_wordX l htr D cI cB cL x d la t ba tt ad ou tx g k57 k60 k46 (xs (7 * j + 1)).toInt (iz_R _) (by omega)
            refine l_go (l_runS (n := 3) (rest := []) hx hb (hml.trans hl.1.symm) hown hts hct rfl tw_343 tw_342 tw_0 tw_341 (by decide +kernel) ⟨by decide, by decide⟩ ⟨hw.helper dj (gs.kept hS.2.1).1, (gs.kept hS.2.1).2.2.2.none⟩ rfl rfl (Nat.zero_le _) d_law_378 ⟨by show 14 + j + 1 ≤ 1041; omega, by show 12744 + 6 * j + 6 ≤ 20954; omega⟩) hS hAH (fun v9 t9 H locs hv9 hp9 hz9 hk9 hS => ?_)
            obtain ⟨rfl, hw9⟩ := hp9
            have hw := hw.newX dj hw9 hv9 hk9
            refine W.eq (g2 := F0 m 381 ls [.int (iz 1)]) rfl ?_
            refine lv_istore hx hb d_law_381 hl (by decide) rfl (fun ls hl => ?_)
            have hl : lv_has ls 8 [(5, .int (iz 1)), (0, .ref b), (1, .ref x), (2, .ref mo), (3, .ref ou), (4, .int (iz i))] := hl
            refine lv_aload_n hx hb d_law_383 rfl (lv_at hl 3 rfl) ?_
            refine lv_aload_n hx hb d_law_384 rfl (lv_at hl 1 rfl) ?_
            refine lv_iload hx hb d_law_385 (lv_at hl 5 rfl) ?_
            refine lv_iconst (v := iz 1) hx hb d_law_387 rfl ?_
            refine z_iadd hx hb d_law_388 ?_
            refine l_sld (7 * j + 1) hx hb hXs hbl hbA hS (by omega) (by omega) hL d_law_389 ?_
            refine z_topi (y := iz (xs (7 * j + 1)).toInt) (iz_of _).symm ?_
            have hct := k_MwordOut l D cB cL mo rs ex xd li bo cu cd co tx (xs (7 * j + 1)).toInt (iz_R _) (by omega)
            refine z_go (va_runV (As := [.int (iz ((xs (7 * j + 1)).toInt))]) (rest := []) ⟨hx, hb, hml, hown, hts⟩ hct.2 (z_cwV hts w_Mo_word tw_431 (by decide)) (z_preV hct.1 hw.2.2.recv hw.2.2) rfl rfl hl.1 rfl (lv_room (Nat.le_of_ble_eq_true rfl)) d_law_390 ⟨by show 14 + j + 1 + 0 ≤ 1041; omega, by show 12744 + 6 * j + 6 + 0 ≤ 20954; omega⟩) hS hAM (fun v9 t9 H locs hv9 hp9 hz9 hk9 hS => ?_)
            obtain ⟨rfl, hw9⟩ := hp9
            have hw := hw.newM dj hw9 hv9 hk9 (gs.kept hS.2.1).1
            refine W.eq (g2 := F0 m 393 ls [.long (lz 0)]) rfl ?_
            refine lv_lstore hx hb d_law_393 hl (by decide) rfl (fun ls hl => ?_)
            have hl : lv_has ls 8 [(6, .long (lz 0)), (5, .int (iz 1)), (0, .ref b), (1, .ref x), (2, .ref mo), (3, .ref ou), (4, .int (iz i))] := hl
            refine lv_aload_n hx hb d_law_395 rfl (lv_at hl 4 rfl) ?_
            have hct := k_Mthrown l D cB cL mo rs ex xd li bo cu cd 1 tx
            refine z_go (va_runV (As := []) (rest := []) ⟨hx, hb, hml, hown, hts⟩ hct.2 (z_cwV hts w_Mo_thrown tw_427 (by decide)) (z_preV hct.1 hw.2.2.recv hw.2.2) rfl rfl hl.1 rfl (lv_room (Nat.le_of_ble_eq_true rfl)) d_law_396 ⟨by show 14 + j + 1 + 0 ≤ 1041; omega, by show 12744 + 6 * j + 6 + 0 ≤ 20954; omega⟩) hS hAM (fun v9 t9 H locs hv9 hp9 hz9 hk9 hS => ?_)
            obtain ⟨rfl, hw9⟩ := hp9
            have hw := hw.newM dj hw9 hv9 hk9 (gs.kept hS.2.1).1
            refine W.eq (g2 := F0 m 399 ls [.int (iz 1)]) rfl ?_
            refine lv_iload hx hb d_law_399 (lv_at hl 1 rfl) ?_
            refine z_icmp_eq (tgt := 406) hx hb d_law_401 rfl ⟨by omega, by omega⟩ ⟨by omega, by omega⟩ (fun hc401 => ?_) (fun hc401 => ?_)
            · refine lv_iload hx hb d_law_406 (lv_at hl 1 rfl) ?_
              refine z_if_ne (tgt := 422) hx hb d_law_408 rfl ⟨by omega, by omega⟩ (fun hc408 => ?_) (fun hc408 => ?_)
              · refine lv_goto (tgt := 425) hx hb d_law_422 rfl ?_
                refine lv_iinc (k := 6) (v := (iz (i + 7))) hx hb d_law_425 hl rfl (by show iz _ + iz (7) = _; rw [← iz_add]; try rfl) (by decide) rfl (fun ls hl => ?_)
                have hl : lv_has ls 8 [(4, .int (iz (i + 7))), (6, .long (lz 0)), (5, .int (iz 1)), (0, .ref b), (1, .ref x), (2, .ref mo), (3, .ref ou)] := hl
                refine lv_goto (tgt := 23) hx hb d_law_428 rfl ?_
                refine l_widen (k9 := 14 + (j + 1)) (n9 := 12744 + 6 * (j + 1)) (by omega) (by omega) ?_
                exact ih23 (j + 1) (i + 7) tx g 1 _ _ _ hw hS (lv_sub hl [3, 4, 5, 6, 0] rfl) ⟨by omega, by omega⟩ (by omega)
              · exfalso
                omega
            · exfalso
              omega
        · refine lv_tableOut (tgt := 425) hx hb d_law_39 (Or.inr (by decide)) rfl ?_
          refine lv_iinc (k := 4) (v := (iz (i + 7))) hx hb d_law_425 hl rfl (by show iz _ + iz (7) = _; rw [← iz_add]; try rfl) (by decide) rfl (fun ls hl => ?_)
          have hl : lv_has ls 8 [(4, .int (iz (i + 7))), (0, .ref b), (1, .ref x), (2, .ref mo), (3, .ref ou)] := hl
          refine lv_goto (tgt := 23) hx hb d_law_428 rfl ?_
          refine l_widen (k9 := 14 + (j + 1)) (n9 := 12744 + 6 * (j + 1)) (by omega) (by omega) ?_
          exact ih23 (j + 1) (i + 7) tx g co _ _ _ hw hS (lv_sub hl [1, 2, 3, 4, 0] rfl) ⟨by omega, by omega⟩ (by omega)
  exact fun j i tx g co H locs ls hw hS hl hj => L23 _ j i tx g co H locs ls hw hS hl hj (Nat.lt_succ_self _)
