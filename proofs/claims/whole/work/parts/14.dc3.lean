theorem d_Dc_mul_0 : decode b_Dc_multiplyByPowerOfTwo 0 = .ok (.lconst 0, 1) := by decide +kernel
theorem d_Dc_mul_1 : decode b_Dc_multiplyByPowerOfTwo 1 = .ok (.lstore_n 2, 1) := by decide +kernel
theorem d_Dc_mul_2 : decode b_Dc_multiplyByPowerOfTwo 2 = .ok (.aload_n 0, 1) := by decide +kernel
theorem d_Dc_mul_3 : decode b_Dc_multiplyByPowerOfTwo 3 = .ok (.getfield 17, 3) := by decide +kernel
theorem d_Dc_mul_6 : decode b_Dc_multiplyByPowerOfTwo 6 = .ok (.istore 4, 2) := by decide +kernel
theorem d_Dc_mul_8 : decode b_Dc_multiplyByPowerOfTwo 8 = .ok (.iload 4, 2) := by decide +kernel
theorem d_Dc_mul_10 : decode b_Dc_multiplyByPowerOfTwo 10 = .ok (.aload_n 0, 1) := by decide +kernel
theorem d_Dc_mul_11 : decode b_Dc_multiplyByPowerOfTwo 11 = .ok (.getfield 13, 3) := by decide +kernel
theorem d_Dc_mul_14 : decode b_Dc_multiplyByPowerOfTwo 14 = .ok (.if_icmp .lt (46), 3) := by decide +kernel
theorem d_Dc_mul_17 : decode b_Dc_multiplyByPowerOfTwo 17 = .ok (.aload_n 0, 1) := by decide +kernel
theorem d_Dc_mul_18 : decode b_Dc_multiplyByPowerOfTwo 18 = .ok (.getfield 9, 3) := by decide +kernel
theorem d_Dc_mul_21 : decode b_Dc_multiplyByPowerOfTwo 21 = .ok (.iload 4, 2) := by decide +kernel
theorem d_Dc_mul_23 : decode b_Dc_multiplyByPowerOfTwo 23 = .ok (.iaload, 1) := by decide +kernel
theorem d_Dc_mul_24 : decode b_Dc_multiplyByPowerOfTwo 24 = .ok (.i2l, 1) := by decide +kernel
theorem d_Dc_mul_25 : decode b_Dc_multiplyByPowerOfTwo 25 = .ok (.iload_n 1, 1) := by decide +kernel
theorem d_Dc_mul_26 : decode b_Dc_multiplyByPowerOfTwo 26 = .ok (.lshl, 1) := by decide +kernel
theorem d_Dc_mul_27 : decode b_Dc_multiplyByPowerOfTwo 27 = .ok (.lload_n 2, 1) := by decide +kernel
theorem d_Dc_mul_28 : decode b_Dc_multiplyByPowerOfTwo 28 = .ok (.ladd, 1) := by decide +kernel
theorem d_Dc_mul_29 : decode b_Dc_multiplyByPowerOfTwo 29 = .ok (.lstore 5, 2) := by decide +kernel
theorem d_Dc_mul_31 : decode b_Dc_multiplyByPowerOfTwo 31 = .ok (.lload 5, 2) := by decide +kernel
theorem d_Dc_mul_33 : decode b_Dc_multiplyByPowerOfTwo 33 = .ok (.ldc2_w 46, 3) := by decide +kernel
theorem d_Dc_mul_36 : decode b_Dc_multiplyByPowerOfTwo 36 = .ok (.ldiv, 1) := by decide +kernel
theorem d_Dc_mul_37 : decode b_Dc_multiplyByPowerOfTwo 37 = .ok (.lstore_n 2, 1) := by decide +kernel
theorem d_Dc_mul_38 : decode b_Dc_multiplyByPowerOfTwo 38 = .ok (.aload_n 0, 1) := by decide +kernel
theorem d_Dc_mul_39 : decode b_Dc_multiplyByPowerOfTwo 39 = .ok (.getfield 9, 3) := by decide +kernel
theorem d_Dc_mul_42 : decode b_Dc_multiplyByPowerOfTwo 42 = .ok (.iload 4, 2) := by decide +kernel
theorem d_Dc_mul_44 : decode b_Dc_multiplyByPowerOfTwo 44 = .ok (.lload 5, 2) := by decide +kernel
theorem d_Dc_mul_46 : decode b_Dc_multiplyByPowerOfTwo 46 = .ok (.lload_n 2, 1) := by decide +kernel
theorem d_Dc_mul_47 : decode b_Dc_multiplyByPowerOfTwo 47 = .ok (.ldc2_w 46, 3) := by decide +kernel
theorem d_Dc_mul_50 : decode b_Dc_multiplyByPowerOfTwo 50 = .ok (.lmul, 1) := by decide +kernel
theorem d_Dc_mul_51 : decode b_Dc_multiplyByPowerOfTwo 51 = .ok (.lsub, 1) := by decide +kernel
theorem d_Dc_mul_52 : decode b_Dc_multiplyByPowerOfTwo 52 = .ok (.l2i, 1) := by decide +kernel
theorem d_Dc_mul_53 : decode b_Dc_multiplyByPowerOfTwo 53 = .ok (.iastore, 1) := by decide +kernel
theorem d_Dc_mul_54 : decode b_Dc_multiplyByPowerOfTwo 54 = .ok (.iinc 4 (-1), 3) := by decide +kernel
theorem d_Dc_mul_57 : decode b_Dc_multiplyByPowerOfTwo 57 = .ok (.goto (-49), 3) := by decide +kernel
theorem d_Dc_mul_60 : decode b_Dc_multiplyByPowerOfTwo 60 = .ok (.lload_n 2, 1) := by decide +kernel
theorem d_Dc_mul_61 : decode b_Dc_multiplyByPowerOfTwo 61 = .ok (.lconst 0, 1) := by decide +kernel
theorem d_Dc_mul_62 : decode b_Dc_multiplyByPowerOfTwo 62 = .ok (.lcmp, 1) := by decide +kernel
theorem d_Dc_mul_63 : decode b_Dc_multiplyByPowerOfTwo 63 = .ok (.ifCond .eq (31), 3) := by decide +kernel
theorem d_Dc_mul_66 : decode b_Dc_multiplyByPowerOfTwo 66 = .ok (.aload_n 0, 1) := by decide +kernel
theorem d_Dc_mul_67 : decode b_Dc_multiplyByPowerOfTwo 67 = .ok (.getfield 13, 3) := by decide +kernel
theorem d_Dc_mul_70 : decode b_Dc_multiplyByPowerOfTwo 70 = .ok (.ifCond .le (24), 3) := by decide +kernel
theorem d_Dc_mul_73 : decode b_Dc_multiplyByPowerOfTwo 73 = .ok (.aload_n 0, 1) := by decide +kernel
theorem d_Dc_mul_74 : decode b_Dc_multiplyByPowerOfTwo 74 = .ok (.dup, 1) := by decide +kernel
theorem d_Dc_mul_75 : decode b_Dc_multiplyByPowerOfTwo 75 = .ok (.getfield 13, 3) := by decide +kernel
theorem d_Dc_mul_78 : decode b_Dc_multiplyByPowerOfTwo 78 = .ok (.iconst 1, 1) := by decide +kernel
theorem d_Dc_mul_79 : decode b_Dc_multiplyByPowerOfTwo 79 = .ok (.isub, 1) := by decide +kernel
theorem d_Dc_mul_80 : decode b_Dc_multiplyByPowerOfTwo 80 = .ok (.putfield 13, 3) := by decide +kernel
theorem d_Dc_mul_83 : decode b_Dc_multiplyByPowerOfTwo 83 = .ok (.aload_n 0, 1) := by decide +kernel
theorem d_Dc_mul_84 : decode b_Dc_multiplyByPowerOfTwo 84 = .ok (.getfield 9, 3) := by decide +kernel
theorem d_Dc_mul_87 : decode b_Dc_multiplyByPowerOfTwo 87 = .ok (.aload_n 0, 1) := by decide +kernel
theorem d_Dc_mul_88 : decode b_Dc_multiplyByPowerOfTwo 88 = .ok (.getfield 13, 3) := by decide +kernel
theorem d_Dc_mul_91 : decode b_Dc_multiplyByPowerOfTwo 91 = .ok (.lload_n 2, 1) := by decide +kernel
theorem d_Dc_mul_92 : decode b_Dc_multiplyByPowerOfTwo 92 = .ok (.l2i, 1) := by decide +kernel
theorem d_Dc_mul_93 : decode b_Dc_multiplyByPowerOfTwo 93 = .ok (.iastore, 1) := by decide +kernel
theorem d_Dc_mul_94 : decode b_Dc_multiplyByPowerOfTwo 94 = .ok (.return_, 1) := by decide +kernel
set_option maxHeartbeats 4000000 in
set_option maxRecDepth 100000 in
theorem c_Dc_mul (l : Launch) (D : va_G) (cI cB : ClassId) (x d la t ba tt : Nat) (ad : Nat → Nat) (V : Int) (tx : List Int) (lt : Int) (bn : Nat) (P : Int) (hbn : 1 ≤ bn ∧ bn ≤ 29) (hPe : P = 2 ^ bn) (hV : P * V < 1000000000 ^ 155) : Ct l y_Dc_multiplyByPowerOfTwo (ws_Dc_multiplyByPowerOfTwo) 0 (AX x d la t ba) [.ref d, .int (iz (bn : Int))] (XL D cI cB x d la t ba tt ad V lt tx) (zR none (XL D cI cB x d la t ba tt ad (P * V) lt tx)) := by
  refine z_body zSt_XL (by decide +kernel) rfl (Nat.le_of_ble_eq_true rfl) ?_
  intro p e s m args below meth c ls hx hb hml hr hlk hts0 hown hpre0 H locs hpre hS hl
  have hts : ∀ w ∈ TBL, w.before args s = true := fun w hw => hts0 w (List.mem_cons_of_mem _ hw)
  have hl : lv_has ls 7 [(0, .ref d), (1, .int (iz (bn : Int)))] := hl
  have hw := hpre
  have hst0 := hpre0.st
  have hw9 := hw
  obtain ⟨f, fi, g, n, ⟨hK, hP, hD⟩, hdec, htx, -⟩ := hw9
  have hdr := hdec.1
  have htn := htx.1
  have htl := htx.2.1
  have hPb : 0 < P ∧ P ≤ 536870912 := by rw [hPe]; exact pow2_29 hbn.2
  have L8 : ∀ (N8 : Nat) (i : Int) (cy : Int) (h : Int → Int) (H : Heap) (locs : List Loc) (ls : Array Slot), va_P D vwCl [(x, .inr (0, [.ref d, .ref t])), (d, .inr (1, [.ref la, .int (iz fi), .int (iz lt)])), (la, .inl (cI, 155, .inl (az h))), (t, .inr (2, [.ref ba, .int (iz n)])), (ba, .inl (cB, 1612, .inl (az g)))] H → va_D (AX x d la t ba) [(x, .inr (0, [.ref d, .ref t])), (d, .inr (1, [.ref la, .int (iz fi), .int (iz lt)])), (la, .inl (cI, 155, .inl (az h))), (t, .inr (2, [.ref ba, .int (iz n)])), (ba, .inl (cB, 1612, .inl (az g)))] → va_S (AX x d la t ba) s.heap H locs → lv_has ls 7 [(0, .ref d), (1, .int (iz (bn : Int))), (2, .long (lz cy)), (4, .int (iz i))] → (MulI f h P V fi lt i cy) → (i - fi + 1).toNat < N8 → W p l e (zrm 0) s m args below meth c H locs 0 0 (MQ below (zQ (AX x d la t ba) (zR none (XL D cI cB x d la t ba tt ad (P * V) lt tx))) args s 0 0 (AX x d la t ba)) (F0 m 8 ls []) := by
    intro N8
    induction N8 with
    | zero => intro i cy h H locs ls hP hD hS hl hM hN8; exact absurd hN8 (Nat.not_lt_zero _)
    | succ N8 ih8 =>
      intro i cy h H locs ls hP hD hS hl hM hN8
      have hM1 := hM.1
      have hM2 := hM.2.1
      have hMi := hM.2.2.1 i
      have hb8 := mul_b hMi hPb
      have hc8 := mul_c hMi hPb.1 hM2
      refine lv_iload hx hb d_Dc_mul_8 (lv_at hl 3 rfl) ?_
      refine lv_aload_n hx hb d_Dc_mul_10 rfl (lv_at hl 0 rfl) ?_
      refine va_get (D := D) (ci := 1) (v := .int (iz fi)) (C := R_1) (T := T_1) (N := 3) hx hb hts in_1 hown hK hP 1 rfl rfl 1 (by decide) (hts _ tw_34) (fun _ h9 => h9) rfl d_Dc_mul_11 ?_
      refine z_icmp_lt (tgt := 60) hx hb d_Dc_mul_14 rfl ⟨by omega, by omega⟩ ⟨by omega, by omega⟩ (fun hc14 => ?_) (fun hc14 => ?_)
      · have e8 : i = fi - 1 := by omega
        rw [e8] at hM
        refine lv_lload_n hx hb d_Dc_mul_60 rfl (lv_at hl 2 rfl) ?_
        refine lv_lconst (v := lz 0) hx hb d_Dc_mul_61 (by decide) ?_
        refine z_lif_eq (tgt := 94) hx hb d_Dc_mul_62 d_Dc_mul_63 rfl ⟨by omega, by omega⟩ ⟨by omega, by omega⟩ (fun hc62 => ?_) (fun hc62 => ?_)
        · exact z_vret hx hb hr hlk hS (zR_st zSt_XL) (by
              first
                | exact ⟨rfl, _, _, _, _, ⟨hK, hP, hD⟩, (by rw [hc62] at hM; exact hM.stop0 hdec), htx, hst0.kept hS.2.1⟩
                | exact ⟨rfl, _, _, _, _, ⟨hK, hP, hD⟩, (hM.stop1 hdec (by omega) (by omega)), htx, hst0.kept hS.2.1⟩) d_Dc_mul_94
        · refine lv_aload_n hx hb d_Dc_mul_66 rfl (lv_at hl 0 rfl) ?_
          refine va_get (D := D) (ci := 1) (v := .int (iz fi)) (C := R_1) (T := T_1) (N := 3) hx hb hts in_1 hown hK hP 1 rfl rfl 1 (by decide) (hts _ tw_34) (fun _ h9 => h9) rfl d_Dc_mul_67 ?_
          refine z_if_le (tgt := 94) hx hb d_Dc_mul_70 rfl ⟨by omega, by omega⟩ (fun hc70 => ?_) (fun hc70 => ?_)
          · exfalso
            have e7 : fi = 0 := by omega
            rw [e7] at hM
            exact hc62 (hM.top hV)
          · refine lv_aload_n hx hb d_Dc_mul_73 rfl (lv_at hl 0 rfl) ?_
            refine lv_dup hx hb d_Dc_mul_74 rfl ?_
            refine va_get (D := D) (ci := 1) (v := .int (iz fi)) (C := R_1) (T := T_1) (N := 3) hx hb hts in_1 hown hK hP 1 rfl rfl 1 (by decide) (hts _ tw_34) (fun _ h9 => h9) rfl d_Dc_mul_75 ?_
            refine lv_iconst (v := iz 1) hx hb d_Dc_mul_78 rfl ?_
            refine z_isub hx hb d_Dc_mul_79 ?_
            refine va_put (D := D) (ci := 1) (v := .int (iz (fi - 1))) (ty := .int) (C := R_1) (T := T_1) (N := 3) hx hb hts in_1 ty_1 tyok_1 nm_1 hown hK hP hD hS 1 rfl rfl 1 (by decide) (hts _ tw_34) (fun _ h9 => h9) rfl (by decide +kernel) rfl rfl (Nat.le_of_ble_eq_true rfl) d_Dc_mul_80 (fun H locs hP hD hS => ?_)
            have hP : va_P D vwCl [(x, .inr (0, [.ref d, .ref t])), (d, .inr (1, [.ref la, .int (iz (fi - 1)), .int (iz lt)])), (la, .inl (cI, 155, .inl (az h))), (t, .inr (2, [.ref ba, .int (iz n)])), (ba, .inl (cB, 1612, .inl (az g)))] H := hP
            have hD : va_D (AX x d la t ba) [(x, .inr (0, [.ref d, .ref t])), (d, .inr (1, [.ref la, .int (iz (fi - 1)), .int (iz lt)])), (la, .inl (cI, 155, .inl (az h))), (t, .inr (2, [.ref ba, .int (iz n)])), (ba, .inl (cB, 1612, .inl (az g)))] := hD
            refine lv_aload_n hx hb d_Dc_mul_83 rfl (lv_at hl 0 rfl) ?_
            refine va_get (D := D) (ci := 1) (v := .ref la) (C := R_1) (T := T_1) (N := 3) hx hb hts in_1 hown hK hP 1 rfl rfl 0 (by decide) (hts _ tw_33) (fun _ h9 => h9) rfl d_Dc_mul_84 ?_
            refine lv_aload_n hx hb d_Dc_mul_87 rfl (lv_at hl 0 rfl) ?_
            refine va_get (D := D) (ci := 1) (v := .int (iz (fi - 1))) (C := R_1) (T := T_1) (N := 3) hx hb hts in_1 hown hK hP 1 rfl rfl 1 (by decide) (hts _ tw_34) (fun _ h9 => h9) rfl d_Dc_mul_88 ?_
            refine lv_lload_n hx hb d_Dc_mul_91 rfl (lv_at hl 2 rfl) ?_
            refine z_l2i hx hb d_Dc_mul_92 ?_
            refine z_iast hx hb hK hP hD hS 2 0 rfl rfl (by omega) (by omega) (by decide) d_Dc_mul_93 (fun H locs hP hD hS => ?_)
            have hP : va_P D vwCl [(x, .inr (0, [.ref d, .ref t])), (d, .inr (1, [.ref la, .int (iz (fi - 1)), .int (iz lt)])), (la, .inl (cI, 155, .inl (az (up h (fi - 1) cy)))), (t, .inr (2, [.ref ba, .int (iz n)])), (ba, .inl (cB, 1612, .inl (az g)))] H := hP
            have hD : va_D (AX x d la t ba) [(x, .inr (0, [.ref d, .ref t])), (d, .inr (1, [.ref la, .int (iz (fi - 1)), .int (iz lt)])), (la, .inl (cI, 155, .inl (az (up h (fi - 1) cy)))), (t, .inr (2, [.ref ba, .int (iz n)])), (ba, .inl (cB, 1612, .inl (az g)))] := hD
            exact z_vret hx hb hr hlk hS (zR_st zSt_XL) (by
                first
                  | exact ⟨rfl, _, _, _, _, ⟨hK, hP, hD⟩, (by rw [hc62] at hM; exact hM.stop0 hdec), htx, hst0.kept hS.2.1⟩
                  | exact ⟨rfl, _, _, _, _, ⟨hK, hP, hD⟩, (hM.stop1 hdec (by omega) (by omega)), htx, hst0.kept hS.2.1⟩) d_Dc_mul_94
      · refine lv_aload_n hx hb d_Dc_mul_17 rfl (lv_at hl 0 rfl) ?_
        refine va_get (D := D) (ci := 1) (v := .ref la) (C := R_1) (T := T_1) (N := 3) hx hb hts in_1 hown hK hP 1 rfl rfl 0 (by decide) (hts _ tw_33) (fun _ h9 => h9) rfl d_Dc_mul_18 ?_
        refine lv_iload hx hb d_Dc_mul_21 (lv_at hl 3 rfl) ?_
        refine z_iald hx hb hK hP 2 0 rfl rfl (by omega) (by omega) (by decide) d_Dc_mul_23 ?_
        refine z_i2l hx hb d_Dc_mul_24 ⟨by omega, by omega⟩ ?_
        refine lv_iload_n hx hb d_Dc_mul_25 rfl (lv_at hl 1 rfl) ?_
        refine z_lshl hx hb bn d_Dc_mul_26 rfl (by omega) ⟨by omega, by omega⟩ (by rw [← hPe]; exact ⟨by omega, by omega⟩) ?_
        refine z_rl (b := h i * P) (by rw [hPe]) ?_
        refine lv_lload_n hx hb d_Dc_mul_27 rfl (lv_at hl 2 rfl) ?_
        refine z_ladd hx hb d_Dc_mul_28 ?_
        refine lv_lstore hx hb d_Dc_mul_29 hl (by decide) rfl (fun ls hl => ?_)
        have hl : lv_has ls 7 [(5, .long (lz ((h i * P) + cy))), (0, .ref d), (1, .int (iz (bn : Int))), (2, .long (lz cy)), (4, .int (iz i))] := hl
        refine lv_lload hx hb d_Dc_mul_31 (lv_at hl 0 rfl) ?_
        refine lv_ldc2 (v := (1000000000 : Int64)) hx hb hown (hts _ tw_255) d_Dc_mul_33 ?_
        refine z_topl (y := lz (1000000000)) (by decide) ?_
        refine z_ldiv hx hb d_Dc_mul_36 ⟨by omega, by omega⟩ ⟨by omega, by omega⟩ ?_
        refine lv_lstore_n hx hb d_Dc_mul_37 rfl hl (by decide) rfl (fun ls hl => ?_)
        have hl : lv_has ls 7 [(2, .long (lz (((h i * P) + cy) / 1000000000))), (5, .long (lz ((h i * P) + cy))), (0, .ref d), (1, .int (iz (bn : Int))), (4, .int (iz i))] := hl
        refine lv_aload_n hx hb d_Dc_mul_38 rfl (lv_at hl 2 rfl) ?_
        refine va_get (D := D) (ci := 1) (v := .ref la) (C := R_1) (T := T_1) (N := 3) hx hb hts in_1 hown hK hP 1 rfl rfl 0 (by decide) (hts _ tw_33) (fun _ h9 => h9) rfl d_Dc_mul_39 ?_
        refine lv_iload hx hb d_Dc_mul_42 (lv_at hl 4 rfl) ?_
        refine lv_lload hx hb d_Dc_mul_44 (lv_at hl 1 rfl) ?_
        refine lv_lload_n hx hb d_Dc_mul_46 rfl (lv_at hl 0 rfl) ?_
        refine lv_ldc2 (v := (1000000000 : Int64)) hx hb hown (hts _ tw_255) d_Dc_mul_47 ?_
        refine z_topl (y := lz (1000000000)) (by decide) ?_
        refine z_lmul hx hb d_Dc_mul_50 ?_
        refine z_lsub hx hb d_Dc_mul_51 ?_
        refine z_l2i hx hb d_Dc_mul_52 ?_
        refine z_iast hx hb hK hP hD hS 2 0 rfl rfl (by omega) (by omega) (by decide) d_Dc_mul_53 (fun H locs hP hD hS => ?_)
        have hP : va_P D vwCl [(x, .inr (0, [.ref d, .ref t])), (d, .inr (1, [.ref la, .int (iz fi), .int (iz lt)])), (la, .inl (cI, 155, .inl (az (up h i (((h i * P) + cy) - ((((h i * P) + cy) / 1000000000) * 1000000000)))))), (t, .inr (2, [.ref ba, .int (iz n)])), (ba, .inl (cB, 1612, .inl (az g)))] H := hP
        have hD : va_D (AX x d la t ba) [(x, .inr (0, [.ref d, .ref t])), (d, .inr (1, [.ref la, .int (iz fi), .int (iz lt)])), (la, .inl (cI, 155, .inl (az (up h i (((h i * P) + cy) - ((((h i * P) + cy) / 1000000000) * 1000000000)))))), (t, .inr (2, [.ref ba, .int (iz n)])), (ba, .inl (cB, 1612, .inl (az g)))] := hD
        refine lv_iinc (k := 4) (v := (iz (i - 1))) hx hb d_Dc_mul_54 hl rfl (by show iz _ + iz (-1) = _; rw [← iz_add]; try rfl) (by decide) rfl (fun ls hl => ?_)
        have hl : lv_has ls 7 [(4, .int (iz (i - 1))), (2, .long (lz (((h i * P) + cy) / 1000000000))), (5, .long (lz ((h i * P) + cy))), (0, .ref d), (1, .int (iz (bn : Int)))] := hl
        refine lv_goto (tgt := 8) hx hb d_Dc_mul_57 rfl ?_
        exact ih8 (i - 1) ((h i * P + cy) / 1000000000) (up h i (h i * P + cy - (h i * P + cy) / 1000000000 * 1000000000)) _ _ _ hP hD hS (lv_sub hl [3, 4, 1, 0] rfl) (hM.step (by omega) (by omega) (by omega) (by omega)) (by omega)
  refine lv_lconst (v := lz 0) hx hb d_Dc_mul_0 (by decide) ?_
  refine lv_lstore_n hx hb d_Dc_mul_1 rfl hl (by decide) rfl (fun ls hl => ?_)
  have hl : lv_has ls 7 [(2, .long (lz 0)), (0, .ref d), (1, .int (iz (bn : Int)))] := hl
  refine lv_aload_n hx hb d_Dc_mul_2 rfl (lv_at hl 1 rfl) ?_
  refine va_get (D := D) (ci := 1) (v := .int (iz lt)) (C := R_1) (T := T_1) (N := 3) hx hb hts in_1 hown hK hP 1 rfl rfl 2 (by decide) (hts _ tw_35) (fun _ h9 => h9) rfl d_Dc_mul_3 ?_
  refine lv_istore hx hb d_Dc_mul_6 hl (by decide) rfl (fun ls hl => ?_)
  have hl : lv_has ls 7 [(4, .int (iz lt)), (2, .long (lz 0)), (0, .ref d), (1, .int (iz (bn : Int)))] := hl
  exact L8 _ lt 0 f _ _ _ hP hD hS (lv_sub hl [2, 3, 1, 0] rfl) (MulI.start hdec (by omega)) (Nat.lt_succ_self _)
theorem d_Dc_div_0 : decode b_Dc_divideByPowerOfTwo 0 = .ok (.iload_n 1, 1) := by decide +kernel
theorem d_Dc_div_1 : decode b_Dc_divideByPowerOfTwo 1 = .ok (.bipush (9), 2) := by decide +kernel
theorem d_Dc_div_3 : decode b_Dc_divideByPowerOfTwo 3 = .ok (.iadd, 1) := by decide +kernel
theorem d_Dc_div_4 : decode b_Dc_divideByPowerOfTwo 4 = .ok (.iconst 1, 1) := by decide +kernel
theorem d_Dc_div_5 : decode b_Dc_divideByPowerOfTwo 5 = .ok (.isub, 1) := by decide +kernel
theorem d_Dc_div_6 : decode b_Dc_divideByPowerOfTwo 6 = .ok (.bipush (9), 2) := by decide +kernel
theorem d_Dc_div_8 : decode b_Dc_divideByPowerOfTwo 8 = .ok (.idiv, 1) := by decide +kernel
theorem d_Dc_div_9 : decode b_Dc_divideByPowerOfTwo 9 = .ok (.istore_n 2, 1) := by decide +kernel
theorem d_Dc_div_10 : decode b_Dc_divideByPowerOfTwo 10 = .ok (.aload_n 0, 1) := by decide +kernel
theorem d_Dc_div_11 : decode b_Dc_divideByPowerOfTwo 11 = .ok (.aload_n 0, 1) := by decide +kernel
theorem d_Dc_div_12 : decode b_Dc_divideByPowerOfTwo 12 = .ok (.getfield 17, 3) := by decide +kernel
theorem d_Dc_div_15 : decode b_Dc_divideByPowerOfTwo 15 = .ok (.iload_n 2, 1) := by decide +kernel
theorem d_Dc_div_16 : decode b_Dc_divideByPowerOfTwo 16 = .ok (.iadd, 1) := by decide +kernel
theorem d_Dc_div_17 : decode b_Dc_divideByPowerOfTwo 17 = .ok (.aload_n 0, 1) := by decide +kernel
theorem d_Dc_div_18 : decode b_Dc_divideByPowerOfTwo 18 = .ok (.getfield 9, 3) := by decide +kernel
theorem d_Dc_div_21 : decode b_Dc_divideByPowerOfTwo 21 = .ok (.arraylength, 1) := by decide +kernel
theorem d_Dc_div_22 : decode b_Dc_divideByPowerOfTwo 22 = .ok (.iconst 1, 1) := by decide +kernel
theorem d_Dc_div_23 : decode b_Dc_divideByPowerOfTwo 23 = .ok (.isub, 1) := by decide +kernel
theorem d_Dc_div_24 : decode b_Dc_divideByPowerOfTwo 24 = .ok (.invokestatic 28, 3) := by decide +kernel
theorem d_Dc_div_27 : decode b_Dc_divideByPowerOfTwo 27 = .ok (.putfield 17, 3) := by decide +kernel
theorem d_Dc_div_30 : decode b_Dc_divideByPowerOfTwo 30 = .ok (.lconst 1, 1) := by decide +kernel
theorem d_Dc_div_31 : decode b_Dc_divideByPowerOfTwo 31 = .ok (.iload_n 1, 1) := by decide +kernel
theorem d_Dc_div_32 : decode b_Dc_divideByPowerOfTwo 32 = .ok (.lshl, 1) := by decide +kernel
theorem d_Dc_div_33 : decode b_Dc_divideByPowerOfTwo 33 = .ok (.lconst 1, 1) := by decide +kernel
theorem d_Dc_div_34 : decode b_Dc_divideByPowerOfTwo 34 = .ok (.lsub, 1) := by decide +kernel
theorem d_Dc_div_35 : decode b_Dc_divideByPowerOfTwo 35 = .ok (.lstore_n 3, 1) := by decide +kernel
theorem d_Dc_div_36 : decode b_Dc_divideByPowerOfTwo 36 = .ok (.lconst 0, 1) := by decide +kernel
theorem d_Dc_div_37 : decode b_Dc_divideByPowerOfTwo 37 = .ok (.lstore 5, 2) := by decide +kernel
theorem d_Dc_div_39 : decode b_Dc_divideByPowerOfTwo 39 = .ok (.aload_n 0, 1) := by decide +kernel
theorem d_Dc_div_40 : decode b_Dc_divideByPowerOfTwo 40 = .ok (.getfield 13, 3) := by decide +kernel
theorem d_Dc_div_43 : decode b_Dc_divideByPowerOfTwo 43 = .ok (.istore 7, 2) := by decide +kernel
theorem d_Dc_div_45 : decode b_Dc_divideByPowerOfTwo 45 = .ok (.iload 7, 2) := by decide +kernel
theorem d_Dc_div_47 : decode b_Dc_divideByPowerOfTwo 47 = .ok (.aload_n 0, 1) := by decide +kernel
theorem d_Dc_div_48 : decode b_Dc_divideByPowerOfTwo 48 = .ok (.getfield 17, 3) := by decide +kernel
theorem d_Dc_div_51 : decode b_Dc_divideByPowerOfTwo 51 = .ok (.if_icmp .gt (44), 3) := by decide +kernel
theorem d_Dc_div_54 : decode b_Dc_divideByPowerOfTwo 54 = .ok (.lload 5, 2) := by decide +kernel
theorem d_Dc_div_56 : decode b_Dc_divideByPowerOfTwo 56 = .ok (.ldc2_w 46, 3) := by decide +kernel
theorem d_Dc_div_59 : decode b_Dc_divideByPowerOfTwo 59 = .ok (.lmul, 1) := by decide +kernel
theorem d_Dc_div_60 : decode b_Dc_divideByPowerOfTwo 60 = .ok (.aload_n 0, 1) := by decide +kernel
theorem d_Dc_div_61 : decode b_Dc_divideByPowerOfTwo 61 = .ok (.getfield 9, 3) := by decide +kernel
theorem d_Dc_div_64 : decode b_Dc_divideByPowerOfTwo 64 = .ok (.iload 7, 2) := by decide +kernel
theorem d_Dc_div_66 : decode b_Dc_divideByPowerOfTwo 66 = .ok (.iaload, 1) := by decide +kernel
theorem d_Dc_div_67 : decode b_Dc_divideByPowerOfTwo 67 = .ok (.i2l, 1) := by decide +kernel
theorem d_Dc_div_68 : decode b_Dc_divideByPowerOfTwo 68 = .ok (.ladd, 1) := by decide +kernel
theorem d_Dc_div_69 : decode b_Dc_divideByPowerOfTwo 69 = .ok (.lstore 8, 2) := by decide +kernel
theorem d_Dc_div_71 : decode b_Dc_divideByPowerOfTwo 71 = .ok (.aload_n 0, 1) := by decide +kernel
theorem d_Dc_div_72 : decode b_Dc_divideByPowerOfTwo 72 = .ok (.getfield 9, 3) := by decide +kernel
theorem d_Dc_div_75 : decode b_Dc_divideByPowerOfTwo 75 = .ok (.iload 7, 2) := by decide +kernel
theorem d_Dc_div_77 : decode b_Dc_divideByPowerOfTwo 77 = .ok (.lload 8, 2) := by decide +kernel
theorem d_Dc_div_79 : decode b_Dc_divideByPowerOfTwo 79 = .ok (.iload_n 1, 1) := by decide +kernel
theorem d_Dc_div_80 : decode b_Dc_divideByPowerOfTwo 80 = .ok (.lushr, 1) := by decide +kernel
theorem d_Dc_div_81 : decode b_Dc_divideByPowerOfTwo 81 = .ok (.l2i, 1) := by decide +kernel
theorem d_Dc_div_82 : decode b_Dc_divideByPowerOfTwo 82 = .ok (.iastore, 1) := by decide +kernel
theorem d_Dc_div_83 : decode b_Dc_divideByPowerOfTwo 83 = .ok (.lload 8, 2) := by decide +kernel
theorem d_Dc_div_85 : decode b_Dc_divideByPowerOfTwo 85 = .ok (.lload_n 3, 1) := by decide +kernel
theorem d_Dc_div_86 : decode b_Dc_divideByPowerOfTwo 86 = .ok (.land, 1) := by decide +kernel
theorem d_Dc_div_87 : decode b_Dc_divideByPowerOfTwo 87 = .ok (.lstore 5, 2) := by decide +kernel
theorem d_Dc_div_89 : decode b_Dc_divideByPowerOfTwo 89 = .ok (.iinc 7 (1), 3) := by decide +kernel
theorem d_Dc_div_92 : decode b_Dc_divideByPowerOfTwo 92 = .ok (.goto (-47), 3) := by decide +kernel
theorem d_Dc_div_95 : decode b_Dc_divideByPowerOfTwo 95 = .ok (.aload_n 0, 1) := by decide +kernel
theorem d_Dc_div_96 : decode b_Dc_divideByPowerOfTwo 96 = .ok (.getfield 9, 3) := by decide +kernel
theorem d_Dc_div_99 : decode b_Dc_divideByPowerOfTwo 99 = .ok (.aload_n 0, 1) := by decide +kernel
theorem d_Dc_div_100 : decode b_Dc_divideByPowerOfTwo 100 = .ok (.getfield 13, 3) := by decide +kernel
theorem d_Dc_div_103 : decode b_Dc_divideByPowerOfTwo 103 = .ok (.iaload, 1) := by decide +kernel
theorem d_Dc_div_104 : decode b_Dc_divideByPowerOfTwo 104 = .ok (.ifCond .ne (24), 3) := by decide +kernel
theorem d_Dc_div_107 : decode b_Dc_divideByPowerOfTwo 107 = .ok (.aload_n 0, 1) := by decide +kernel
theorem d_Dc_div_108 : decode b_Dc_divideByPowerOfTwo 108 = .ok (.getfield 13, 3) := by decide +kernel
theorem d_Dc_div_111 : decode b_Dc_divideByPowerOfTwo 111 = .ok (.aload_n 0, 1) := by decide +kernel
theorem d_Dc_div_112 : decode b_Dc_divideByPowerOfTwo 112 = .ok (.getfield 17, 3) := by decide +kernel
theorem d_Dc_div_115 : decode b_Dc_divideByPowerOfTwo 115 = .ok (.if_icmp .ge (13), 3) := by decide +kernel
theorem d_Dc_div_118 : decode b_Dc_divideByPowerOfTwo 118 = .ok (.aload_n 0, 1) := by decide +kernel
theorem d_Dc_div_119 : decode b_Dc_divideByPowerOfTwo 119 = .ok (.dup, 1) := by decide +kernel
theorem d_Dc_div_120 : decode b_Dc_divideByPowerOfTwo 120 = .ok (.getfield 13, 3) := by decide +kernel
theorem d_Dc_div_123 : decode b_Dc_divideByPowerOfTwo 123 = .ok (.iconst 1, 1) := by decide +kernel
theorem d_Dc_div_124 : decode b_Dc_divideByPowerOfTwo 124 = .ok (.iadd, 1) := by decide +kernel
theorem d_Dc_div_125 : decode b_Dc_divideByPowerOfTwo 125 = .ok (.putfield 13, 3) := by decide +kernel
theorem d_Dc_div_128 : decode b_Dc_divideByPowerOfTwo 128 = .ok (.return_, 1) := by decide +kernel
set_option maxHeartbeats 4000000 in
set_option maxRecDepth 100000 in
theorem c_Dc_div (l : Launch) (D : va_G) (cI cB : ClassId) (x d la t ba tt : Nat) (ad : Nat → Nat) (V : Int) (tx : List Int) (lt : Int) (bn : Nat) (P V2 : Int) (hbn : 1 ≤ bn ∧ bn ≤ 27) (hPe : P = 2 ^ bn) (hV : P * V2 = V) (hlt : lt + ((bn + 8) / 9 : Nat) ≤ 154) : Ct l y_Dc_divideByPowerOfTwo (ws_Dc_divideByPowerOfTwo) 1 (AX x d la t ba) [.ref d, .int (iz (bn : Int))] (XL D cI cB x d la t ba tt ad V lt tx) (zR none (XL D cI cB x d la t ba tt ad V2 (lt + ((bn + 8) / 9 : Nat)) tx)) := by
  refine z_body zSt_XL (by decide +kernel) rfl (Nat.le_of_ble_eq_true rfl) ?_
  intro p e s m args below meth c ls hx hb hml hr hlk hts0 hown hpre0 H locs hpre hS hl
  have hts : ∀ w ∈ TBL, w.before args s = true := fun w hw => hts0 w (List.mem_cons_of_mem _ hw)
  have hl : lv_has ls 10 [(0, .ref d), (1, .int (iz (bn : Int)))] := hl
  have hw := hpre
  have hst0 := hpre0.st
  have hw9 := hw
  obtain ⟨f, fi, g, n, ⟨hK, hP, hD⟩, hdec, htx, -⟩ := hw9
  have hdr := hdec.1
  have htn := htx.1
  have htl := htx.2.1
  have hPb : 0 < P ∧ P ≤ 134217728 := by rw [hPe]; exact pow2_27 hbn.2
  have L45 : ∀ (N45 : Nat) (i : Int) (r : Int) (h : Int → Int) (H : Heap) (locs : List Loc) (ls : Array Slot), va_P D vwCl [(x, .inr (0, [.ref d, .ref t])), (d, .inr (1, [.ref la, .int (iz fi), .int (iz (lt + ((bn + 8) / 9 : Nat)))])), (la, .inl (cI, 155, .inl (az h))), (t, .inr (2, [.ref ba, .int (iz n)])), (ba, .inl (cB, 1612, .inl (az g)))] H → va_D (AX x d la t ba) [(x, .inr (0, [.ref d, .ref t])), (d, .inr (1, [.ref la, .int (iz fi), .int (iz (lt + ((bn + 8) / 9 : Nat)))])), (la, .inl (cI, 155, .inl (az h))), (t, .inr (2, [.ref ba, .int (iz n)])), (ba, .inl (cB, 1612, .inl (az g)))] → va_S (AX x d la t ba) s.heap H locs → lv_has ls 10 [(0, .ref d), (1, .int (iz (bn : Int))), (3, .long (lz (P - 1))), (5, .long (lz r)), (7, .int (iz i))] → (DivI f h P fi i r) → (i ≤ lt + ((bn + 8) / 9 : Nat) + 1) → (lt + ((bn + 8) / 9 : Nat) + 1 - i).toNat < N45 → W p l e (zrm 1) s m args below meth c H locs 0 0 (MQ below (zQ (AX x d la t ba) (zR none (XL D cI cB x d la t ba tt ad V2 (lt + ((bn + 8) / 9 : Nat)) tx))) args s 0 0 (AX x d la t ba)) (F0 m 45 ls []) := by
    intro N45
    induction N45 with
    | zero => intro i r h H locs ls hP hD hS hl hM hil hN45; exact absurd hN45 (Nat.not_lt_zero _)
    | succ N45 ih45 =>
      intro i r h H locs ls hP hD hS hl hM hil hN45
      have hM1 := hM.1
      have hM2 := hM.2.1
      have hMi := hM.2.2.1 i
      have hb8 := div_b hM2 hPb.2 hMi
      refine lv_iload hx hb d_Dc_div_45 (lv_at hl 4 rfl) ?_
      refine lv_aload_n hx hb d_Dc_div_47 rfl (lv_at hl 0 rfl) ?_
      refine va_get (D := D) (ci := 1) (v := .int (iz (lt + ((bn + 8) / 9 : Nat)))) (C := R_1) (T := T_1) (N := 3) hx hb hts in_1 hown hK hP 1 rfl rfl 2 (by decide) (hts _ tw_35) (fun _ h9 => h9) rfl d_Dc_div_48 ?_
      refine z_icmp_gt (tgt := 95) hx hb d_Dc_div_51 rfl ⟨by omega, by omega⟩ ⟨by omega, by omega⟩ (fun hc51 => ?_) (fun hc51 => ?_)
      · have e8 : i = lt + ((bn + 8) / 9 : Nat) + 1 := by omega
        rw [e8] at hM
        obtain ⟨V3, e9, hd9⟩ := DivI.stop hdec (by omega) hPe hlt hM
        have e10 : V3 = V2 := Int.eq_of_mul_eq_mul_left (by omega) (e9.trans hV.symm)
        subst e10
        have hfi := hd9.2.1 fi
        refine lv_aload_n hx hb d_Dc_div_95 rfl (lv_at hl 0 rfl) ?_
        refine va_get (D := D) (ci := 1) (v := .ref la) (C := R_1) (T := T_1) (N := 3) hx hb hts in_1 hown hK hP 1 rfl rfl 0 (by decide) (hts _ tw_33) (fun _ h9 => h9) rfl d_Dc_div_96 ?_
        refine lv_aload_n hx hb d_Dc_div_99 rfl (lv_at hl 0 rfl) ?_
        refine va_get (D := D) (ci := 1) (v := .int (iz fi)) (C := R_1) (T := T_1) (N := 3) hx hb hts in_1 hown hK hP 1 rfl rfl 1 (by decide) (hts _ tw_34) (fun _ h9 => h9) rfl d_Dc_div_100 ?_
        refine z_iald hx hb hK hP 2 0 rfl rfl (by omega) (by omega) (by decide) d_Dc_div_103 ?_
        refine z_if_ne (tgt := 128) hx hb d_Dc_div_104 rfl ⟨by omega, by omega⟩ (fun hc104 => ?_) (fun hc104 => ?_)
        · exact z_vret hx hb hr hlk hS (zR_st zSt_XL) (by
              first
                | exact ⟨rfl, _, _, _, _, ⟨hK, hP, hD⟩, hd9, htx, hst0.kept hS.2.1⟩
                | exact ⟨rfl, _, _, _, _, ⟨hK, hP, hD⟩, (hd9.next (by omega) (by omega)), htx, hst0.kept hS.2.1⟩) d_Dc_div_128
        · refine lv_aload_n hx hb d_Dc_div_107 rfl (lv_at hl 0 rfl) ?_
          refine va_get (D := D) (ci := 1) (v := .int (iz fi)) (C := R_1) (T := T_1) (N := 3) hx hb hts in_1 hown hK hP 1 rfl rfl 1 (by decide) (hts _ tw_34) (fun _ h9 => h9) rfl d_Dc_div_108 ?_
          refine lv_aload_n hx hb d_Dc_div_111 rfl (lv_at hl 0 rfl) ?_
          refine va_get (D := D) (ci := 1) (v := .int (iz (lt + ((bn + 8) / 9 : Nat)))) (C := R_1) (T := T_1) (N := 3) hx hb hts in_1 hown hK hP 1 rfl rfl 2 (by decide) (hts _ tw_35) (fun _ h9 => h9) rfl d_Dc_div_112 ?_
          refine z_icmp_ge (tgt := 128) hx hb d_Dc_div_115 rfl ⟨by omega, by omega⟩ ⟨by omega, by omega⟩ (fun hc115 => ?_) (fun hc115 => ?_)
          · exact z_vret hx hb hr hlk hS (zR_st zSt_XL) (by
                first
                  | exact ⟨rfl, _, _, _, _, ⟨hK, hP, hD⟩, hd9, htx, hst0.kept hS.2.1⟩
                  | exact ⟨rfl, _, _, _, _, ⟨hK, hP, hD⟩, (hd9.next (by omega) (by omega)), htx, hst0.kept hS.2.1⟩) d_Dc_div_128
          · refine lv_aload_n hx hb d_Dc_div_118 rfl (lv_at hl 0 rfl) ?_
            refine lv_dup hx hb d_Dc_div_119 rfl ?_
            refine va_get (D := D) (ci := 1) (v := .int (iz fi)) (C := R_1) (T := T_1) (N := 3) hx hb hts in_1 hown hK hP 1 rfl rfl 1 (by decide) (hts _ tw_34) (fun _ h9 => h9) rfl d_Dc_div_120 ?_
            refine lv_iconst (v := iz 1) hx hb d_Dc_div_123 rfl ?_
            refine z_iadd hx hb d_Dc_div_124 ?_
            refine va_put (D := D) (ci := 1) (v := .int (iz (fi + 1))) (ty := .int) (C := R_1) (T := T_1) (N := 3) hx hb hts in_1 ty_1 tyok_1 nm_1 hown hK hP hD hS 1 rfl rfl 1 (by decide) (hts _ tw_34) (fun _ h9 => h9) rfl (by decide +kernel) rfl rfl (Nat.le_of_ble_eq_true rfl) d_Dc_div_125 (fun H locs hP hD hS => ?_)
            have hP : va_P D vwCl [(x, .inr (0, [.ref d, .ref t])), (d, .inr (1, [.ref la, .int (iz (fi + 1)), .int (iz (lt + ((bn + 8) / 9 : Nat)))])), (la, .inl (cI, 155, .inl (az h))), (t, .inr (2, [.ref ba, .int (iz n)])), (ba, .inl (cB, 1612, .inl (az g)))] H := hP
            have hD : va_D (AX x d la t ba) [(x, .inr (0, [.ref d, .ref t])), (d, .inr (1, [.ref la, .int (iz (fi + 1)), .int (iz (lt + ((bn + 8) / 9 : Nat)))])), (la, .inl (cI, 155, .inl (az h))), (t, .inr (2, [.ref ba, .int (iz n)])), (ba, .inl (cB, 1612, .inl (az g)))] := hD
            exact z_vret hx hb hr hlk hS (zR_st zSt_XL) (by
                first
                  | exact ⟨rfl, _, _, _, _, ⟨hK, hP, hD⟩, hd9, htx, hst0.kept hS.2.1⟩
                  | exact ⟨rfl, _, _, _, _, ⟨hK, hP, hD⟩, (hd9.next (by omega) (by omega)), htx, hst0.kept hS.2.1⟩) d_Dc_div_128
      · refine lv_lload hx hb d_Dc_div_54 (lv_at hl 3 rfl) ?_
        refine lv_ldc2 (v := (1000000000 : Int64)) hx hb hown (hts _ tw_255) d_Dc_div_56 ?_
        refine z_topl (y := lz (1000000000)) (by decide) ?_
        refine z_lmul hx hb d_Dc_div_59 ?_
        refine lv_aload_n hx hb d_Dc_div_60 rfl (lv_at hl 0 rfl) ?_
        refine va_get (D := D) (ci := 1) (v := .ref la) (C := R_1) (T := T_1) (N := 3) hx hb hts in_1 hown hK hP 1 rfl rfl 0 (by decide) (hts _ tw_33) (fun _ h9 => h9) rfl d_Dc_div_61 ?_
        refine lv_iload hx hb d_Dc_div_64 (lv_at hl 4 rfl) ?_
        refine z_iald hx hb hK hP 2 0 rfl rfl (by omega) (by omega) (by decide) d_Dc_div_66 ?_
        refine z_i2l hx hb d_Dc_div_67 ⟨by omega, by omega⟩ ?_
        refine z_ladd hx hb d_Dc_div_68 ?_
        refine lv_lstore hx hb d_Dc_div_69 hl (by decide) rfl (fun ls hl => ?_)
        have hl : lv_has ls 10 [(8, .long (lz ((r * 1000000000) + (h i)))), (0, .ref d), (1, .int (iz (bn : Int))), (3, .long (lz (P - 1))), (5, .long (lz r)), (7, .int (iz i))] := hl
        refine lv_aload_n hx hb d_Dc_div_71 rfl (lv_at hl 1 rfl) ?_
        refine va_get (D := D) (ci := 1) (v := .ref la) (C := R_1) (T := T_1) (N := 3) hx hb hts in_1 hown hK hP 1 rfl rfl 0 (by decide) (hts _ tw_33) (fun _ h9 => h9) rfl d_Dc_div_72 ?_
        refine lv_iload hx hb d_Dc_div_75 (lv_at hl 5 rfl) ?_
        refine lv_lload hx hb d_Dc_div_77 (lv_at hl 0 rfl) ?_
        refine lv_iload_n hx hb d_Dc_div_79 rfl (lv_at hl 2 rfl) ?_
        refine z_lushr hx hb bn d_Dc_div_80 rfl (by omega) ⟨by omega, by omega⟩ ?_
        refine z_rl (b := (r * 1000000000 + h i) / P) (by rw [hPe]) ?_
        refine z_l2i hx hb d_Dc_div_81 ?_
        refine z_iast hx hb hK hP hD hS 2 0 rfl rfl (by omega) (by omega) (by decide) d_Dc_div_82 (fun H locs hP hD hS => ?_)
        have hP : va_P D vwCl [(x, .inr (0, [.ref d, .ref t])), (d, .inr (1, [.ref la, .int (iz fi), .int (iz (lt + ((bn + 8) / 9 : Nat)))])), (la, .inl (cI, 155, .inl (az (up h i ((r * 1000000000 + h i) / P))))), (t, .inr (2, [.ref ba, .int (iz n)])), (ba, .inl (cB, 1612, .inl (az g)))] H := hP
        have hD : va_D (AX x d la t ba) [(x, .inr (0, [.ref d, .ref t])), (d, .inr (1, [.ref la, .int (iz fi), .int (iz (lt + ((bn + 8) / 9 : Nat)))])), (la, .inl (cI, 155, .inl (az (up h i ((r * 1000000000 + h i) / P))))), (t, .inr (2, [.ref ba, .int (iz n)])), (ba, .inl (cB, 1612, .inl (az g)))] := hD
        refine lv_lload hx hb d_Dc_div_83 (lv_at hl 0 rfl) ?_
        refine lv_lload_n hx hb d_Dc_div_85 rfl (lv_at hl 3 rfl) ?_
        refine z_landm hx hb bn d_Dc_div_86 (by omega) (by rw [hPe]) ⟨by omega, by omega⟩ ?_
        refine z_rl (b := (r * 1000000000 + h i) % P) (by rw [hPe]) ?_
        refine lv_lstore hx hb d_Dc_div_87 hl (by decide) rfl (fun ls hl => ?_)
        have hl : lv_has ls 10 [(5, .long (lz ((r * 1000000000 + h i) % P))), (8, .long (lz ((r * 1000000000) + (h i)))), (0, .ref d), (1, .int (iz (bn : Int))), (3, .long (lz (P - 1))), (7, .int (iz i))] := hl
        refine lv_iinc (k := 5) (v := (iz (i + 1))) hx hb d_Dc_div_89 hl rfl (by show iz _ + iz (1) = _; rw [← iz_add]; try rfl) (by decide) rfl (fun ls hl => ?_)
        have hl : lv_has ls 10 [(7, .int (iz (i + 1))), (5, .long (lz ((r * 1000000000 + h i) % P))), (8, .long (lz ((r * 1000000000) + (h i)))), (0, .ref d), (1, .int (iz (bn : Int))), (3, .long (lz (P - 1)))] := hl
        refine lv_goto (tgt := 45) hx hb d_Dc_div_92 rfl ?_
        exact ih45 (i + 1) ((r * 1000000000 + h i) % P) (up h i ((r * 1000000000 + h i) / P)) _ _ _ hP hD hS (lv_sub hl [3, 4, 5, 1, 0] rfl) (hM.step (by omega) (by omega)) (by omega) (by omega)
  refine lv_iload_n hx hb d_Dc_div_0 rfl (lv_at hl 1 rfl) ?_
  refine lv_bipush (v := iz 9) hx hb d_Dc_div_1 (by decide) ?_
  refine z_iadd hx hb d_Dc_div_3 ?_
  refine lv_iconst (v := iz 1) hx hb d_Dc_div_4 rfl ?_
  refine z_isub hx hb d_Dc_div_5 ?_
  refine lv_bipush (v := iz 9) hx hb d_Dc_div_6 (by decide) ?_
  refine z_idiv hx hb d_Dc_div_8 ⟨by omega, by omega⟩ ⟨by omega, by omega⟩ ?_
  refine z_ri (b := ((bn + 8) / 9 : Nat)) (by omega) ?_
  refine lv_istore_n hx hb d_Dc_div_9 rfl hl (by decide) rfl (fun ls hl => ?_)
  have hl : lv_has ls 10 [(2, .int (iz ((bn + 8) / 9 : Nat))), (0, .ref d), (1, .int (iz (bn : Int)))] := hl
  refine lv_aload_n hx hb d_Dc_div_10 rfl (lv_at hl 1 rfl) ?_
  refine lv_aload_n hx hb d_Dc_div_11 rfl (lv_at hl 1 rfl) ?_
  refine va_get (D := D) (ci := 1) (v := .int (iz lt)) (C := R_1) (T := T_1) (N := 3) hx hb hts in_1 hown hK hP 1 rfl rfl 2 (by decide) (hts _ tw_35) (fun _ h9 => h9) rfl d_Dc_div_12 ?_
  refine lv_iload_n hx hb d_Dc_div_15 rfl (lv_at hl 0 rfl) ?_
  refine z_iadd hx hb d_Dc_div_16 ?_
  refine lv_aload_n hx hb d_Dc_div_17 rfl (lv_at hl 1 rfl) ?_
  refine va_get (D := D) (ci := 1) (v := .ref la) (C := R_1) (T := T_1) (N := 3) hx hb hts in_1 hown hK hP 1 rfl rfl 0 (by decide) (hts _ tw_33) (fun _ h9 => h9) rfl d_Dc_div_18 ?_
  refine z_alen hx hb hK hP 2 0 155 rfl rfl rfl d_Dc_div_21 ?_
  refine lv_iconst (v := iz 1) hx hb d_Dc_div_22 rfl ?_
  refine z_isub hx hb d_Dc_div_23 ?_
  refine z_mmin hx hb (hml.trans hl.1.symm) hown (hts _ tw_260) (hts _ tw_261) (hts _ tw_16) (hts _ twm_min) (Nat.le_of_ble_eq_true rfl) (Nat.le_of_ble_eq_true rfl) (Nat.zero_le _) (Nat.zero_le _) ⟨by omega, by omega⟩ ⟨by omega, by omega⟩ d_Dc_div_24 ?_
  refine z_ri (b := lt + ((bn + 8) / 9 : Nat)) (by omega) ?_
  refine va_put (D := D) (ci := 1) (v := .int (iz (lt + ((bn + 8) / 9 : Nat)))) (ty := .int) (C := R_1) (T := T_1) (N := 3) hx hb hts in_1 ty_1 tyok_1 nm_1 hown hK hP hD hS 1 rfl rfl 2 (by decide) (hts _ tw_35) (fun _ h9 => h9) rfl (by decide +kernel) rfl rfl (Nat.le_of_ble_eq_true rfl) d_Dc_div_27 (fun H locs hP hD hS => ?_)
  have hP : va_P D vwCl [(x, .inr (0, [.ref d, .ref t])), (d, .inr (1, [.ref la, .int (iz fi), .int (iz (lt + ((bn + 8) / 9 : Nat)))])), (la, .inl (cI, 155, .inl (az f))), (t, .inr (2, [.ref ba, .int (iz n)])), (ba, .inl (cB, 1612, .inl (az g)))] H := hP
  have hD : va_D (AX x d la t ba) [(x, .inr (0, [.ref d, .ref t])), (d, .inr (1, [.ref la, .int (iz fi), .int (iz (lt + ((bn + 8) / 9 : Nat)))])), (la, .inl (cI, 155, .inl (az f))), (t, .inr (2, [.ref ba, .int (iz n)])), (ba, .inl (cB, 1612, .inl (az g)))] := hD
  refine lv_lconst (v := lz 1) hx hb d_Dc_div_30 (by decide) ?_
  refine lv_iload_n hx hb d_Dc_div_31 rfl (lv_at hl 2 rfl) ?_
  refine z_lshl hx hb bn d_Dc_div_32 rfl (by omega) ⟨by omega, by omega⟩ (by rw [Int.one_mul, ← hPe]; exact ⟨by omega, by omega⟩) ?_
  refine z_rl (b := P) (by rw [hPe, Int.one_mul]) ?_
  refine lv_lconst (v := lz 1) hx hb d_Dc_div_33 (by decide) ?_
  refine z_lsub hx hb d_Dc_div_34 ?_
  refine lv_lstore_n hx hb d_Dc_div_35 rfl hl (by decide) rfl (fun ls hl => ?_)
  have hl : lv_has ls 10 [(3, .long (lz (P - 1))), (2, .int (iz ((bn + 8) / 9 : Nat))), (0, .ref d), (1, .int (iz (bn : Int)))] := hl
  refine lv_lconst (v := lz 0) hx hb d_Dc_div_36 (by decide) ?_
  refine lv_lstore hx hb d_Dc_div_37 hl (by decide) rfl (fun ls hl => ?_)
  have hl : lv_has ls 10 [(5, .long (lz 0)), (3, .long (lz (P - 1))), (2, .int (iz ((bn + 8) / 9 : Nat))), (0, .ref d), (1, .int (iz (bn : Int)))] := hl
  refine lv_aload_n hx hb d_Dc_div_39 rfl (lv_at hl 3 rfl) ?_
  refine va_get (D := D) (ci := 1) (v := .int (iz fi)) (C := R_1) (T := T_1) (N := 3) hx hb hts in_1 hown hK hP 1 rfl rfl 1 (by decide) (hts _ tw_34) (fun _ h9 => h9) rfl d_Dc_div_40 ?_
  refine lv_istore hx hb d_Dc_div_43 hl (by decide) rfl (fun ls hl => ?_)
  have hl : lv_has ls 10 [(7, .int (iz fi)), (5, .long (lz 0)), (3, .long (lz (P - 1))), (2, .int (iz ((bn + 8) / 9 : Nat))), (0, .ref d), (1, .int (iz (bn : Int)))] := hl
  exact L45 _ fi 0 f _ _ _ hP hD hS (lv_sub hl [4, 5, 2, 1, 0] rfl) (DivI.start hdec (by omega)) (by omega) (Nat.lt_succ_self _)
