theorem d_Dc_addOne_0 : decode b_Dc_addOneAt 0 = .ok (.getstatic 48, 3) := by decide +kernel
theorem d_Dc_addOne_3 : decode b_Dc_addOneAt 3 = .ok (.iload_n 1, 1) := by decide +kernel
theorem d_Dc_addOne_4 : decode b_Dc_addOneAt 4 = .ok (.invokestatic 55, 3) := by decide +kernel
theorem d_Dc_addOne_7 : decode b_Dc_addOneAt 7 = .ok (.iaload, 1) := by decide +kernel
theorem d_Dc_addOne_8 : decode b_Dc_addOneAt 8 = .ok (.istore_n 2, 1) := by decide +kernel
theorem d_Dc_addOne_9 : decode b_Dc_addOneAt 9 = .ok (.iload_n 1, 1) := by decide +kernel
theorem d_Dc_addOne_10 : decode b_Dc_addOneAt 10 = .ok (.invokestatic 51, 3) := by decide +kernel
theorem d_Dc_addOne_13 : decode b_Dc_addOneAt 13 = .ok (.istore_n 3, 1) := by decide +kernel
theorem d_Dc_addOne_14 : decode b_Dc_addOneAt 14 = .ok (.iload_n 3, 1) := by decide +kernel
theorem d_Dc_addOne_15 : decode b_Dc_addOneAt 15 = .ok (.ifCond .lt (90), 3) := by decide +kernel
theorem d_Dc_addOne_18 : decode b_Dc_addOneAt 18 = .ok (.iload_n 3, 1) := by decide +kernel
theorem d_Dc_addOne_19 : decode b_Dc_addOneAt 19 = .ok (.aload_n 0, 1) := by decide +kernel
theorem d_Dc_addOne_20 : decode b_Dc_addOneAt 20 = .ok (.getfield 9, 3) := by decide +kernel
theorem d_Dc_addOne_23 : decode b_Dc_addOneAt 23 = .ok (.arraylength, 1) := by decide +kernel
theorem d_Dc_addOne_24 : decode b_Dc_addOneAt 24 = .ok (.if_icmp .ge (81), 3) := by decide +kernel
theorem d_Dc_addOne_27 : decode b_Dc_addOneAt 27 = .ok (.iload_n 2, 1) := by decide +kernel
theorem d_Dc_addOne_28 : decode b_Dc_addOneAt 28 = .ok (.ifCond .le (77), 3) := by decide +kernel
theorem d_Dc_addOne_31 : decode b_Dc_addOneAt 31 = .ok (.aload_n 0, 1) := by decide +kernel
theorem d_Dc_addOne_32 : decode b_Dc_addOneAt 32 = .ok (.getfield 9, 3) := by decide +kernel
theorem d_Dc_addOne_35 : decode b_Dc_addOneAt 35 = .ok (.iload_n 3, 1) := by decide +kernel
theorem d_Dc_addOne_36 : decode b_Dc_addOneAt 36 = .ok (.iaload, 1) := by decide +kernel
theorem d_Dc_addOne_37 : decode b_Dc_addOneAt 37 = .ok (.iload_n 2, 1) := by decide +kernel
theorem d_Dc_addOne_38 : decode b_Dc_addOneAt 38 = .ok (.iadd, 1) := by decide +kernel
theorem d_Dc_addOne_39 : decode b_Dc_addOneAt 39 = .ok (.istore 4, 2) := by decide +kernel
theorem d_Dc_addOne_41 : decode b_Dc_addOneAt 41 = .ok (.iload 4, 2) := by decide +kernel
theorem d_Dc_addOne_43 : decode b_Dc_addOneAt 43 = .ok (.ldc 64, 2) := by decide +kernel
theorem d_Dc_addOne_45 : decode b_Dc_addOneAt 45 = .ok (.if_icmp .lt (7), 3) := by decide +kernel
theorem d_Dc_addOne_48 : decode b_Dc_addOneAt 48 = .ok (.iconst 1, 1) := by decide +kernel
theorem d_Dc_addOne_49 : decode b_Dc_addOneAt 49 = .ok (.goto (4), 3) := by decide +kernel
theorem d_Dc_addOne_52 : decode b_Dc_addOneAt 52 = .ok (.iconst 0, 1) := by decide +kernel
theorem d_Dc_addOne_53 : decode b_Dc_addOneAt 53 = .ok (.istore 5, 2) := by decide +kernel
theorem d_Dc_addOne_55 : decode b_Dc_addOneAt 55 = .ok (.aload_n 0, 1) := by decide +kernel
theorem d_Dc_addOne_56 : decode b_Dc_addOneAt 56 = .ok (.getfield 9, 3) := by decide +kernel
theorem d_Dc_addOne_59 : decode b_Dc_addOneAt 59 = .ok (.iload_n 3, 1) := by decide +kernel
theorem d_Dc_addOne_60 : decode b_Dc_addOneAt 60 = .ok (.iload 5, 2) := by decide +kernel
theorem d_Dc_addOne_62 : decode b_Dc_addOneAt 62 = .ok (.ifCond .eq (11), 3) := by decide +kernel
theorem d_Dc_addOne_65 : decode b_Dc_addOneAt 65 = .ok (.iload 4, 2) := by decide +kernel
theorem d_Dc_addOne_67 : decode b_Dc_addOneAt 67 = .ok (.ldc 64, 2) := by decide +kernel
theorem d_Dc_addOne_69 : decode b_Dc_addOneAt 69 = .ok (.isub, 1) := by decide +kernel
theorem d_Dc_addOne_70 : decode b_Dc_addOneAt 70 = .ok (.goto (5), 3) := by decide +kernel
theorem d_Dc_addOne_73 : decode b_Dc_addOneAt 73 = .ok (.iload 4, 2) := by decide +kernel
theorem d_Dc_addOne_75 : decode b_Dc_addOneAt 75 = .ok (.iastore, 1) := by decide +kernel
theorem d_Dc_addOne_76 : decode b_Dc_addOneAt 76 = .ok (.iload 5, 2) := by decide +kernel
theorem d_Dc_addOne_78 : decode b_Dc_addOneAt 78 = .ok (.ifCond .eq (7), 3) := by decide +kernel
theorem d_Dc_addOne_81 : decode b_Dc_addOneAt 81 = .ok (.iconst 1, 1) := by decide +kernel
theorem d_Dc_addOne_82 : decode b_Dc_addOneAt 82 = .ok (.goto (4), 3) := by decide +kernel
theorem d_Dc_addOne_85 : decode b_Dc_addOneAt 85 = .ok (.iconst 0, 1) := by decide +kernel
theorem d_Dc_addOne_86 : decode b_Dc_addOneAt 86 = .ok (.istore_n 2, 1) := by decide +kernel
theorem d_Dc_addOne_87 : decode b_Dc_addOneAt 87 = .ok (.aload_n 0, 1) := by decide +kernel
theorem d_Dc_addOne_88 : decode b_Dc_addOneAt 88 = .ok (.aload_n 0, 1) := by decide +kernel
theorem d_Dc_addOne_89 : decode b_Dc_addOneAt 89 = .ok (.getfield 13, 3) := by decide +kernel
theorem d_Dc_addOne_92 : decode b_Dc_addOneAt 92 = .ok (.iload_n 3, 1) := by decide +kernel
theorem d_Dc_addOne_93 : decode b_Dc_addOneAt 93 = .ok (.invokestatic 28, 3) := by decide +kernel
theorem d_Dc_addOne_96 : decode b_Dc_addOneAt 96 = .ok (.putfield 13, 3) := by decide +kernel
theorem d_Dc_addOne_99 : decode b_Dc_addOneAt 99 = .ok (.iinc 3 (-1), 3) := by decide +kernel
theorem d_Dc_addOne_102 : decode b_Dc_addOneAt 102 = .ok (.goto (-88), 3) := by decide +kernel
theorem d_Dc_addOne_105 : decode b_Dc_addOneAt 105 = .ok (.return_, 1) := by decide +kernel
set_option maxHeartbeats 4000000 in
set_option maxRecDepth 100000 in
theorem c_Dc_addOne (l : Launch) (D : va_G) (cI cB : ClassId) (x d la t ba tt : Nat) (ad : Nat → Nat) (V : Int) (tx : List Int) (pl : Int) (hpl : -1079 ≤ pl ∧ pl ≤ 314) (hV : V + 10 ^ (pl + 1080).toNat < 1000000000 ^ 155) (hd5 : dgt V (pl - 1) ≠ 0) : Ct l y_Dc_addOneAt (ws_Dc_addOneAt) 2 (AX x d la t ba) [.ref d, .int (iz pl)] (XW D cI cB x d la t ba tt ad V tx) (zR none (XW D cI cB x d la t ba tt ad (V + 10 ^ (pl + 1080).toNat) tx)) := by
  refine z_body zSt_XW (by decide +kernel) rfl (Nat.le_of_ble_eq_true rfl) ?_
  intro p e s m args below meth c ls hx hb hml hr hlk hts0 hown hpre0 H locs hpre hS hl
  have hts : ∀ w ∈ TBL, w.before args s = true := fun w hw => hts0 w (List.mem_cons_of_mem _ hw)
  have hl : lv_has ls 6 [(0, .ref d), (1, .int (iz pl))] := hl
  have hw := hpre
  have hst0 := hpre0.st
  have L14 : ∀ (N14 : Nat) (h : Int → Int) (fi : Int) (lt : Int) (g : Int → Int) (n : Int) (i : Int) (mo : Int) (H : Heap) (locs : List Loc) (ls : Array Slot), va_P D vwCl [(x, .inr (0, [.ref d, .ref t])), (d, .inr (1, [.ref la, .int (iz fi), .int (iz lt)])), (la, .inl (cI, 155, .inl (az h))), (t, .inr (2, [.ref ba, .int (iz n)])), (ba, .inl (cB, 1612, .inl (az g)))] H → va_D (AX x d la t ba) [(x, .inr (0, [.ref d, .ref t])), (d, .inr (1, [.ref la, .int (iz fi), .int (iz lt)])), (la, .inl (cI, 155, .inl (az h))), (t, .inr (2, [.ref ba, .int (iz n)])), (ba, .inl (cB, 1612, .inl (az g)))] → va_S (AX x d la t ba) s.heap H locs → lv_has ls 6 [(0, .ref d), (1, .int (iz pl)), (2, .int (iz mo)), (3, .int (iz i))] → (va_K D vwCl (tysX cI cB) s) → (AddI h fi lt (V + 10 ^ (pl + 1080).toNat) i mo) → (TxOK g n tx) → (i + 1).toNat < N14 → W p l e (zrm 2) s m args below meth c H locs 0 0 (MQ below (zQ (AX x d la t ba) (zR none (XW D cI cB x d la t ba tt ad (V + 10 ^ (pl + 1080).toNat) tx))) args s 0 0 (AX x d la t ba)) (F0 m 14 ls []) := by
    intro N14
    induction N14 with
    | zero => intro h fi lt g n i mo H locs ls hP hD hS hl hK hA htx hN14; exact absurd hN14 (Nat.not_lt_zero _)
    | succ N14 ih14 =>
      intro h fi lt g n i mo H locs ls hP hD hS hl hK hA htx hN14
      have hA1 := hA.1
      have hA2 := hA.2.1
      have hA3 := hA.2.2.1
      have hA4 := hA.2.2.2.1 i
      refine lv_iload_n hx hb d_Dc_addOne_14 rfl (lv_at hl 3 rfl) ?_
      refine z_if_lt (tgt := 105) hx hb d_Dc_addOne_15 rfl ⟨by omega, by omega⟩ (fun hc15 => ?_) (fun hc15 => ?_)
      · have e8 : mo = 0 := by
          by_cases h8 : i < 0
          · have e9 : i = -1 := by omega
            rw [e9] at hA
            exact hA.top hV
          · omega
        rw [e8] at hA
        exact z_vret hx hb hr hlk hS (zR_st zSt_XW) ⟨rfl, _, _, _, _, _, ⟨hK, hP, hD⟩, hA.stop, htx, hst0.kept hS.2.1⟩ d_Dc_addOne_105
      · refine lv_iload_n hx hb d_Dc_addOne_18 rfl (lv_at hl 3 rfl) ?_
        refine lv_aload_n hx hb d_Dc_addOne_19 rfl (lv_at hl 0 rfl) ?_
        refine va_get (D := D) (ci := 1) (v := .ref la) (C := R_1) (T := T_1) (N := 3) hx hb hts in_1 hown hK hP 1 rfl rfl 0 (by decide) (hts _ tw_33) (fun _ h9 => h9) rfl d_Dc_addOne_20 ?_
        refine z_alen hx hb hK hP 2 0 155 rfl rfl rfl d_Dc_addOne_23 ?_
        refine z_icmp_ge (tgt := 105) hx hb d_Dc_addOne_24 rfl ⟨by omega, by omega⟩ ⟨by omega, by omega⟩ (fun hc24 => ?_) (fun hc24 => ?_)
        · exfalso
          omega
        · refine lv_iload_n hx hb d_Dc_addOne_27 rfl (lv_at hl 2 rfl) ?_
          refine z_if_le (tgt := 105) hx hb d_Dc_addOne_28 rfl ⟨by omega, by omega⟩ (fun hc28 => ?_) (fun hc28 => ?_)
          · have e8 : mo = 0 := by
              by_cases h8 : i < 0
              · have e9 : i = -1 := by omega
                rw [e9] at hA
                exact hA.top hV
              · omega
            rw [e8] at hA
            exact z_vret hx hb hr hlk hS (zR_st zSt_XW) ⟨rfl, _, _, _, _, _, ⟨hK, hP, hD⟩, hA.stop, htx, hst0.kept hS.2.1⟩ d_Dc_addOne_105
          · refine lv_aload_n hx hb d_Dc_addOne_31 rfl (lv_at hl 0 rfl) ?_
            refine va_get (D := D) (ci := 1) (v := .ref la) (C := R_1) (T := T_1) (N := 3) hx hb hts in_1 hown hK hP 1 rfl rfl 0 (by decide) (hts _ tw_33) (fun _ h9 => h9) rfl d_Dc_addOne_32 ?_
            refine lv_iload_n hx hb d_Dc_addOne_35 rfl (lv_at hl 3 rfl) ?_
            refine z_iald hx hb hK hP 2 0 rfl rfl (by omega) (by omega) (by decide) d_Dc_addOne_36 ?_
            refine lv_iload_n hx hb d_Dc_addOne_37 rfl (lv_at hl 2 rfl) ?_
            refine z_iadd hx hb d_Dc_addOne_38 ?_
            refine lv_istore hx hb d_Dc_addOne_39 hl (by decide) rfl (fun ls hl => ?_)
            have hl : lv_has ls 6 [(4, .int (iz ((h i) + mo))), (0, .ref d), (1, .int (iz pl)), (2, .int (iz mo)), (3, .int (iz i))] := hl
            refine lv_iload hx hb d_Dc_addOne_41 (lv_at hl 0 rfl) ?_
            refine lv_ldc (v := (1000000000 : Int32)) hx hb hown (hts _ tw_301) d_Dc_addOne_43 ?_
            refine z_topi (y := iz (1000000000)) (by decide) ?_
            refine z_icmp_lt (tgt := 52) hx hb d_Dc_addOne_45 rfl ⟨by omega, by omega⟩ ⟨by omega, by omega⟩ (fun hc45 => ?_) (fun hc45 => ?_)
            · refine lv_iconst (v := iz 0) hx hb d_Dc_addOne_52 rfl ?_
              refine lv_istore hx hb d_Dc_addOne_53 hl (by decide) rfl (fun ls hl => ?_)
              have hl : lv_has ls 6 [(5, .int (iz 0)), (4, .int (iz ((h i) + mo))), (0, .ref d), (1, .int (iz pl)), (2, .int (iz mo)), (3, .int (iz i))] := hl
              refine lv_aload_n hx hb d_Dc_addOne_55 rfl (lv_at hl 2 rfl) ?_
              refine va_get (D := D) (ci := 1) (v := .ref la) (C := R_1) (T := T_1) (N := 3) hx hb hts in_1 hown hK hP 1 rfl rfl 0 (by decide) (hts _ tw_33) (fun _ h9 => h9) rfl d_Dc_addOne_56 ?_
              refine lv_iload_n hx hb d_Dc_addOne_59 rfl (lv_at hl 5 rfl) ?_
              refine lv_iload hx hb d_Dc_addOne_60 (lv_at hl 0 rfl) ?_
              refine z_if_eq (tgt := 73) hx hb d_Dc_addOne_62 rfl ⟨by omega, by omega⟩ (fun hc62 => ?_) (fun hc62 => ?_)
              · refine lv_iload hx hb d_Dc_addOne_73 (lv_at hl 1 rfl) ?_
                refine z_iast hx hb hK hP hD hS 2 0 rfl rfl (by omega) (by omega) (by decide) d_Dc_addOne_75 (fun H locs hP hD hS => ?_)
                have hP : va_P D vwCl [(x, .inr (0, [.ref d, .ref t])), (d, .inr (1, [.ref la, .int (iz fi), .int (iz lt)])), (la, .inl (cI, 155, .inl (az (up h i ((h i) + mo))))), (t, .inr (2, [.ref ba, .int (iz n)])), (ba, .inl (cB, 1612, .inl (az g)))] H := hP
                have hD : va_D (AX x d la t ba) [(x, .inr (0, [.ref d, .ref t])), (d, .inr (1, [.ref la, .int (iz fi), .int (iz lt)])), (la, .inl (cI, 155, .inl (az (up h i ((h i) + mo))))), (t, .inr (2, [.ref ba, .int (iz n)])), (ba, .inl (cB, 1612, .inl (az g)))] := hD
                refine lv_iload hx hb d_Dc_addOne_76 (lv_at hl 0 rfl) ?_
                refine z_if_eq (tgt := 85) hx hb d_Dc_addOne_78 rfl ⟨by omega, by omega⟩ (fun hc78 => ?_) (fun hc78 => ?_)
                · refine lv_iconst (v := iz 0) hx hb d_Dc_addOne_85 rfl ?_
                  refine lv_istore_n hx hb d_Dc_addOne_86 rfl hl (by decide) rfl (fun ls hl => ?_)
                  have hl : lv_has ls 6 [(2, .int (iz 0)), (5, .int (iz 0)), (4, .int (iz ((h i) + mo))), (0, .ref d), (1, .int (iz pl)), (3, .int (iz i))] := hl
                  refine lv_aload_n hx hb d_Dc_addOne_87 rfl (lv_at hl 3 rfl) ?_
                  refine lv_aload_n hx hb d_Dc_addOne_88 rfl (lv_at hl 3 rfl) ?_
                  refine va_get (D := D) (ci := 1) (v := .int (iz fi)) (C := R_1) (T := T_1) (N := 3) hx hb hts in_1 hown hK hP 1 rfl rfl 1 (by decide) (hts _ tw_34) (fun _ h9 => h9) rfl d_Dc_addOne_89 ?_
                  refine lv_iload_n hx hb d_Dc_addOne_92 rfl (lv_at hl 5 rfl) ?_
                  refine z_mmin hx hb (hml.trans hl.1.symm) hown (hts _ tw_260) (hts _ tw_261) (hts _ tw_16) (hts _ twm_min) (Nat.le_of_ble_eq_true rfl) (Nat.le_of_ble_eq_true rfl) (Nat.zero_le _) (Nat.zero_le _) ⟨by omega, by omega⟩ ⟨by omega, by omega⟩ d_Dc_addOne_93 ?_
                  refine va_put (D := D) (ci := 1) (v := .int (iz (min fi i))) (ty := .int) (C := R_1) (T := T_1) (N := 3) hx hb hts in_1 ty_1 tyok_1 nm_1 hown hK hP hD hS 1 rfl rfl 1 (by decide) (hts _ tw_34) (fun _ h9 => h9) rfl (by decide +kernel) rfl rfl (Nat.le_of_ble_eq_true rfl) d_Dc_addOne_96 (fun H locs hP hD hS => ?_)
                  have hP : va_P D vwCl [(x, .inr (0, [.ref d, .ref t])), (d, .inr (1, [.ref la, .int (iz (min fi i)), .int (iz lt)])), (la, .inl (cI, 155, .inl (az (up h i ((h i) + mo))))), (t, .inr (2, [.ref ba, .int (iz n)])), (ba, .inl (cB, 1612, .inl (az g)))] H := hP
                  have hD : va_D (AX x d la t ba) [(x, .inr (0, [.ref d, .ref t])), (d, .inr (1, [.ref la, .int (iz (min fi i)), .int (iz lt)])), (la, .inl (cI, 155, .inl (az (up h i ((h i) + mo))))), (t, .inr (2, [.ref ba, .int (iz n)])), (ba, .inl (cB, 1612, .inl (az g)))] := hD
                  refine lv_iinc (k := 5) (v := (iz (i - 1))) hx hb d_Dc_addOne_99 hl rfl (by show iz _ + iz (-1) = _; rw [← iz_add]; try rfl) (by decide) rfl (fun ls hl => ?_)
                  have hl : lv_has ls 6 [(3, .int (iz (i - 1))), (2, .int (iz 0)), (5, .int (iz 0)), (4, .int (iz ((h i) + mo))), (0, .ref d), (1, .int (iz pl))] := hl
                  refine lv_goto (tgt := 14) hx hb d_Dc_addOne_102 rfl ?_
                  exact ih14 (up h i ((h i) + mo)) (min fi i) lt g n (i - 1) 0 _ _ _ hP hD hS (lv_sub hl [4, 5, 1, 0] rfl) hK (hA.step (by omega) ⟨by omega, by omega⟩ ⟨by omega, by omega⟩ (by omega)) htx (by omega)
                · exfalso
                  omega
              · exfalso
                omega
            · refine lv_iconst (v := iz 1) hx hb d_Dc_addOne_48 rfl ?_
              refine lv_goto (tgt := 53) hx hb d_Dc_addOne_49 rfl ?_
              refine lv_istore hx hb d_Dc_addOne_53 hl (by decide) rfl (fun ls hl => ?_)
              have hl : lv_has ls 6 [(5, .int (iz 1)), (4, .int (iz ((h i) + mo))), (0, .ref d), (1, .int (iz pl)), (2, .int (iz mo)), (3, .int (iz i))] := hl
              refine lv_aload_n hx hb d_Dc_addOne_55 rfl (lv_at hl 2 rfl) ?_
              refine va_get (D := D) (ci := 1) (v := .ref la) (C := R_1) (T := T_1) (N := 3) hx hb hts in_1 hown hK hP 1 rfl rfl 0 (by decide) (hts _ tw_33) (fun _ h9 => h9) rfl d_Dc_addOne_56 ?_
              refine lv_iload_n hx hb d_Dc_addOne_59 rfl (lv_at hl 5 rfl) ?_
              refine lv_iload hx hb d_Dc_addOne_60 (lv_at hl 0 rfl) ?_
              refine z_if_eq (tgt := 73) hx hb d_Dc_addOne_62 rfl ⟨by omega, by omega⟩ (fun hc62 => ?_) (fun hc62 => ?_)
              · exfalso
                omega
              · refine lv_iload hx hb d_Dc_addOne_65 (lv_at hl 1 rfl) ?_
                refine lv_ldc (v := (1000000000 : Int32)) hx hb hown (hts _ tw_301) d_Dc_addOne_67 ?_
                refine z_topi (y := iz (1000000000)) (by decide) ?_
                refine z_isub hx hb d_Dc_addOne_69 ?_
                refine lv_goto (tgt := 75) hx hb d_Dc_addOne_70 rfl ?_
                refine z_iast hx hb hK hP hD hS 2 0 rfl rfl (by omega) (by omega) (by decide) d_Dc_addOne_75 (fun H locs hP hD hS => ?_)
                have hP : va_P D vwCl [(x, .inr (0, [.ref d, .ref t])), (d, .inr (1, [.ref la, .int (iz fi), .int (iz lt)])), (la, .inl (cI, 155, .inl (az (up h i (((h i) + mo) - 1000000000))))), (t, .inr (2, [.ref ba, .int (iz n)])), (ba, .inl (cB, 1612, .inl (az g)))] H := hP
                have hD : va_D (AX x d la t ba) [(x, .inr (0, [.ref d, .ref t])), (d, .inr (1, [.ref la, .int (iz fi), .int (iz lt)])), (la, .inl (cI, 155, .inl (az (up h i (((h i) + mo) - 1000000000))))), (t, .inr (2, [.ref ba, .int (iz n)])), (ba, .inl (cB, 1612, .inl (az g)))] := hD
                refine lv_iload hx hb d_Dc_addOne_76 (lv_at hl 0 rfl) ?_
                refine z_if_eq (tgt := 85) hx hb d_Dc_addOne_78 rfl ⟨by omega, by omega⟩ (fun hc78 => ?_) (fun hc78 => ?_)
                · exfalso
                  omega
                · refine lv_iconst (v := iz 1) hx hb d_Dc_addOne_81 rfl ?_
                  refine lv_goto (tgt := 86) hx hb d_Dc_addOne_82 rfl ?_
                  refine lv_istore_n hx hb d_Dc_addOne_86 rfl hl (by decide) rfl (fun ls hl => ?_)
                  have hl : lv_has ls 6 [(2, .int (iz 1)), (5, .int (iz 1)), (4, .int (iz ((h i) + mo))), (0, .ref d), (1, .int (iz pl)), (3, .int (iz i))] := hl
                  refine lv_aload_n hx hb d_Dc_addOne_87 rfl (lv_at hl 3 rfl) ?_
                  refine lv_aload_n hx hb d_Dc_addOne_88 rfl (lv_at hl 3 rfl) ?_
                  refine va_get (D := D) (ci := 1) (v := .int (iz fi)) (C := R_1) (T := T_1) (N := 3) hx hb hts in_1 hown hK hP 1 rfl rfl 1 (by decide) (hts _ tw_34) (fun _ h9 => h9) rfl d_Dc_addOne_89 ?_
                  refine lv_iload_n hx hb d_Dc_addOne_92 rfl (lv_at hl 5 rfl) ?_
                  refine z_mmin hx hb (hml.trans hl.1.symm) hown (hts _ tw_260) (hts _ tw_261) (hts _ tw_16) (hts _ twm_min) (Nat.le_of_ble_eq_true rfl) (Nat.le_of_ble_eq_true rfl) (Nat.zero_le _) (Nat.zero_le _) ⟨by omega, by omega⟩ ⟨by omega, by omega⟩ d_Dc_addOne_93 ?_
                  refine va_put (D := D) (ci := 1) (v := .int (iz (min fi i))) (ty := .int) (C := R_1) (T := T_1) (N := 3) hx hb hts in_1 ty_1 tyok_1 nm_1 hown hK hP hD hS 1 rfl rfl 1 (by decide) (hts _ tw_34) (fun _ h9 => h9) rfl (by decide +kernel) rfl rfl (Nat.le_of_ble_eq_true rfl) d_Dc_addOne_96 (fun H locs hP hD hS => ?_)
                  have hP : va_P D vwCl [(x, .inr (0, [.ref d, .ref t])), (d, .inr (1, [.ref la, .int (iz (min fi i)), .int (iz lt)])), (la, .inl (cI, 155, .inl (az (up h i (((h i) + mo) - 1000000000))))), (t, .inr (2, [.ref ba, .int (iz n)])), (ba, .inl (cB, 1612, .inl (az g)))] H := hP
                  have hD : va_D (AX x d la t ba) [(x, .inr (0, [.ref d, .ref t])), (d, .inr (1, [.ref la, .int (iz (min fi i)), .int (iz lt)])), (la, .inl (cI, 155, .inl (az (up h i (((h i) + mo) - 1000000000))))), (t, .inr (2, [.ref ba, .int (iz n)])), (ba, .inl (cB, 1612, .inl (az g)))] := hD
                  refine lv_iinc (k := 5) (v := (iz (i - 1))) hx hb d_Dc_addOne_99 hl rfl (by show iz _ + iz (-1) = _; rw [← iz_add]; try rfl) (by decide) rfl (fun ls hl => ?_)
                  have hl : lv_has ls 6 [(3, .int (iz (i - 1))), (2, .int (iz 1)), (5, .int (iz 1)), (4, .int (iz ((h i) + mo))), (0, .ref d), (1, .int (iz pl))] := hl
                  refine lv_goto (tgt := 14) hx hb d_Dc_addOne_102 rfl ?_
                  exact ih14 (up h i (((h i) + mo) - 1000000000)) (min fi i) lt g n (i - 1) 1 _ _ _ hP hD hS (lv_sub hl [4, 5, 1, 0] rfl) hK (hA.step (by omega) ⟨by omega, by omega⟩ ⟨by omega, by omega⟩ (by omega)) htx (by omega)
  refine va_gets hx hb hst0.1 hS hown (hts _ tw_275) (fun _ h9 => h9) d_Dc_addOne_0 ?_
  refine lv_iload_n hx hb d_Dc_addOne_3 rfl (lv_at hl 1 rfl) ?_
  have hct := c_Dc_placeIn l D cI cB x d la t ba tt ad V tx pl ⟨by omega, by omega⟩
  refine z_go (va_runS (As := [.int (iz pl)]) (rest := [.ref tt]) ⟨hx, hb, hml, hown, hts⟩ hct.2 (z_cwS hts w_Dc_placeInLimb tw_291 (by decide)) (z_preS hct.1 hw) rfl rfl hl.1 rfl (lv_room (Nat.le_of_ble_eq_true rfl)) d_Dc_addOne_4 ⟨Nat.zero_le _, Nat.zero_le _⟩) hS (fun _ h9 => h9) (fun v9 t9 H locs hv9 hp9 hz9 hk9 hS => ?_)
  obtain ⟨rfl, hw⟩ := hp9
  have hw := XW.moved hv9.symm hw
  refine W.eq (g2 := F0 m 7 ls [.int (iz (pl % 9)), .ref tt]) rfl ?_
  refine z_ten hx hb hst0.2.1 hS (by omega) (by omega) d_Dc_addOne_7 ?_
  refine lv_istore_n hx hb d_Dc_addOne_8 rfl hl (by decide) rfl (fun ls hl => ?_)
  have hl : lv_has ls 6 [(2, .int (iz (10 ^ (pl % 9).toNat))), (0, .ref d), (1, .int (iz pl))] := hl
  refine lv_iload_n hx hb d_Dc_addOne_9 rfl (lv_at hl 2 rfl) ?_
  have hct := c_Dc_limbOf l D cI cB x d la t ba tt ad V tx pl ⟨by omega, by omega⟩
  refine z_go (va_runS (As := [.int (iz pl)]) (rest := []) ⟨hx, hb, hml, hown, hts⟩ hct.2 (z_cwS hts w_Dc_limbOf tw_285 (by decide)) (z_preS hct.1 hw) rfl rfl hl.1 rfl (lv_room (Nat.le_of_ble_eq_true rfl)) d_Dc_addOne_10 ⟨Nat.zero_le _, Nat.zero_le _⟩) hS (fun _ h9 => h9) (fun v9 t9 H locs hv9 hp9 hz9 hk9 hS => ?_)
  obtain ⟨rfl, hw⟩ := hp9
  have hw := XW.moved hv9.symm hw
  refine W.eq (g2 := F0 m 13 ls [.int (iz (34 - pl / 9))]) rfl ?_
  refine lv_istore_n hx hb d_Dc_addOne_13 rfl hl (by decide) rfl (fun ls hl => ?_)
  have hl : lv_has ls 6 [(3, .int (iz (34 - pl / 9))), (2, .int (iz (10 ^ (pl % 9).toNat))), (0, .ref d), (1, .int (iz pl))] := hl
  have hw9 := hw
  obtain ⟨lt, f, fi, g, n, ⟨hK, hP, hD⟩, hdec, htx, -⟩ := hw9
  have hdr := hdec.1
  have htn := htx.1
  have htl := htx.2.1
  have hP : va_P D vwCl [(x, .inr (0, [.ref d, .ref t])), (d, .inr (1, [.ref la, .int (iz fi), .int (iz lt)])), (la, .inl (cI, 155, .inl (az f))), (t, .inr (2, [.ref ba, .int (iz n)])), (ba, .inl (cB, 1612, .inl (az g)))] H := hP
  have hD : va_D (AX x d la t ba) [(x, .inr (0, [.ref d, .ref t])), (d, .inr (1, [.ref la, .int (iz fi), .int (iz lt)])), (la, .inl (cI, 155, .inl (az f))), (t, .inr (2, [.ref ba, .int (iz n)])), (ba, .inl (cB, 1612, .inl (az g)))] := hD
  exact L14 _ f fi lt g n (34 - pl / 9) (10 ^ (pl % 9).toNat) _ _ _ hP hD hS (lv_sub hl [2, 3, 1, 0] rfl) hK (AddI.start hdec (by
        by_cases hq : 34 - pl / 9 ≤ lt
        · exact hq
        · exfalso
          apply hd5
          rw [← hdec.2.2.2]
          exact dgt_out hdec.2.1 hdec.2.2.1 (Or.inr (by omega))) (by omega)) htx (Nat.lt_succ_self _)
theorem d_Dc_roundAt_0 : decode b_Dc_roundAt 0 = .ok (.aload_n 0, 1) := by decide +kernel
theorem d_Dc_roundAt_1 : decode b_Dc_roundAt 1 = .ok (.iload_n 1, 1) := by decide +kernel
theorem d_Dc_roundAt_2 : decode b_Dc_roundAt 2 = .ok (.iconst 1, 1) := by decide +kernel
theorem d_Dc_roundAt_3 : decode b_Dc_roundAt 3 = .ok (.isub, 1) := by decide +kernel
theorem d_Dc_roundAt_4 : decode b_Dc_roundAt 4 = .ok (.invokevirtual 58, 3) := by decide +kernel
theorem d_Dc_roundAt_7 : decode b_Dc_roundAt 7 = .ok (.iconst 5, 1) := by decide +kernel
theorem d_Dc_roundAt_8 : decode b_Dc_roundAt 8 = .ok (.if_icmp .lt (8), 3) := by decide +kernel
theorem d_Dc_roundAt_11 : decode b_Dc_roundAt 11 = .ok (.aload_n 0, 1) := by decide +kernel
theorem d_Dc_roundAt_12 : decode b_Dc_roundAt 12 = .ok (.iload_n 1, 1) := by decide +kernel
theorem d_Dc_roundAt_13 : decode b_Dc_roundAt 13 = .ok (.invokevirtual 61, 3) := by decide +kernel
theorem d_Dc_roundAt_16 : decode b_Dc_roundAt 16 = .ok (.return_, 1) := by decide +kernel
set_option maxHeartbeats 4000000 in
set_option maxRecDepth 100000 in
theorem c_Dc_roundAt (l : Launch) (D : va_G) (cI cB : ClassId) (x d la t ba tt : Nat) (ad : Nat → Nat) (V : Int) (tx : List Int) (pl : Int) (hpl : -99999 ≤ pl ∧ pl ≤ 99999) (hV0 : 0 ≤ V) (hV : V < 10 ^ 1389) : Ct l y_Dc_roundAt (ws_Dc_roundAt) 3 (AX x d la t ba) [.ref d, .int (iz pl)] (XW D cI cB x d la t ba tt ad V tx) (zR none (XW D cI cB x d la t ba tt ad (rup V pl) tx)) := by
  refine z_body zSt_XW (by decide +kernel) rfl (Nat.le_of_ble_eq_true rfl) ?_
  intro p e s m args below meth c ls hx hb hml hr hlk hts0 hown hpre0 H locs hpre hS hl
  have hts : ∀ w ∈ TBL, w.before args s = true := fun w hw => hts0 w (List.mem_cons_of_mem _ hw)
  have hl : lv_has ls 2 [(0, .ref d), (1, .int (iz pl))] := hl
  have hw := hpre
  have hst0 := hpre0.st
  refine lv_aload_n hx hb d_Dc_roundAt_0 rfl (lv_at hl 0 rfl) ?_
  refine lv_iload_n hx hb d_Dc_roundAt_1 rfl (lv_at hl 1 rfl) ?_
  refine lv_iconst (v := iz 1) hx hb d_Dc_roundAt_2 rfl ?_
  refine z_isub hx hb d_Dc_roundAt_3 ?_
  have hct := c_Dc_digitAt l D cI cB x d la t ba tt ad V tx (pl - 1) ⟨by omega, by omega⟩
  have hw9 := hw
  obtain ⟨lt, f, fi, g, n, ⟨hK, hP, hD⟩, hdec, htx, -⟩ := hw9
  have hdr := hdec.1
  have htn := htx.1
  have htl := htx.2.1
  have hP : va_P D vwCl [(x, .inr (0, [.ref d, .ref t])), (d, .inr (1, [.ref la, .int (iz fi), .int (iz lt)])), (la, .inl (cI, 155, .inl (az f))), (t, .inr (2, [.ref ba, .int (iz n)])), (ba, .inl (cB, 1612, .inl (az g)))] H := hP
  have hD : va_D (AX x d la t ba) [(x, .inr (0, [.ref d, .ref t])), (d, .inr (1, [.ref la, .int (iz fi), .int (iz lt)])), (la, .inl (cI, 155, .inl (az f))), (t, .inr (2, [.ref ba, .int (iz n)])), (ba, .inl (cB, 1612, .inl (az g)))] := hD
  refine z_go (va_runV (As := [.int (iz (pl - 1))]) (rest := []) ⟨hx, hb, hml, hown, hts⟩ hct.2 (z_cwV hts w_Dc_digitAt tw_281 (by decide)) (z_preV hct.1 (va_recv hK hP (ci := 1) (q0 := 1) rfl rfl) hw) rfl rfl hl.1 rfl (lv_room (Nat.le_of_ble_eq_true rfl)) d_Dc_roundAt_4 ⟨Nat.zero_le _, Nat.zero_le _⟩) hS (fun _ h9 => h9) (fun v9 t9 H locs hv9 hp9 hz9 hk9 hS => ?_)
  obtain ⟨rfl, hw⟩ := hp9
  have hw := XW.moved hv9.symm hw
  refine W.eq (g2 := F0 m 7 ls [.int (iz (dgt V (pl - 1)))]) rfl ?_
  refine lv_iconst (v := iz 5) hx hb d_Dc_roundAt_7 rfl ?_
  have hdr9 := dgt_r V (pl - 1)
  refine z_icmp_lt (tgt := 16) hx hb d_Dc_roundAt_8 rfl ⟨by omega, by omega⟩ ⟨by omega, by omega⟩ (fun hc8 => ?_) (fun hc8 => ?_)
  · exact z_vret hx hb hr hlk hS (zR_st zSt_XW) ⟨rfl, by unfold rup; first | (rw [if_pos hc8]; exact hw) | (rw [if_neg (by omega)]; exact hw)⟩ d_Dc_roundAt_16
  · refine lv_aload_n hx hb d_Dc_roundAt_11 rfl (lv_at hl 0 rfl) ?_
    refine lv_iload_n hx hb d_Dc_roundAt_12 rfl (lv_at hl 1 rfl) ?_
    have hd8 : 5 ≤ dgt V (pl - 1) := hc8
    have hct := c_Dc_addOne l D cI cB x d la t ba tt ad V tx pl (rup_pl hV0 hV hd8) (rup_lt hV0 hV hd8) (by omega)
    have hw9 := hw
    obtain ⟨lt, f, fi, g, n, ⟨hK, hP, hD⟩, hdec, htx, -⟩ := hw9
    have hdr := hdec.1
    have htn := htx.1
    have htl := htx.2.1
    have hP : va_P D vwCl [(x, .inr (0, [.ref d, .ref t])), (d, .inr (1, [.ref la, .int (iz fi), .int (iz lt)])), (la, .inl (cI, 155, .inl (az f))), (t, .inr (2, [.ref ba, .int (iz n)])), (ba, .inl (cB, 1612, .inl (az g)))] H := hP
    have hD : va_D (AX x d la t ba) [(x, .inr (0, [.ref d, .ref t])), (d, .inr (1, [.ref la, .int (iz fi), .int (iz lt)])), (la, .inl (cI, 155, .inl (az f))), (t, .inr (2, [.ref ba, .int (iz n)])), (ba, .inl (cB, 1612, .inl (az g)))] := hD
    refine z_go (va_runV (As := [.int (iz pl)]) (rest := []) ⟨hx, hb, hml, hown, hts⟩ hct.2 (z_cwV hts w_Dc_addOneAt tw_297 (by decide)) (z_preV hct.1 (va_recv hK hP (ci := 1) (q0 := 1) rfl rfl) hw) rfl rfl hl.1 rfl (lv_room (Nat.le_of_ble_eq_true rfl)) d_Dc_roundAt_13 ⟨Nat.zero_le _, Nat.zero_le _⟩) hS (fun _ h9 => h9) (fun v9 t9 H locs hv9 hp9 hz9 hk9 hS => ?_)
    obtain ⟨rfl, hw⟩ := hp9
    have hw := XW.moved hv9.symm hw
    refine W.eq (g2 := F0 m 16 ls []) rfl ?_
    exact z_vret hx hb hr hlk hS (zR_st zSt_XW) ⟨rfl, by unfold rup; first | (rw [if_pos hc8]; exact hw) | (rw [if_neg (by omega)]; exact hw)⟩ d_Dc_roundAt_16
