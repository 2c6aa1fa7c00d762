theorem d_Tx_addAll_0 : decode b_Tx_addAll 0 = .ok (.iconst 0, 1) := by decide +kernel
theorem d_Tx_addAll_1 : decode b_Tx_addAll 1 = .ok (.istore_n 2, 1) := by decide +kernel
theorem d_Tx_addAll_2 : decode b_Tx_addAll 2 = .ok (.iload_n 2, 1) := by decide +kernel
theorem d_Tx_addAll_3 : decode b_Tx_addAll 3 = .ok (.aload_n 1, 1) := by decide +kernel
theorem d_Tx_addAll_4 : decode b_Tx_addAll 4 = .ok (.invokevirtual 19, 3) := by decide +kernel
theorem d_Tx_addAll_7 : decode b_Tx_addAll 7 = .ok (.if_icmp .ge (18), 3) := by decide +kernel
theorem d_Tx_addAll_10 : decode b_Tx_addAll 10 = .ok (.aload_n 0, 1) := by decide +kernel
theorem d_Tx_addAll_11 : decode b_Tx_addAll 11 = .ok (.aload_n 1, 1) := by decide +kernel
theorem d_Tx_addAll_12 : decode b_Tx_addAll 12 = .ok (.iload_n 2, 1) := by decide +kernel
theorem d_Tx_addAll_13 : decode b_Tx_addAll 13 = .ok (.invokevirtual 24, 3) := by decide +kernel
theorem d_Tx_addAll_16 : decode b_Tx_addAll 16 = .ok (.invokevirtual 28, 3) := by decide +kernel
theorem d_Tx_addAll_19 : decode b_Tx_addAll 19 = .ok (.iinc 2 (1), 3) := by decide +kernel
theorem d_Tx_addAll_22 : decode b_Tx_addAll 22 = .ok (.goto (-20), 3) := by decide +kernel
theorem d_Tx_addAll_25 : decode b_Tx_addAll 25 = .ok (.return_, 1) := by decide +kernel
set_option maxHeartbeats 4000000 in
set_option maxRecDepth 100000 in
theorem c_Tx_addAll (l : Launch) (D : va_G) (cI cB : ClassId) (x d la t ba tt : Nat) (ad : Nat → Nat) (V : Int) (tx : List Int) (sk sv : Nat) (bs : List Int) (hbs : bs.length ≤ 100 ∧ ∀ ch ∈ bs, 0 ≤ ch ∧ ch < 128) (hlen : tx.length + bs.length ≤ 1612) : Ct l y_Tx_addAll (ws_Tx_addAll) 4 (AX x d la t ba) [.ref t, .ref sk] (fun U H => XW D cI cB x d la t ba tt ad V tx U H ∧ SStr (AX x d la t ba) sk sv bs U H) (zR none (XW D cI cB x d la t ba tt ad V (tx ++ bs))) := by
  refine z_body (zSt_of (zSa_and zSa_XW zSa_SStr)) (by decide +kernel) rfl (Nat.le_of_ble_eq_true rfl) ?_
  intro p e s m args below meth c ls hx hb hml hr hlk hts0 hown hpre0 H locs hpre hS hl
  have hts : ∀ w ∈ TBL, w.before args s = true := fun w hw => hts0 w (List.mem_cons_of_mem _ hw)
  have hl : lv_has ls 3 [(0, .ref t), (1, .ref sk)] := hl
  have hw := hpre.1
  have hst0 := hpre0.1.st
  have hss := hpre0.2
  have hbl := hbs.1
  have L2 : ∀ (N2 : Nat) (j : Nat) (i : Int) (H : Heap) (locs : List Loc) (ls : Array Slot), XW D cI cB x d la t ba tt ad V (tx ++ bs.take j) s H → va_S (AX x d la t ba) s.heap H locs → lv_has ls 3 [(0, .ref t), (1, .ref sk), (2, .int (iz i))] → (i = (j : Int) ∧ j ≤ bs.length) → bs.length - j < N2 → W p l e (zrm 4) s m args below meth c H locs 0 0 (MQ below (zQ (AX x d la t ba) (zR none (XW D cI cB x d la t ba tt ad V (tx ++ bs)))) args s 0 0 (AX x d la t ba)) (F0 m 2 ls []) := by
    intro N2
    induction N2 with
    | zero => intro j i H locs ls hw hS hl hj hN2; exact absurd hN2 (Nat.not_lt_zero _)
    | succ N2 ih2 =>
      intro j i H locs ls hw hS hl hj hN2
      refine lv_iload_n hx hb d_Tx_addAll_2 rfl (lv_at hl 2 rfl) ?_
      refine lv_aload_n hx hb d_Tx_addAll_3 rfl (lv_at hl 1 rfl) ?_
      have hct := c_St_length l (AX x d la t ba) (fun U H => XW D cI cB x d la t ba tt ad V (tx ++ bs.take j) U H ∧ SStr (AX x d la t ba) sk sv bs U H) (zSa_and zSa_XW zSa_SStr) sk sv bs (fun U H h => h.2) hbs
      refine z_go (va_runV (As := []) (rest := [.int (iz i)]) ⟨hx, hb, hml, hown, hts⟩ hct.2 (z_cwV hts w_St_length tw_177 (by decide)) (z_preV hct.1 (by obtain ⟨cell, h1, h2, h3, -⟩ := hss.1.kept hS.2.1; exact ⟨cell, h1, h2, h3⟩) ⟨hw, hss.kept hS.2.1⟩) rfl rfl hl.1 rfl (lv_room (Nat.le_of_ble_eq_true rfl)) d_Tx_addAll_4 ⟨Nat.zero_le _, Nat.zero_le _⟩) hS (fun _ h9 => h9) (fun v9 t9 H locs hv9 hp9 hz9 hk9 hS => ?_)
      obtain ⟨rfl, hw, -⟩ := hp9
      have hw := XW.moved hv9.symm hw
      refine W.eq (g2 := F0 m 7 ls [.int (iz (bs.length : Int)), .int (iz i)]) rfl ?_
      refine z_icmp_ge (tgt := 25) hx hb d_Tx_addAll_7 rfl ⟨by omega, by omega⟩ ⟨by omega, by omega⟩ (fun hc7 => ?_) (fun hc7 => ?_)
      · exact z_vret hx hb hr hlk hS (zR_st zSt_XW) ⟨rfl, by
            rw [show j = bs.length by omega, List.take_length] at hw
            exact hw⟩ d_Tx_addAll_25
      · refine lv_aload_n hx hb d_Tx_addAll_10 rfl (lv_at hl 0 rfl) ?_
        refine lv_aload_n hx hb d_Tx_addAll_11 rfl (lv_at hl 1 rfl) ?_
        refine lv_iload_n hx hb d_Tx_addAll_12 rfl (lv_at hl 2 rfl) ?_
        have hct := c_St_charAt l (AX x d la t ba) (fun U H => XW D cI cB x d la t ba tt ad V (tx ++ bs.take j) U H ∧ SStr (AX x d la t ba) sk sv bs U H) (zSa_and zSa_XW zSa_SStr) sk sv bs (fun U H h => h.2) hbs i ⟨by omega, by omega⟩
        refine z_go (va_runV (As := [.int (iz i)]) (rest := [.ref t]) ⟨hx, hb, hml, hown, hts⟩ hct.2 (z_cwV hts w_St_charAt tw_187 (by decide)) (z_preV hct.1 (by obtain ⟨cell, h1, h2, h3, -⟩ := hss.1.kept hS.2.1; exact ⟨cell, h1, h2, h3⟩) ⟨hw, hss.kept hS.2.1⟩) rfl rfl hl.1 rfl (lv_room (Nat.le_of_ble_eq_true rfl)) d_Tx_addAll_13 ⟨Nat.zero_le _, Nat.zero_le _⟩) hS (fun _ h9 => h9) (fun v9 t9 H locs hv9 hp9 hz9 hk9 hS => ?_)
        obtain ⟨rfl, hw, -⟩ := hp9
        have hw := XW.moved hv9.symm hw
        refine W.eq (g2 := F0 m 16 ls [.int (iz (bs.getD i.toNat 0)), .ref t]) rfl ?_
        have hct := c_Tx_add l D cI cB x d la t ba tt ad V (tx ++ bs.take j) (bs.getD i.toNat 0) (tx_getD hbs.2 _) (by rw [List.length_append, List.length_take]; omega)
        have hw9 := hw
        obtain ⟨lt, f, fi, g, n, ⟨hK, hP, hD⟩, hdec, htx, -⟩ := hw9
        have hdr := hdec.1
        have htn := htx.1
        have htl := htx.2.1
        have hP : va_P D vwCl [(x, .inr (0, [.ref d, .ref t])), (d, .inr (1, [.ref la, .int (iz fi), .int (iz lt)])), (la, .inl (cI, 155, .inl (az f))), (t, .inr (2, [.ref ba, .int (iz n)])), (ba, .inl (cB, 1612, .inl (az g)))] H := hP
        have hD : va_D (AX x d la t ba) [(x, .inr (0, [.ref d, .ref t])), (d, .inr (1, [.ref la, .int (iz fi), .int (iz lt)])), (la, .inl (cI, 155, .inl (az f))), (t, .inr (2, [.ref ba, .int (iz n)])), (ba, .inl (cB, 1612, .inl (az g)))] := hD
        refine z_go (va_runV (As := [.int (iz (bs.getD i.toNat 0))]) (rest := []) ⟨hx, hb, hml, hown, hts⟩ hct.2 (z_cwV hts w_Tx_add tw_225 (by decide)) (z_preV hct.1 (va_recv hK hP (ci := 2) (q0 := 3) rfl rfl) hw) rfl rfl hl.1 rfl (lv_room (Nat.le_of_ble_eq_true rfl)) d_Tx_addAll_16 ⟨Nat.zero_le _, Nat.zero_le _⟩) hS (fun _ h9 => h9) (fun v9 t9 H locs hv9 hp9 hz9 hk9 hS => ?_)
        obtain ⟨rfl, hw⟩ := hp9
        have hw := XW.moved hv9.symm hw
        refine W.eq (g2 := F0 m 19 ls []) rfl ?_
        refine lv_iinc (k := 2) (v := (iz (i + 1))) hx hb d_Tx_addAll_19 hl rfl (by show iz _ + iz (1) = _; rw [← iz_add]; try rfl) (by decide) rfl (fun ls hl => ?_)
        have hl : lv_has ls 3 [(2, .int (iz (i + 1))), (0, .ref t), (1, .ref sk)] := hl
        refine lv_goto (tgt := 2) hx hb d_Tx_addAll_22 rfl ?_
        have hw : XW D cI cB x d la t ba tt ad V (tx ++ bs.take (j + 1)) s H := by
          rw [show i.toNat = j by omega] at hw
          rw [take_getD (by omega), ← List.append_assoc]
          exact hw
        exact ih2 (j + 1) (i + 1) _ _ _ hw hS (lv_sub hl [1, 2, 0] rfl) ⟨by omega, by omega⟩ (by omega)
  refine lv_iconst (v := iz 0) hx hb d_Tx_addAll_0 rfl ?_
  refine lv_istore_n hx hb d_Tx_addAll_1 rfl hl (by decide) rfl (fun ls hl => ?_)
  have hl : lv_has ls 3 [(2, .int (iz 0)), (0, .ref t), (1, .ref sk)] := hl
  have hw : XW D cI cB x d la t ba tt ad V (tx ++ bs.take 0) s H := by
    rw [List.take_zero, List.append_nil]
    exact hw
  exact L2 _ 0 0 _ _ _ hw hS (lv_sub hl [1, 2, 0] rfl) ⟨rfl, Nat.zero_le _⟩ (Nat.lt_succ_self _)
