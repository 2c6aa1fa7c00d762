/-! String constants: a text of bytes, coder 0 -/
def SStr (A : Nat → Prop) (sk sv : Nat) (bs : List Int) (U : State) (H : Heap) : Prop := va_O "java/lang/String" sk A U H ∧ va_OF "java/lang/String" "coder" "B" (.int (iz 0)) sk A U H ∧ va_OF "java/lang/String" "value" "[B" (.ref sv) sk A U H ∧ va_T .byte sv bs.length (fun j => .int (iz (bs.getD j 0))) A U H ∧ va_Z "java/lang/String" "COMPACT_STRINGS" "Z" (.int (iz 1)) A U H ∧ va_Zq "jdk/internal/util/Preconditions" "SIOOBE_FORMATTER" "Ljava/util/function/BiFunction;" A U H
theorem SStr.moved {A : Nat → Prop} {sk sv : Nat} {bs : List Int} {u U : State} {H : Heap} (hv : u.vm.Alike U.vm) (h : SStr A sk sv bs u H) : SStr A sk sv bs U H := ⟨va_O.moved hv h.1, va_OF.moved hv h.2.1, va_OF.moved hv h.2.2.1, va_T.moved hv h.2.2.2.1, va_Z.moved hv h.2.2.2.2.1, va_Zq.moved hv h.2.2.2.2.2⟩
theorem SStr.kept {A : Nat → Prop} {sk sv : Nat} {bs : List Int} {U : State} {H H1 : Heap} (h : SStr A sk sv bs U H) (hq : ∀ a : Nat, a < H.size → ¬ A a → H1[a]? = H[a]?) : SStr A sk sv bs U H1 := ⟨h.1.kept hq, h.2.1.kept hq, h.2.2.1.kept hq, h.2.2.2.1.kept hq, h.2.2.2.2.1.kept hq, h.2.2.2.2.2.kept hq⟩
theorem Zq_val {C n d : String} {A : Nat → Prop} {U : State} {H : Heap} (h : va_Zq C n d A U H) : ∃ v, va_Z C n d v A U H ∧ (v = .null ∨ ∃ q, v = .ref q) := by
  rcases h with h | ⟨q, h⟩
  · exact ⟨_, h, Or.inl rfl⟩
  · exact ⟨_, h, Or.inr ⟨q, rfl⟩⟩
theorem and255 {a : Int} (h : 0 ≤ a ∧ a < 128) : iz a &&& iz 255 = iz a := by
  obtain ⟨n, rfl⟩ := Int.eq_ofNat_of_zero_le h.1
  rw [iz_nat, pk_andN (by omega) 8 (by decide), show n % 2 ^ 8 = n by omega]
theorem nar_char {a : Int} (h : 0 ≤ a ∧ a < 128) : narrow .char (.int (iz a)) = .int (iz a) := by
  obtain ⟨n, rfl⟩ := Int.eq_ofNat_of_zero_le h.1
  rw [iz_nat]
  exact (pk_charN (by omega)).1
theorem d_Pre_checkN_0 : decode b_jdk_internal_util_Preconditions_checkIndex 0 = .ok (.iload_n 0, 1) := by decide +kernel
theorem d_Pre_checkN_1 : decode b_jdk_internal_util_Preconditions_checkIndex 1 = .ok (.ifCond .lt (8), 3) := by decide +kernel
theorem d_Pre_checkN_4 : decode b_jdk_internal_util_Preconditions_checkIndex 4 = .ok (.iload_n 0, 1) := by decide +kernel
theorem d_Pre_checkN_5 : decode b_jdk_internal_util_Preconditions_checkIndex 5 = .ok (.iload_n 1, 1) := by decide +kernel
theorem d_Pre_checkN_6 : decode b_jdk_internal_util_Preconditions_checkIndex 6 = .ok (.if_icmp .lt (10), 3) := by decide +kernel
theorem d_Pre_checkN_16 : decode b_jdk_internal_util_Preconditions_checkIndex 16 = .ok (.iload_n 0, 1) := by decide +kernel
theorem d_Pre_checkN_17 : decode b_jdk_internal_util_Preconditions_checkIndex 17 = .ok (.ireturn, 1) := by decide +kernel
set_option maxHeartbeats 4000000 in
set_option maxRecDepth 100000 in
theorem c_Pre_checkN (l : Launch) (A : Nat → Prop) (P : State → Heap → Prop) (hP : zSa P) (i n : Int) (hi : 0 ≤ i ∧ i < n ∧ n ≤ 2147483647) : Ct l y_jdk_internal_util_Preconditions_checkIndex (ws_jdk_internal_util_Preconditions_checkIndex) 0 A [.int (iz i), .int (iz n), .null] (P) (zR (some (.int (iz i))) P) := by
  refine z_body (zSt_of hP) (by decide +kernel) rfl (Nat.le_of_ble_eq_true rfl) ?_
  intro p e s m args below meth c ls hx hb hml hr hlk hts0 hown hpre0 H locs hpre hS hl
  have hts : ∀ w ∈ TBL, w.before args s = true := fun w hw => hts0 w (List.mem_cons_of_mem _ hw)
  have hl : lv_has ls 3 [(0, .int (iz i)), (1, .int (iz n)), (2, .null)] := hl
  have hw := hpre
  refine lv_iload_n hx hb d_Pre_checkN_0 rfl (lv_at hl 0 rfl) ?_
  refine z_if_lt (tgt := 9) hx hb d_Pre_checkN_1 rfl ⟨by omega, by omega⟩ (fun hc1 => ?_) (fun hc1 => ?_)
  · exfalso
    omega
  · refine lv_iload_n hx hb d_Pre_checkN_4 rfl (lv_at hl 0 rfl) ?_
    refine lv_iload_n hx hb d_Pre_checkN_5 rfl (lv_at hl 1 rfl) ?_
    refine z_icmp_lt (tgt := 16) hx hb d_Pre_checkN_6 rfl ⟨by omega, by omega⟩ ⟨by omega, by omega⟩ (fun hc6 => ?_) (fun hc6 => ?_)
    · refine lv_iload_n hx hb d_Pre_checkN_16 rfl (lv_at hl 0 rfl) ?_
      exact z_iret hx hb hr hlk hS (zR_st (zSt_of hP)) ⟨rfl, hw⟩ d_Pre_checkN_17
    · exfalso
      omega
theorem d_Pre_checkR_0 : decode b_jdk_internal_util_Preconditions_checkIndex 0 = .ok (.iload_n 0, 1) := by decide +kernel
theorem d_Pre_checkR_1 : decode b_jdk_internal_util_Preconditions_checkIndex 1 = .ok (.ifCond .lt (8), 3) := by decide +kernel
theorem d_Pre_checkR_4 : decode b_jdk_internal_util_Preconditions_checkIndex 4 = .ok (.iload_n 0, 1) := by decide +kernel
theorem d_Pre_checkR_5 : decode b_jdk_internal_util_Preconditions_checkIndex 5 = .ok (.iload_n 1, 1) := by decide +kernel
theorem d_Pre_checkR_6 : decode b_jdk_internal_util_Preconditions_checkIndex 6 = .ok (.if_icmp .lt (10), 3) := by decide +kernel
theorem d_Pre_checkR_16 : decode b_jdk_internal_util_Preconditions_checkIndex 16 = .ok (.iload_n 0, 1) := by decide +kernel
theorem d_Pre_checkR_17 : decode b_jdk_internal_util_Preconditions_checkIndex 17 = .ok (.ireturn, 1) := by decide +kernel
set_option maxHeartbeats 4000000 in
set_option maxRecDepth 100000 in
theorem c_Pre_checkR (l : Launch) (A : Nat → Prop) (P : State → Heap → Prop) (hP : zSa P) (i n : Int) (fq : Nat) (hi : 0 ≤ i ∧ i < n ∧ n ≤ 2147483647) : Ct l y_jdk_internal_util_Preconditions_checkIndex (ws_jdk_internal_util_Preconditions_checkIndex) 0 A [.int (iz i), .int (iz n), .ref fq] (P) (zR (some (.int (iz i))) P) := by
  refine z_body (zSt_of hP) (by decide +kernel) rfl (Nat.le_of_ble_eq_true rfl) ?_
  intro p e s m args below meth c ls hx hb hml hr hlk hts0 hown hpre0 H locs hpre hS hl
  have hts : ∀ w ∈ TBL, w.before args s = true := fun w hw => hts0 w (List.mem_cons_of_mem _ hw)
  have hl : lv_has ls 3 [(0, .int (iz i)), (1, .int (iz n)), (2, .ref fq)] := hl
  have hw := hpre
  refine lv_iload_n hx hb d_Pre_checkR_0 rfl (lv_at hl 0 rfl) ?_
  refine z_if_lt (tgt := 9) hx hb d_Pre_checkR_1 rfl ⟨by omega, by omega⟩ (fun hc1 => ?_) (fun hc1 => ?_)
  · exfalso
    omega
  · refine lv_iload_n hx hb d_Pre_checkR_4 rfl (lv_at hl 0 rfl) ?_
    refine lv_iload_n hx hb d_Pre_checkR_5 rfl (lv_at hl 1 rfl) ?_
    refine z_icmp_lt (tgt := 16) hx hb d_Pre_checkR_6 rfl ⟨by omega, by omega⟩ ⟨by omega, by omega⟩ (fun hc6 => ?_) (fun hc6 => ?_)
    · refine lv_iload_n hx hb d_Pre_checkR_16 rfl (lv_at hl 0 rfl) ?_
      exact z_iret hx hb hr hlk hS (zR_st (zSt_of hP)) ⟨rfl, hw⟩ d_Pre_checkR_17
    · exfalso
      omega
theorem c_Pre_check (l : Launch) (A : Nat → Prop) (P : State → Heap → Prop) (hP : zSa P) (i n : Int) (fv : Value) (hfv : fv = .null ∨ ∃ q, fv = .ref q) (hi : 0 ≤ i ∧ i < n ∧ n ≤ 2147483647) : Ct l y_jdk_internal_util_Preconditions_checkIndex (ws_jdk_internal_util_Preconditions_checkIndex) 0 A [.int (iz i), .int (iz n), fv] P (zR (some (.int (iz i))) P) := by
  rcases hfv with rfl | ⟨q, rfl⟩
  · exact c_Pre_checkN l A P hP i n hi
  · exact c_Pre_checkR l A P hP i n q hi
theorem d_St_coder_0 : decode b_St_coder 0 = .ok (.getstatic 38, 3) := by decide +kernel
theorem d_St_coder_3 : decode b_St_coder 3 = .ok (.ifCond .eq (10), 3) := by decide +kernel
theorem d_St_coder_6 : decode b_St_coder 6 = .ok (.aload_n 0, 1) := by decide +kernel
theorem d_St_coder_7 : decode b_St_coder 7 = .ok (.getfield 15, 3) := by decide +kernel
theorem d_St_coder_10 : decode b_St_coder 10 = .ok (.goto (4), 3) := by decide +kernel
theorem d_St_coder_14 : decode b_St_coder 14 = .ok (.ireturn, 1) := by decide +kernel
set_option maxHeartbeats 4000000 in
set_option maxRecDepth 100000 in
theorem c_St_coder (l : Launch) (A : Nat → Prop) (P : State → Heap → Prop) (hP : zSa P) (sk sv : Nat) (bs : List Int) (hPS : ∀ U H, P U H → SStr A sk sv bs U H) (hbs : bs.length ≤ 100 ∧ ∀ ch ∈ bs, 0 ≤ ch ∧ ch < 128)  : Ct l y_St_coder (ws_St_coder) 0 A [.ref sk] (P) (zR (some (.int (iz 0))) P) := by
  refine z_body (zSt_of hP) (by decide +kernel) rfl (Nat.le_of_ble_eq_true rfl) ?_
  intro p e s m args below meth c ls hx hb hml hr hlk hts0 hown hpre0 H locs hpre hS hl
  have hts : ∀ w ∈ TBL, w.before args s = true := fun w hw => hts0 w (List.mem_cons_of_mem _ hw)
  have hl : lv_has ls 1 [(0, .ref sk)] := hl
  have hw := hpre
  have hss := hPS s s.heap hpre0
  obtain ⟨hO, hco, hva, hvt, hcs, hzq⟩ := hss
  have hbl := hbs.1
  refine va_gets hx hb hcs hS hown (hts _ tw_185) (fun _ h9 => h9) d_St_coder_0 ?_
  refine z_if_eq (tgt := 13) hx hb d_St_coder_3 rfl ⟨by omega, by omega⟩ (fun hc3 => ?_) (fun hc3 => ?_)
  · exfalso
    omega
  · refine lv_aload_n hx hb d_St_coder_6 rfl (lv_at hl 0 rfl) ?_
    refine vk_getf hx hb hco hS hown (hts _ tw_535) (fun _ h9 => h9) d_St_coder_7 ?_
    refine lv_goto (tgt := 14) hx hb d_St_coder_10 rfl ?_
    exact z_zret hx hb hr rfl hlk hS (zR_st (zSt_of hP)) ⟨rfl, hw⟩ d_St_coder_14
theorem d_St_isLatin1_0 : decode b_St_isLatin1 0 = .ok (.getstatic 38, 3) := by decide +kernel
theorem d_St_isLatin1_3 : decode b_St_isLatin1 3 = .ok (.ifCond .eq (14), 3) := by decide +kernel
theorem d_St_isLatin1_6 : decode b_St_isLatin1 6 = .ok (.aload_n 0, 1) := by decide +kernel
theorem d_St_isLatin1_7 : decode b_St_isLatin1 7 = .ok (.getfield 15, 3) := by decide +kernel
theorem d_St_isLatin1_10 : decode b_St_isLatin1 10 = .ok (.ifCond .ne (7), 3) := by decide +kernel
theorem d_St_isLatin1_13 : decode b_St_isLatin1 13 = .ok (.iconst 1, 1) := by decide +kernel
theorem d_St_isLatin1_14 : decode b_St_isLatin1 14 = .ok (.goto (4), 3) := by decide +kernel
theorem d_St_isLatin1_18 : decode b_St_isLatin1 18 = .ok (.ireturn, 1) := by decide +kernel
set_option maxHeartbeats 4000000 in
set_option maxRecDepth 100000 in
theorem c_St_isLatin1 (l : Launch) (A : Nat → Prop) (P : State → Heap → Prop) (hP : zSa P) (sk sv : Nat) (bs : List Int) (hPS : ∀ U H, P U H → SStr A sk sv bs U H) (hbs : bs.length ≤ 100 ∧ ∀ ch ∈ bs, 0 ≤ ch ∧ ch < 128)  : Ct l y_St_isLatin1 (ws_St_isLatin1) 0 A [.ref sk] (P) (zR (some (.int (iz 1))) P) := by
  refine z_body (zSt_of hP) (by decide +kernel) rfl (Nat.le_of_ble_eq_true rfl) ?_
  intro p e s m args below meth c ls hx hb hml hr hlk hts0 hown hpre0 H locs hpre hS hl
  have hts : ∀ w ∈ TBL, w.before args s = true := fun w hw => hts0 w (List.mem_cons_of_mem _ hw)
  have hl : lv_has ls 1 [(0, .ref sk)] := hl
  have hw := hpre
  have hss := hPS s s.heap hpre0
  obtain ⟨hO, hco, hva, hvt, hcs, hzq⟩ := hss
  have hbl := hbs.1
  refine va_gets hx hb hcs hS hown (hts _ tw_185) (fun _ h9 => h9) d_St_isLatin1_0 ?_
  refine z_if_eq (tgt := 17) hx hb d_St_isLatin1_3 rfl ⟨by omega, by omega⟩ (fun hc3 => ?_) (fun hc3 => ?_)
  · exfalso
    omega
  · refine lv_aload_n hx hb d_St_isLatin1_6 rfl (lv_at hl 0 rfl) ?_
    refine vk_getf hx hb hco hS hown (hts _ tw_535) (fun _ h9 => h9) d_St_isLatin1_7 ?_
    refine z_if_ne (tgt := 17) hx hb d_St_isLatin1_10 rfl ⟨by omega, by omega⟩ (fun hc10 => ?_) (fun hc10 => ?_)
    · exfalso
      omega
    · refine lv_iconst (v := iz 1) hx hb d_St_isLatin1_13 rfl ?_
      refine lv_goto (tgt := 18) hx hb d_St_isLatin1_14 rfl ?_
      exact z_zret hx hb hr rfl hlk hS (zR_st (zSt_of hP)) ⟨rfl, hw⟩ d_St_isLatin1_18
theorem d_St_length_0 : decode b_St_length 0 = .ok (.aload_n 0, 1) := by decide +kernel
theorem d_St_length_1 : decode b_St_length 1 = .ok (.getfield 9, 3) := by decide +kernel
theorem d_St_length_4 : decode b_St_length 4 = .ok (.arraylength, 1) := by decide +kernel
theorem d_St_length_5 : decode b_St_length 5 = .ok (.aload_n 0, 1) := by decide +kernel
theorem d_St_length_6 : decode b_St_length 6 = .ok (.invokevirtual 335, 3) := by decide +kernel
theorem d_St_length_9 : decode b_St_length 9 = .ok (.ishr, 1) := by decide +kernel
theorem d_St_length_10 : decode b_St_length 10 = .ok (.ireturn, 1) := by decide +kernel
set_option maxHeartbeats 4000000 in
set_option maxRecDepth 100000 in
theorem c_St_length (l : Launch) (A : Nat → Prop) (P : State → Heap → Prop) (hP : zSa P) (sk sv : Nat) (bs : List Int) (hPS : ∀ U H, P U H → SStr A sk sv bs U H) (hbs : bs.length ≤ 100 ∧ ∀ ch ∈ bs, 0 ≤ ch ∧ ch < 128)  : Ct l y_St_length (ws_St_length) 1 A [.ref sk] (P) (zR (some (.int (iz (bs.length : Int)))) P) := by
  refine z_body (zSt_of hP) (by decide +kernel) rfl (Nat.le_of_ble_eq_true rfl) ?_
  intro p e s m args below meth c ls hx hb hml hr hlk hts0 hown hpre0 H locs hpre hS hl
  have hts : ∀ w ∈ TBL, w.before args s = true := fun w hw => hts0 w (List.mem_cons_of_mem _ hw)
  have hl : lv_has ls 1 [(0, .ref sk)] := hl
  have hw := hpre
  have hss := hPS s s.heap hpre0
  obtain ⟨hO, hco, hva, hvt, hcs, hzq⟩ := hss
  have hbl := hbs.1
  refine lv_aload_n hx hb d_St_length_0 rfl (lv_at hl 0 rfl) ?_
  refine vk_getf hx hb hva hS hown (hts _ tw_534) (fun _ h9 => h9) d_St_length_1 ?_
  refine va_tlen (v := iz (bs.length : Int)) hx hb hvt hS (Int32.ofInt_eq_ofNat).symm d_St_length_4 ?_
  refine lv_aload_n hx hb d_St_length_5 rfl (lv_at hl 0 rfl) ?_
  have hct := c_St_coder l A P hP sk sv bs hPS hbs
  refine z_go (va_runV (As := []) (rest := [.int (iz (bs.length : Int))]) ⟨hx, hb, hml, hown, hts⟩ hct.2 (z_cwV hts w_St_coder tw_181 (by decide)) (z_preV hct.1 (by obtain ⟨cell, h1, h2, h3, -⟩ := hO.kept hS.2.1; exact ⟨cell, h1, h2, h3⟩) hw) rfl rfl hl.1 rfl (lv_room (Nat.le_of_ble_eq_true rfl)) d_St_length_6 ⟨Nat.zero_le _, Nat.zero_le _⟩) hS (fun _ h9 => h9) (fun v9 t9 H locs hv9 hp9 hz9 hk9 hS => ?_)
  obtain ⟨rfl, hw⟩ := hp9
  have hw := hP _ s _ hv9.symm hw
  refine W.eq (g2 := F0 m 9 ls [.int (iz 0), .int (iz (bs.length : Int))]) rfl ?_
  refine lv_ishr hx hb d_St_length_9 ?_
  refine z_topi (y := iz (bs.length : Int)) (by exact sb_shr0 _) ?_
  exact z_iret hx hb hr hlk hS (zR_st (zSt_of hP)) ⟨rfl, hw⟩ d_St_length_10
theorem d_St_check_0 : decode b_St_checkIndex 0 = .ok (.iload_n 0, 1) := by decide +kernel
theorem d_St_check_1 : decode b_St_checkIndex 1 = .ok (.iload_n 1, 1) := by decide +kernel
theorem d_St_check_2 : decode b_St_checkIndex 2 = .ok (.getstatic 1053, 3) := by decide +kernel
theorem d_St_check_5 : decode b_St_checkIndex 5 = .ok (.invokestatic 1059, 3) := by decide +kernel
theorem d_St_check_8 : decode b_St_checkIndex 8 = .ok (.pop, 1) := by decide +kernel
theorem d_St_check_9 : decode b_St_checkIndex 9 = .ok (.return_, 1) := by decide +kernel
set_option maxHeartbeats 4000000 in
set_option maxRecDepth 100000 in
theorem c_St_check (l : Launch) (A : Nat → Prop) (P : State → Heap → Prop) (hP : zSa P) (hPZ : ∀ U H, P U H → va_Zq "jdk/internal/util/Preconditions" "SIOOBE_FORMATTER" "Ljava/util/function/BiFunction;" A U H) (i n : Int) (hi : 0 ≤ i ∧ i < n ∧ n ≤ 2147483647) : Ct l y_St_checkIndex (ws_St_checkIndex) 1 A [.int (iz i), .int (iz n)] (P) (zR none P) := by
  refine z_body (zSt_of hP) (by decide +kernel) rfl (Nat.le_of_ble_eq_true rfl) ?_
  intro p e s m args below meth c ls hx hb hml hr hlk hts0 hown hpre0 H locs hpre hS hl
  have hts : ∀ w ∈ TBL, w.before args s = true := fun w hw => hts0 w (List.mem_cons_of_mem _ hw)
  have hl : lv_has ls 2 [(0, .int (iz i)), (1, .int (iz n))] := hl
  have hw := hpre
  obtain ⟨fv, hfz, hfv⟩ := Zq_val (hPZ s s.heap hpre0)
  refine lv_iload_n hx hb d_St_check_0 rfl (lv_at hl 0 rfl) ?_
  refine lv_iload_n hx hb d_St_check_1 rfl (lv_at hl 1 rfl) ?_
  refine va_gets hx hb hfz hS hown (hts _ tw_201) (fun _ h9 => h9) d_St_check_2 ?_
  have hct := c_Pre_check l A P hP i n fv hfv hi
  refine z_go (va_runS (As := [.int (iz i), .int (iz n), fv]) (rest := []) ⟨hx, hb, hml, hown, hts⟩ hct.2 (z_cwS hts w_jdk_internal_util_Preconditions_checkIndex tw_203 (by decide)) (z_preS hct.1 hw) rfl rfl hl.1 rfl (lv_room (Nat.le_of_ble_eq_true rfl)) d_St_check_5 ⟨Nat.zero_le _, Nat.zero_le _⟩) hS (fun _ h9 => h9) (fun v9 t9 H locs hv9 hp9 hz9 hk9 hS => ?_)
  obtain ⟨rfl, hw⟩ := hp9
  have hw := hP _ s _ hv9.symm hw
  refine W.eq (g2 := F0 m 8 ls [.int (iz i)]) rfl ?_
  refine lv_pop hx hb d_St_check_8 rfl ?_
  exact z_vret hx hb hr hlk hS (zR_st (zSt_of hP)) ⟨rfl, hw⟩ d_St_check_9
theorem d_Sl_charAt_0 : decode b_Sl_charAt 0 = .ok (.iload_n 1, 1) := by decide +kernel
theorem d_Sl_charAt_1 : decode b_Sl_charAt 1 = .ok (.aload_n 0, 1) := by decide +kernel
theorem d_Sl_charAt_2 : decode b_Sl_charAt 2 = .ok (.arraylength, 1) := by decide +kernel
theorem d_Sl_charAt_3 : decode b_Sl_charAt 3 = .ok (.invokestatic 9, 3) := by decide +kernel
theorem d_Sl_charAt_6 : decode b_Sl_charAt 6 = .ok (.aload_n 0, 1) := by decide +kernel
theorem d_Sl_charAt_7 : decode b_Sl_charAt 7 = .ok (.iload_n 1, 1) := by decide +kernel
theorem d_Sl_charAt_8 : decode b_Sl_charAt 8 = .ok (.baload, 1) := by decide +kernel
theorem d_Sl_charAt_9 : decode b_Sl_charAt 9 = .ok (.sipush (255), 3) := by decide +kernel
theorem d_Sl_charAt_12 : decode b_Sl_charAt 12 = .ok (.iand, 1) := by decide +kernel
theorem d_Sl_charAt_13 : decode b_Sl_charAt 13 = .ok (.i2c, 1) := by decide +kernel
theorem d_Sl_charAt_14 : decode b_Sl_charAt 14 = .ok (.ireturn, 1) := by decide +kernel
set_option maxHeartbeats 4000000 in
set_option maxRecDepth 100000 in
theorem c_Sl_charAt (l : Launch) (A : Nat → Prop) (P : State → Heap → Prop) (hP : zSa P) (sk sv : Nat) (bs : List Int) (hPS : ∀ U H, P U H → SStr A sk sv bs U H) (hbs : bs.length ≤ 100 ∧ ∀ ch ∈ bs, 0 ≤ ch ∧ ch < 128) (i : Int) (hi : 0 ≤ i ∧ i < (bs.length : Int)) : Ct l y_Sl_charAt (ws_Sl_charAt) 2 A [.ref sv, .int (iz i)] (P) (zR (some (.int (iz (bs.getD i.toNat 0)))) P) := by
  refine z_body (zSt_of hP) (by decide +kernel) rfl (Nat.le_of_ble_eq_true rfl) ?_
  intro p e s m args below meth c ls hx hb hml hr hlk hts0 hown hpre0 H locs hpre hS hl
  have hts : ∀ w ∈ TBL, w.before args s = true := fun w hw => hts0 w (List.mem_cons_of_mem _ hw)
  have hl : lv_has ls 2 [(0, .ref sv), (1, .int (iz i))] := hl
  have hw := hpre
  have hss := hPS s s.heap hpre0
  obtain ⟨hO, hco, hva, hvt, hcs, hzq⟩ := hss
  have hbl := hbs.1
  refine lv_iload_n hx hb d_Sl_charAt_0 rfl (lv_at hl 1 rfl) ?_
  refine lv_aload_n hx hb d_Sl_charAt_1 rfl (lv_at hl 0 rfl) ?_
  refine va_tlen (v := iz (bs.length : Int)) hx hb hvt hS (Int32.ofInt_eq_ofNat).symm d_Sl_charAt_2 ?_
  have hct := c_St_check l A P hP (fun U H h => (hPS U H h).2.2.2.2.2) i (bs.length : Int) ⟨hi.1, hi.2, by omega⟩
  refine z_go (va_runS (As := [.int (iz i), .int (iz (bs.length : Int))]) (rest := []) ⟨hx, hb, hml, hown, hts⟩ hct.2 (z_cwS hts w_St_checkIndex tw_198 (by decide)) (z_preS hct.1 hw) rfl rfl hl.1 rfl (lv_room (Nat.le_of_ble_eq_true rfl)) d_Sl_charAt_3 ⟨Nat.zero_le _, Nat.zero_le _⟩) hS (fun _ h9 => h9) (fun v9 t9 H locs hv9 hp9 hz9 hk9 hS => ?_)
  obtain ⟨rfl, hw⟩ := hp9
  have hw := hP _ s _ hv9.symm hw
  refine W.eq (g2 := F0 m 6 ls []) rfl ?_
  refine lv_aload_n hx hb d_Sl_charAt_6 rfl (lv_at hl 0 rfl) ?_
  refine lv_iload_n hx hb d_Sl_charAt_7 rfl (lv_at hl 1 rfl) ?_
  have hgr := tx_getD hbs.2 i.toNat
  refine va_tb (v := .int (iz (bs.getD i.toNat 0))) hx hb hvt hS (iz_in (by omega) (by omega) (by omega)) (by rw [iz_cl (by omega) (by omega)]) d_Sl_charAt_8 ?_
  refine lv_sipush (v := iz 255) hx hb d_Sl_charAt_9 (by decide) ?_
  refine lv_iand hx hb d_Sl_charAt_12 ?_
  refine z_topi (y := iz (bs.getD i.toNat 0)) (and255 hgr) ?_
  refine z_i2c hx hb d_Sl_charAt_13 ⟨by omega, by omega⟩ ?_
  exact z_zret hx hb hr (nar_char hgr) hlk hS (zR_st (zSt_of hP)) ⟨rfl, hw⟩ d_Sl_charAt_14
theorem d_St_charAt_0 : decode b_St_charAt 0 = .ok (.aload_n 0, 1) := by decide +kernel
theorem d_St_charAt_1 : decode b_St_charAt 1 = .ok (.invokevirtual 492, 3) := by decide +kernel
theorem d_St_charAt_4 : decode b_St_charAt 4 = .ok (.ifCond .eq (12), 3) := by decide +kernel
theorem d_St_charAt_7 : decode b_St_charAt 7 = .ok (.aload_n 0, 1) := by decide +kernel
theorem d_St_charAt_8 : decode b_St_charAt 8 = .ok (.getfield 9, 3) := by decide +kernel
theorem d_St_charAt_11 : decode b_St_charAt 11 = .ok (.iload_n 1, 1) := by decide +kernel
theorem d_St_charAt_12 : decode b_St_charAt 12 = .ok (.invokestatic 495, 3) := by decide +kernel
theorem d_St_charAt_15 : decode b_St_charAt 15 = .ok (.ireturn, 1) := by decide +kernel
set_option maxHeartbeats 4000000 in
set_option maxRecDepth 100000 in
theorem c_St_charAt (l : Launch) (A : Nat → Prop) (P : State → Heap → Prop) (hP : zSa P) (sk sv : Nat) (bs : List Int) (hPS : ∀ U H, P U H → SStr A sk sv bs U H) (hbs : bs.length ≤ 100 ∧ ∀ ch ∈ bs, 0 ≤ ch ∧ ch < 128) (i : Int) (hi : 0 ≤ i ∧ i < (bs.length : Int)) : Ct l y_St_charAt (ws_St_charAt) 3 A [.ref sk, .int (iz i)] (P) (zR (some (.int (iz (bs.getD i.toNat 0)))) P) := by
  refine z_body (zSt_of hP) (by decide +kernel) rfl (Nat.le_of_ble_eq_true rfl) ?_
  intro p e s m args below meth c ls hx hb hml hr hlk hts0 hown hpre0 H locs hpre hS hl
  have hts : ∀ w ∈ TBL, w.before args s = true := fun w hw => hts0 w (List.mem_cons_of_mem _ hw)
  have hl : lv_has ls 2 [(0, .ref sk), (1, .int (iz i))] := hl
  have hw := hpre
  have hss := hPS s s.heap hpre0
  obtain ⟨hO, hco, hva, hvt, hcs, hzq⟩ := hss
  have hbl := hbs.1
  refine lv_aload_n hx hb d_St_charAt_0 rfl (lv_at hl 0 rfl) ?_
  have hct := c_St_isLatin1 l A P hP sk sv bs hPS hbs
  refine z_go (va_runV (As := []) (rest := []) ⟨hx, hb, hml, hown, hts⟩ hct.2 (z_cwV hts w_St_isLatin1 tw_191 (by decide)) (z_preV hct.1 (by obtain ⟨cell, h1, h2, h3, -⟩ := hO.kept hS.2.1; exact ⟨cell, h1, h2, h3⟩) hw) rfl rfl hl.1 rfl (lv_room (Nat.le_of_ble_eq_true rfl)) d_St_charAt_1 ⟨Nat.zero_le _, Nat.zero_le _⟩) hS (fun _ h9 => h9) (fun v9 t9 H locs hv9 hp9 hz9 hk9 hS => ?_)
  obtain ⟨rfl, hw⟩ := hp9
  have hw := hP _ s _ hv9.symm hw
  refine W.eq (g2 := F0 m 4 ls [.int (iz 1)]) rfl ?_
  refine z_if_eq (tgt := 16) hx hb d_St_charAt_4 rfl ⟨by omega, by omega⟩ (fun hc4 => ?_) (fun hc4 => ?_)
  · exfalso
    omega
  · refine lv_aload_n hx hb d_St_charAt_7 rfl (lv_at hl 0 rfl) ?_
    refine vk_getf hx hb hva hS hown (hts _ tw_534) (fun _ h9 => h9) d_St_charAt_8 ?_
    refine lv_iload_n hx hb d_St_charAt_11 rfl (lv_at hl 1 rfl) ?_
    have hct := c_Sl_charAt l A P hP sk sv bs hPS hbs i hi
    refine z_go (va_runS (As := [.ref sv, .int (iz i)]) (rest := []) ⟨hx, hb, hml, hown, hts⟩ hct.2 (z_cwS hts w_Sl_charAt tw_195 (by decide)) (z_preS hct.1 hw) rfl rfl hl.1 rfl (lv_room (Nat.le_of_ble_eq_true rfl)) d_St_charAt_12 ⟨Nat.zero_le _, Nat.zero_le _⟩) hS (fun _ h9 => h9) (fun v9 t9 H locs hv9 hp9 hz9 hk9 hS => ?_)
    obtain ⟨rfl, hw⟩ := hp9
    have hw := hP _ s _ hv9.symm hw
    refine W.eq (g2 := F0 m 15 ls [.int (iz (bs.getD i.toNat 0))]) rfl ?_
    have hgr := tx_getD hbs.2 i.toNat
    exact z_zret hx hb hr (nar_char hgr) hlk hS (zR_st (zSt_of hP)) ⟨rfl, hw⟩ d_St_charAt_15
