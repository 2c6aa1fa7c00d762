theorem pv_z (n : Nat) : pv (fun _ => 0) n = 0 := by
  induction n with
  | zero => rfl
  | succ n ih =>
    show pv (fun _ => 0) n * 1000000000 + 0 = 0
    rw [ih]
    rfl
theorem dec_z : DecOK (fun _ => 0) 34 34 0 := ⟨⟨by decide, by decide, by decide⟩, fun _ => ⟨by show (0 : Int) ≤ 0; decide, by show (0 : Int) < 1000000000; decide⟩, fun _ _ => rfl, pv_z 155⟩
theorem row_z : RowOK (fun _ => 0) 0 0 0 := ⟨⟨by decide, by decide, by decide, by decide⟩, fun i _ _ => ⟨by show (0 : Int) ≤ 0; decide, by show (0 : Int) ≤ 9; decide⟩, fun h => absurd h (by decide), by show (0 : Int) = 0 * _; rw [Int.zero_mul]⟩
theorem lw_htr {l : Launch} (h : l.flags = flags0) : ∀ e : Env, l.admits e → e.platform.stackTraces = false := fun e ha => by
  have h1 := ha.2.2.2.2.1
  rw [h1]
  show l.stackTraces = false
  unfold Launch.stackTraces
  rw [h]
  decide +kernel
theorem va_D.toA {A B : Nat → Prop} {ws : va_W} (h : va_D A ws) (hB : ∀ (k : Nat) (q : Nat × va_E), ws[k]? = some q → B q.1) : va_D B ws := ⟨h.1, hB⟩
theorem d_law_0 : decode code 0 = .ok (.new 8, 3) := by decide +kernel
theorem d_law_3 : decode code 3 = .ok (.dup, 1) := by decide +kernel
theorem d_law_4 : decode code 4 = .ok (.invokespecial 25, 3) := by decide +kernel
theorem d_law_7 : decode code 7 = .ok (.astore_n 1, 1) := by decide +kernel
theorem d_law_8 : decode code 8 = .ok (.new 26, 3) := by decide +kernel
theorem d_law_11 : decode code 11 = .ok (.dup, 1) := by decide +kernel
theorem d_law_12 : decode code 12 = .ok (.invokespecial 28, 3) := by decide +kernel
theorem d_law_15 : decode code 15 = .ok (.astore_n 2, 1) := by decide +kernel
theorem d_law_16 : decode code 16 = .ok (.iconst 1, 1) := by decide +kernel
theorem d_law_17 : decode code 17 = .ok (.newarray .long, 2) := by decide +kernel
theorem d_law_19 : decode code 19 = .ok (.astore_n 3, 1) := by decide +kernel
theorem d_law_20 : decode code 20 = .ok (.iconst 0, 1) := by decide +kernel
theorem d_law_21 : decode code 21 = .ok (.istore 4, 2) := by decide +kernel
set_option maxHeartbeats 4000000 in
set_option maxRecDepth 100000 in
theorem whole_start {p : Program} {e : Env} {s : State} {m : MethodId} {below : List Frame} {meth : Method} {c : Code} (l : Launch) (htr : ∀ e : Env, l.admits e → e.platform.stackTraces = false) {b L : Nat} {xs : Nat → Int32} (hL : L ≤ 3584) (C0 : lw_At p s m meth c b L xs) : W p l e room_1 s m #[Value.ref b] below meth c s.heap [] 0 0 (lw_Z below #[Value.ref b] s) (entryFrame m ([Value.ref b] : List Value).toArray 8) := by
  obtain ⟨hx, hb, hr, hml, hown, hts0, hXs, hbl, hlk, hgv⟩ := C0
  have hts : ∀ w ∈ TBL, w.before #[Value.ref b] s = true := fun w h => hts0 w (List.mem_filter.mp h).1
  have hown1 : s.vm.findClass "ExactNotationLaw" = some m.cls := hown
  obtain ⟨D, cI, cB, cL, hK⟩ := st_K hts
  obtain ⟨tt, ad, kI, vI, kN, vN, k57, k60, k46, gs⟩ := st_GS hts0 hgv
  have hnest : va_Nw (.methodLinkNest "ExactNotationModel" 15 y_Rw_init "ExactNotationModel") s := va_Nw.of rfl (hts0 _ (List.mem_append_right _ (List.mem_of_getElem? (i := 377) (by decide +kernel))))
  have hl := lv_entry ([Value.ref b]) (n := 8) (Nat.le_of_ble_eq_true rfl)
  rw [lg_entry_eq]
  generalize (lg_sl ([Value.ref b]) ++ List.replicate (8 - (lg_sl ([Value.ref b])).length) Slot.unset).toArray = ls at hl ⊢
  have hl : lv_has ls 8 [(0, .ref b)] := hl
  have hA : ∀ q, s.heap.size ≤ q → A0s s.heap.size q := fun q h => h
  have hS : va_S (A0s s.heap.size) s.heap s.heap [] := va_S.rf
  have hP : va_P D vwCl [] s.heap := fun k q hk => by cases hk
  have hD : va_D (A0s s.heap.size) [] := ⟨fun i j p9 q9 hi => (by cases hi), fun k q hk => (by cases hk)⟩
  refine va_new (D := D) (ci := 0) (fs := [.null, .null]) (C := R_0) (T := T_0) (N := 2) hx hb hts in_0 ty_0 tyok_0 hown1 (hts _ tw_19) (hts _ tw_20) (hts _ tw_1) hK hP hD hS hA rfl (fun j hj => by rcases j with _ | _ | j <;> first | rfl | (exfalso; omega)) (by decide) (by decide) d_law_0 (fun x H hP hD hS => ?_)
  have hP : va_P D vwCl [(x, .inr (0, [.null, .null]))] H := hP
  have hD : va_D (A0s s.heap.size) [(x, .inr (0, [.null, .null]))] := hD
  have hxA : A0s s.heap.size x := hD.2 0 _ rfl
  refine lv_dup hx hb d_law_3 rfl ?_
  have hct := c_EN_init l D cI cB x H.size
  refine l_go (va_runI (b := x) (As := []) (rest := [.ref x]) ⟨hx, hb, hml, hown1, hts⟩ hct.2 (n_cwI hts w_EN_init rfl tw_21 (by decide)) (z_preS hct.1 ⟨rfl, hP, hK.sub [0, 1] rfl⟩) rfl rfl hl.1 rfl (lv_room (Nat.le_of_ble_eq_true rfl)) d_law_4 (by decide)) hS (fun q h => h.elim (fun e9 => by rw [e9]; exact hxA) (fun h => Nat.le_trans hS.1 h)) (fun v9 t9 H1 locs hv9 hp9 hz9 hk9 hS1 => ?_)
  obtain ⟨rfl, d, la, t, ba, hP, hD5⟩ := hp9
  have hD : va_D (A0s s.heap.size) [(x, .inr (0, [.ref d, .ref t])), (d, .inr (1, [.ref la, .int (iz 34), .int (iz 34)])), (la, .inl (cI, 155, .inl (az (fun _ => 0)))), (t, .inr (2, [.ref ba, .int (iz 0)])), (ba, .inl (cB, 1612, .inl (az (fun _ => 0))))] := hD5.weaken (fun k q _ h => h.elim (fun e9 => by rw [e9]; exact hxA) (fun h => Nat.le_trans hS.1 h))
  clear hS
  have hS := hS1
  refine W.eq (g2 := F0 m 7 ls [.ref x]) rfl ?_
  refine lv_astore_n hx hb d_law_7 rfl hl (by decide) rfl (fun ls hl => ?_)
  have hl : lv_has ls 8 [(1, .ref x), (0, .ref b)] := hl
  refine va_new (D := D) (ci := 3) (fs := [.null, .int (iz 0), .int (iz 0), .null, .int (iz 0), .int (iz 0), .null, .int (iz 0), .null, .int (iz 0), .null]) (C := R_3) (T := T_3) (N := 11) hx hb hts in_3 ty_3 tyok_3 hown1 (hts _ tw_369) (hts _ tw_370) (hts _ tw_4) hK hP hD hS hA rfl (fun j hj => by rcases j with _ | _ | _ | _ | _ | _ | _ | _ | _ | _ | _ | j <;> first | rfl | (exfalso; omega)) (by decide) (by decide) d_law_8 (fun mo H2 hP2 hD2 hS2 => ?_)
  have hmA : A0s s.heap.size mo := hD2.2 5 _ rfl
  refine lv_dup hx hb d_law_11 rfl ?_
  have hct2 := c_Mo_init l D cB cL mo H2.size
  refine l_go (va_runI (b := mo) (As := []) (rest := [.ref mo]) ⟨hx, hb, hml, hown1, hts⟩ hct2.2 (n_cwI hts w_Mo_init rfl tw_371 (by decide)) (z_preS hct2.1 ⟨rfl, hP2.sub [5] rfl, hK.sub [1, 2] rfl, hnest⟩) rfl rfl hl.1 rfl (lv_room (Nat.le_of_ble_eq_true rfl)) d_law_12 (by decide)) hS2 (fun q h => h.elim (fun e9 => by rw [e9]; exact hmA) (fun h => Nat.le_trans hS2.1 h)) (fun v8 t8 H3 locs3 hv8 hp8 hz8 hk8 hS3 => ?_)
  obtain ⟨rfl, rs, ex, xd, li, bo, cu, cd, hP8, hD8⟩ := hp8
  have hlow : ∀ (k : Nat) (q : Nat × va_E), [(x, .inr (0, [.ref d, .ref t])), (d, .inr (1, [.ref la, .int (iz 34), .int (iz 34)])), (la, .inl (cI, 155, .inl (az (fun _ => 0)))), (t, .inr (2, [.ref ba, .int (iz 0)])), (ba, .inl (cB, 1612, .inl (az (fun _ => 0))))][k]? = some q → q.1 < H2.size ∧ q.1 ≠ mo := by
    intro k q hk
    have hk6 : ([(x, .inr (0, [.ref d, .ref t])), (d, .inr (1, [.ref la, .int (iz 34), .int (iz 34)])), (la, .inl (cI, 155, .inl (az (fun _ => 0)))), (t, .inr (2, [.ref ba, .int (iz 0)])), (ba, .inl (cB, 1612, .inl (az (fun _ => 0))))] ++ [((mo, .inr (3, [.null, .int (iz 0), .int (iz 0), .null, .int (iz 0), .int (iz 0), .null, .int (iz 0), .null, .int (iz 0), .null])) : Nat × va_E)])[k]? = some q := by
      rw [List.getElem?_append_left (List.getElem?_eq_some_iff.mp hk).1]
      exact hk
    refine ⟨(hP2 k q hk6).lt, fun e9 => ?_⟩
    have h9 := hD2.1 k 5 q _ hk6 rfl e9
    have h8 : k < 5 := (List.getElem?_eq_some_iff.mp hk).1
    omega
  have hP5 : va_P D vwCl [(x, .inr (0, [.ref d, .ref t])), (d, .inr (1, [.ref la, .int (iz 34), .int (iz 34)])), (la, .inl (cI, 155, .inl (az (fun _ => 0)))), (t, .inr (2, [.ref ba, .int (iz 0)])), (ba, .inl (cB, 1612, .inl (az (fun _ => 0))))] H3 := (hP2.sub (ws' := [(x, .inr (0, [.ref d, .ref t])), (d, .inr (1, [.ref la, .int (iz 34), .int (iz 34)])), (la, .inl (cI, 155, .inl (az (fun _ => 0)))), (t, .inr (2, [.ref ba, .int (iz 0)])), (ba, .inl (cB, 1612, .inl (az (fun _ => 0))))]) [0, 1, 2, 3, 4] rfl).kept (fun k q hk => hk8 q.1 (hlow k q hk).1 (fun h => h.elim (hlow k q hk).2 (fun h => absurd (hlow k q hk).1 (Nat.not_lt.mpr h))))
  have hD8w : va_D (A0s s.heap.size) [(mo, .inr (3, [.ref rs, .int (iz 0), .int (iz 0), .ref ex, .int (iz 0), .int (iz 0), .ref li, .int (iz 0), .ref bo, .int (iz 0), .ref cu])), (rs, .inl (cB, 4096, .inl (az (fun _ => 0)))), (ex, .inr (4, [.ref xd, .int (iz 0), .int (iz 0)])), (xd, .inl (cB, 1300, .inl (az (fun _ => 0)))), (li, .inl (cL, 160, .inr (.inl (azl (fun _ => 0))))), (bo, .inl (cB, 4096, .inl (az (fun _ => 0)))), (cu, .inr (4, [.ref cd, .int (iz 0), .int (iz 0)])), (cd, .inl (cB, 1300, .inl (az (fun _ => 0))))] := hD8.weaken (fun k q _ h => h.elim (fun e9 => by rw [e9]; exact hmA) (fun h => Nat.le_trans hS2.1 h))
  have hP13 : va_P D vwCl [(x, .inr (0, [.ref d, .ref t])), (d, .inr (1, [.ref la, .int (iz 34), .int (iz 34)])), (la, .inl (cI, 155, .inl (az (fun _ => 0)))), (t, .inr (2, [.ref ba, .int (iz 0)])), (ba, .inl (cB, 1612, .inl (az (fun _ => 0)))), (mo, .inr (3, [.ref rs, .int (iz 0), .int (iz 0), .ref ex, .int (iz 0), .int (iz 0), .ref li, .int (iz 0), .ref bo, .int (iz 0), .ref cu])), (rs, .inl (cB, 4096, .inl (az (fun _ => 0)))), (ex, .inr (4, [.ref xd, .int (iz 0), .int (iz 0)])), (xd, .inl (cB, 1300, .inl (az (fun _ => 0)))), (li, .inl (cL, 160, .inr (.inl (azl (fun _ => 0))))), (bo, .inl (cB, 4096, .inl (az (fun _ => 0)))), (cu, .inr (4, [.ref cd, .int (iz 0), .int (iz 0)])), (cd, .inl (cB, 1300, .inl (az (fun _ => 0))))] H3 := hP5.app hP8
  have hD13 : va_D (A0s s.heap.size) [(x, .inr (0, [.ref d, .ref t])), (d, .inr (1, [.ref la, .int (iz 34), .int (iz 34)])), (la, .inl (cI, 155, .inl (az (fun _ => 0)))), (t, .inr (2, [.ref ba, .int (iz 0)])), (ba, .inl (cB, 1612, .inl (az (fun _ => 0)))), (mo, .inr (3, [.ref rs, .int (iz 0), .int (iz 0), .ref ex, .int (iz 0), .int (iz 0), .ref li, .int (iz 0), .ref bo, .int (iz 0), .ref cu])), (rs, .inl (cB, 4096, .inl (az (fun _ => 0)))), (ex, .inr (4, [.ref xd, .int (iz 0), .int (iz 0)])), (xd, .inl (cB, 1300, .inl (az (fun _ => 0)))), (li, .inl (cL, 160, .inr (.inl (azl (fun _ => 0))))), (bo, .inl (cB, 4096, .inl (az (fun _ => 0)))), (cu, .inr (4, [.ref cd, .int (iz 0), .int (iz 0)])), (cd, .inl (cB, 1300, .inl (az (fun _ => 0))))] := va_D.app hD hD8w (fun i j p9 q9 hi hj e9 => (hD8.2 j q9 hj).elim (fun h => (hlow i p9 hi).2 (e9.trans h)) (fun h => absurd (hlow i p9 hi).1 (by rw [e9]; exact Nat.not_lt.mpr h)))
  refine W.eq (g2 := F0 m 15 ls [.ref mo]) rfl ?_
  refine lv_astore_n hx hb d_law_15 rfl hl (by decide) rfl (fun ls hl => ?_)
  have hl : lv_has ls 8 [(2, .ref mo), (1, .ref x), (0, .ref b)] := hl
  refine lv_iconst (v := iz 1) hx hb d_law_16 rfl ?_
  refine z_newa (atype := .long) (ty := .long) (n := 1) (a0 := (1, .inr (.inl (azl (fun _ => 0))))) hx hb rfl (hts _ tw_426) hK hP13 hD13 hS3 hA 2 rfl ra_l (a0_l 1) (by decide) (by decide) (by decide) (by decide) (by decide) d_law_17 (fun ou H4 hP14 hD14 hS4 => ?_)
  have hP14 : va_P D vwCl [(x, .inr (0, [.ref d, .ref t])), (d, .inr (1, [.ref la, .int (iz 34), .int (iz 34)])), (la, .inl (cI, 155, .inl (az (fun _ => 0)))), (t, .inr (2, [.ref ba, .int (iz 0)])), (ba, .inl (cB, 1612, .inl (az (fun _ => 0)))), (mo, .inr (3, [.ref rs, .int (iz 0), .int (iz 0), .ref ex, .int (iz 0), .int (iz 0), .ref li, .int (iz 0), .ref bo, .int (iz 0), .ref cu])), (rs, .inl (cB, 4096, .inl (az (fun _ => 0)))), (ex, .inr (4, [.ref xd, .int (iz 0), .int (iz 0)])), (xd, .inl (cB, 1300, .inl (az (fun _ => 0)))), (li, .inl (cL, 160, .inr (.inl (azl (fun _ => 0))))), (bo, .inl (cB, 4096, .inl (az (fun _ => 0)))), (cu, .inr (4, [.ref cd, .int (iz 0), .int (iz 0)])), (cd, .inl (cB, 1300, .inl (az (fun _ => 0)))), (ou, .inl (cL, 1, .inr (.inl (azl (fun _ => 0)))))] H4 := hP14
  have hD14 : va_D (A0s s.heap.size) [(x, .inr (0, [.ref d, .ref t])), (d, .inr (1, [.ref la, .int (iz 34), .int (iz 34)])), (la, .inl (cI, 155, .inl (az (fun _ => 0)))), (t, .inr (2, [.ref ba, .int (iz 0)])), (ba, .inl (cB, 1612, .inl (az (fun _ => 0)))), (mo, .inr (3, [.ref rs, .int (iz 0), .int (iz 0), .ref ex, .int (iz 0), .int (iz 0), .ref li, .int (iz 0), .ref bo, .int (iz 0), .ref cu])), (rs, .inl (cB, 4096, .inl (az (fun _ => 0)))), (ex, .inr (4, [.ref xd, .int (iz 0), .int (iz 0)])), (xd, .inl (cB, 1300, .inl (az (fun _ => 0)))), (li, .inl (cL, 160, .inr (.inl (azl (fun _ => 0))))), (bo, .inl (cB, 4096, .inl (az (fun _ => 0)))), (cu, .inr (4, [.ref cd, .int (iz 0), .int (iz 0)])), (cd, .inl (cB, 1300, .inl (az (fun _ => 0)))), (ou, .inl (cL, 1, .inr (.inl (azl (fun _ => 0)))))] := hD14
  refine lv_astore_n hx hb d_law_19 rfl hl (by decide) rfl (fun ls hl => ?_)
  have hl : lv_has ls 8 [(3, .ref ou), (2, .ref mo), (1, .ref x), (0, .ref b)] := hl
  refine lv_iconst (v := iz 0) hx hb d_law_20 rfl ?_
  refine lv_istore hx hb d_law_21 hl (by decide) rfl (fun ls hl => ?_)
  have hl : lv_has ls 8 [(4, .int (iz 0)), (3, .ref ou), (2, .ref mo), (1, .ref x), (0, .ref b)] := hl
  have hXa : ∀ q, AX x d la t ba q → ∃ (k : Nat) (z : Nat × va_E), k < 5 ∧ [(x, .inr (0, [.ref d, .ref t])), (d, .inr (1, [.ref la, .int (iz 34), .int (iz 34)])), (la, .inl (cI, 155, .inl (az (fun _ => 0)))), (t, .inr (2, [.ref ba, .int (iz 0)])), (ba, .inl (cB, 1612, .inl (az (fun _ => 0)))), (mo, .inr (3, [.ref rs, .int (iz 0), .int (iz 0), .ref ex, .int (iz 0), .int (iz 0), .ref li, .int (iz 0), .ref bo, .int (iz 0), .ref cu])), (rs, .inl (cB, 4096, .inl (az (fun _ => 0)))), (ex, .inr (4, [.ref xd, .int (iz 0), .int (iz 0)])), (xd, .inl (cB, 1300, .inl (az (fun _ => 0)))), (li, .inl (cL, 160, .inr (.inl (azl (fun _ => 0))))), (bo, .inl (cB, 4096, .inl (az (fun _ => 0)))), (cu, .inr (4, [.ref cd, .int (iz 0), .int (iz 0)])), (cd, .inl (cB, 1300, .inl (az (fun _ => 0)))), (ou, .inl (cL, 1, .inr (.inl (azl (fun _ => 0)))))][k]? = some z ∧ z.1 = q := by
    rintro q (rfl | rfl | rfl | rfl | rfl)
    · exact ⟨0, _, by decide, rfl, rfl⟩
    · exact ⟨1, _, by decide, rfl, rfl⟩
    · exact ⟨2, _, by decide, rfl, rfl⟩
    · exact ⟨3, _, by decide, rfl, rfl⟩
    · exact ⟨4, _, by decide, rfl, rfl⟩
  have hMa : ∀ q, AM mo rs ex xd li bo cu cd q → ∃ (k : Nat) (z : Nat × va_E), (5 ≤ k ∧ k < 13) ∧ [(x, .inr (0, [.ref d, .ref t])), (d, .inr (1, [.ref la, .int (iz 34), .int (iz 34)])), (la, .inl (cI, 155, .inl (az (fun _ => 0)))), (t, .inr (2, [.ref ba, .int (iz 0)])), (ba, .inl (cB, 1612, .inl (az (fun _ => 0)))), (mo, .inr (3, [.ref rs, .int (iz 0), .int (iz 0), .ref ex, .int (iz 0), .int (iz 0), .ref li, .int (iz 0), .ref bo, .int (iz 0), .ref cu])), (rs, .inl (cB, 4096, .inl (az (fun _ => 0)))), (ex, .inr (4, [.ref xd, .int (iz 0), .int (iz 0)])), (xd, .inl (cB, 1300, .inl (az (fun _ => 0)))), (li, .inl (cL, 160, .inr (.inl (azl (fun _ => 0))))), (bo, .inl (cB, 4096, .inl (az (fun _ => 0)))), (cu, .inr (4, [.ref cd, .int (iz 0), .int (iz 0)])), (cd, .inl (cB, 1300, .inl (az (fun _ => 0)))), (ou, .inl (cL, 1, .inr (.inl (azl (fun _ => 0)))))][k]? = some z ∧ z.1 = q := by
    rintro q (rfl | rfl | rfl | rfl | rfl | rfl | rfl | rfl)
    · exact ⟨5, _, by decide, rfl, rfl⟩
    · exact ⟨6, _, by decide, rfl, rfl⟩
    · exact ⟨7, _, by decide, rfl, rfl⟩
    · exact ⟨8, _, by decide, rfl, rfl⟩
    · exact ⟨9, _, by decide, rfl, rfl⟩
    · exact ⟨10, _, by decide, rfl, rfl⟩
    · exact ⟨11, _, by decide, rfl, rfl⟩
    · exact ⟨12, _, by decide, rfl, rfl⟩
  have dj : DJ s.heap.size x d la t ba ou mo rs ex xd li bo cu cd := by
    refine ⟨fun q h1 h2 => ?_, fun h1 => ?_, fun h1 => ?_, fun q h1 => ?_, fun q h1 => ?_, hD14.2 13 _ rfl⟩
    · obtain ⟨k1, z1, a1, b1, c1⟩ := hXa q h1
      obtain ⟨k2, z2, a2, b2, c2⟩ := hMa q h2
      have := hD14.1 k1 k2 z1 z2 b1 b2 (c1.trans c2.symm)
      omega
    · obtain ⟨k1, z1, a1, b1, c1⟩ := hXa ou h1
      have := hD14.1 k1 13 z1 _ b1 rfl c1
      omega
    · obtain ⟨k1, z1, a1, b1, c1⟩ := hMa ou h1
      have := hD14.1 k1 13 z1 _ b1 rfl c1
      omega
    · obtain ⟨k1, z1, a1, b1, c1⟩ := hXa q h1
      exact c1 ▸ hD14.2 k1 z1 b1
    · obtain ⟨k1, z1, a1, b1, c1⟩ := hMa q h1
      exact c1 ▸ hD14.2 k1 z1 b1
  have gs4 := gs.kept hS4.2.1
  have hDX : va_D (AX x d la t ba) [(x, .inr (0, [.ref d, .ref t])), (d, .inr (1, [.ref la, .int (iz 34), .int (iz 34)])), (la, .inl (cI, 155, .inl (az (fun _ => 0)))), (t, .inr (2, [.ref ba, .int (iz 0)])), (ba, .inl (cB, 1612, .inl (az (fun _ => 0))))] := hD.toA (fun k q hk => by
    rcases k with _ | _ | _ | _ | _ | k
    · cases hk; exact Or.inl rfl
    · cases hk; exact Or.inr (Or.inl rfl)
    · cases hk; exact Or.inr (Or.inr (Or.inl rfl))
    · cases hk; exact Or.inr (Or.inr (Or.inr (Or.inl rfl)))
    · cases hk; exact Or.inr (Or.inr (Or.inr (Or.inr rfl)))
    · cases hk)
  have hDM : va_D (AM mo rs ex xd li bo cu cd) [(mo, .inr (3, [.ref rs, .int (iz 0), .int (iz 0), .ref ex, .int (iz 0), .int (iz 0), .ref li, .int (iz 0), .ref bo, .int (iz 0), .ref cu])), (rs, .inl (cB, 4096, .inl (az (fun _ => 0)))), (ex, .inr (4, [.ref xd, .int (iz 0), .int (iz 0)])), (xd, .inl (cB, 1300, .inl (az (fun _ => 0)))), (li, .inl (cL, 160, .inr (.inl (azl (fun _ => 0))))), (bo, .inl (cB, 4096, .inl (az (fun _ => 0)))), (cu, .inr (4, [.ref cd, .int (iz 0), .int (iz 0)])), (cd, .inl (cB, 1300, .inl (az (fun _ => 0))))] := hD8.toA (fun k q hk => by
    rcases k with _ | _ | _ | _ | _ | _ | _ | _ | k
    · cases hk; exact Or.inl rfl
    · cases hk; exact Or.inr (Or.inl rfl)
    · cases hk; exact Or.inr (Or.inr (Or.inl rfl))
    · cases hk; exact Or.inr (Or.inr (Or.inr (Or.inl rfl)))
    · cases hk; exact Or.inr (Or.inr (Or.inr (Or.inr (Or.inl rfl))))
    · cases hk; exact Or.inr (Or.inr (Or.inr (Or.inr (Or.inr (Or.inl rfl)))))
    · cases hk; exact Or.inr (Or.inr (Or.inr (Or.inr (Or.inr (Or.inr (Or.inl rfl))))))
    · cases hk; exact Or.inr (Or.inr (Or.inr (Or.inr (Or.inr (Or.inr (Or.inr rfl))))))
    · cases hk)
  have hXO : XO D cI cB x d la t ba tt ad [] s H4 := ⟨0, 34, (fun _ => 0), 34, (fun _ => 0), 0, ⟨hK.sub [0, 1] rfl, hP14.sub [0, 1, 2, 3, 4] rfl, hDX⟩, dec_z, TxOK_nil, gs4.1.narrow dj.2.2.2.1⟩
  have hOU : OUw D cL ou (fun _ => 0) s H4 := ⟨hK.sub [2] rfl, hP14.sub [13] rfl⟩
  have hMR : MR D cB cL mo rs ex xd li bo cu cd 0 [] s H4 := ⟨0, 0, [], 0, 0, (fun _ => 0), 0, 0, ⟨0, 0, 0, (fun _ => 0), (fun _ => 0), (fun _ => 0), (fun _ => 0), 0, 0, ⟨hK.sub [1, 2] rfl, hP14.sub [5, 6, 7, 8, 9, 10, 11, 12] rfl, hDM⟩, TxM_nil, TxM_nil, row_z, ⟨by decide, by decide⟩, fun _ => ⟨by show (0 : Int) ≤ 0; decide, by show (0 : Int) < 1000000000; decide⟩⟩, row_z⟩
  refine l_widen (k9 := 14 + 0) (n9 := 12744 + 6 * 0) (by decide) (by decide) ?_
  exact law_loop l htr hL hx hb hr hlk hml hown hts hXs hbl D cI cB cL x d la t ba tt ad ou mo rs ex xd li bo cu cd kI vI kN vN k57 k60 k46 dj gs 0 0 [] (fun _ => 0) 0 H4 _ ls ⟨hXO, hOU, hMR⟩ hS4 (lv_sub hl [4, 3, 2, 1, 0] rfl) ⟨rfl, Nat.zero_le _⟩
