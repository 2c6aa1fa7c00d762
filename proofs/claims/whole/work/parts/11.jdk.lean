theorem tdiv9 (a : Int) : (0 ≤ a → a.tdiv 9 = a / 9) ∧ (a < 0 → a.tdiv 9 = -((-a) / 9)) := by
  refine ⟨fun h => Int.tdiv_eq_ediv_of_nonneg h, fun h => ?_⟩
  have h1 : (-a).tdiv 9 = (-a) / 9 := Int.tdiv_eq_ediv_of_nonneg (by omega)
  rw [Int.neg_tdiv] at h1
  omega
theorem iz_tdiv {a b : Int} (ha : iR a) (hb : 0 < b ∧ b ≤ 2147483647) : iz a / iz b = iz (a.tdiv b) := by
  refine (Int32.ofInt_tdiv ?_ ?_ ?_ ?_).symm
  · rw [Int32.toInt_minValue]; omega
  · rw [Int32.toInt_maxValue]; omega
  · rw [Int32.toInt_minValue]; omega
  · rw [Int32.toInt_maxValue]; omega
theorem iz_nn {z : Int32} : 0 ≤ z ↔ z.toBitVec.msb = false := by
  rw [Int32.le_iff_toInt_le, Int32.toInt_zero, BitVec.msb_eq_toInt, decide_eq_false_iff_not]
  show 0 ≤ z.toBitVec.toInt ↔ _
  omega
theorem xor9 {a : Int} (ha : iR a) : 0 ≤ iz a ^^^ iz 9 ↔ 0 ≤ a := by
  rw [iz_nn]
  show ((iz a).toBitVec ^^^ (iz 9).toBitVec).msb = false ↔ _
  rw [BitVec.msb_xor, show (iz 9).toBitVec.msb = false by decide, Bool.xor_false, ← iz_nn, ← iz_0, iz_le ⟨by omega, by omega⟩ ha]
section ZJ
variable {p : Program} {l : Launch} {e : Env} {R : Room} {s : State} {m : MethodId} {args : Array Value} {below : List Frame} {meth : Method} {c : Code} {H : Heap} {locs : List Loc} {cells slots : Nat} {Q : State → Prop} {cc : ByteArray} {pc : Nat} {ls : Array Slot} {rest : List Value}
theorem z_idivt (hx : p.tables.exec = Jvm.exec) (hb : c.code = cc) {a b : Int} (hdg : decode cc pc = .ok (.idiv, 1)) (ha : iR a) (hd : 0 < b ∧ b ≤ 2147483647) (k : W p l e R s m args below meth c H locs cells slots Q (F0 m (pc + 1) ls (.int (iz (a.tdiv b)) :: rest))) : W p l e R s m args below meth c H locs cells slots Q (F0 m pc ls (.int (iz b) :: .int (iz a) :: rest)) := by
  rw [← iz_tdiv ha hd] at k
  exact lv_idiv hx hb hdg (fun h => by rw [← iz_0, iz_eq ⟨by omega, by omega⟩ ⟨by omega, by omega⟩] at h; omega) k
theorem z_iremt (hx : p.tables.exec = Jvm.exec) (hb : c.code = cc) {a b : Int} (hdg : decode cc pc = .ok (.irem, 1)) (ha : iR a) (hd : 0 < b ∧ b ≤ 2147483647) (k : W p l e R s m args below meth c H locs cells slots Q (F0 m (pc + 1) ls (.int (iz (a - a.tdiv b * b)) :: rest))) : W p l e R s m args below meth c H locs cells slots Q (F0 m pc ls (.int (iz b) :: .int (iz a) :: rest)) := by
  rw [iz_sub, iz_mul, ← iz_tdiv ha hd] at k
  exact lv_irem hx hb hdg (fun h => by rw [← iz_0, iz_eq ⟨by omega, by omega⟩ ⟨by omega, by omega⟩] at h; omega) k
end ZJ
theorem va_at_arr {D : va_G} {cl : List vw_C} {a n : Nat} {cA : ClassId} {f g : Nat → Int32} {H : Heap} (h : va_at D cl (a, .inl (cA, n, .inl f)) H) (hf : ∀ j, j < n → f j = g j) : va_at D cl (a, .inl (cA, n, .inl g)) H := by
  show H[a]? = some (vp_cell cA (n, .inl g))
  have h : H[a]? = some (vp_cell cA (n, .inl f)) := h
  have e : (fun j : Fin n => Value.int (f j.val)) = (fun j : Fin n => Value.int (g j.val)) := funext fun j => by rw [hf j.val j.isLt]
  rw [h]
  show some ({ cls := cA, slots := Array.ofFn (fun j : Fin n => Value.int (f j.val)), vm := .none } : Cell) = _
  rw [e]
  rfl
theorem va_P_arr {D : va_G} {cl : List vw_C} {ws : va_W} {a n : Nat} {cA : ClassId} {f g : Nat → Int32} {H : Heap} (hP : va_P D cl ws H) (q0 : Nat) (h : ws[q0]? = some (a, .inl (cA, n, .inl f))) (hf : ∀ j, j < n → f j = g j) : va_P D cl (ws.set q0 (a, .inl (cA, n, .inl g))) H := by
  have hl := (List.getElem?_eq_some_iff.mp h).1
  intro k q hk
  by_cases hkp : k = q0
  · subst hkp
    rw [List.getElem?_set_self hl] at hk
    cases hk
    exact va_at_arr (hP k _ h) hf
  · rw [List.getElem?_set_ne (Ne.symm hkp)] at hk
    exact hP k q hk
theorem d_floorDiv_0 : decode b_Ma_floorDiv 0 = .ok (.iload_n 0, 1) := by decide +kernel
theorem d_floorDiv_1 : decode b_Ma_floorDiv 1 = .ok (.iload_n 1, 1) := by decide +kernel
theorem d_floorDiv_2 : decode b_Ma_floorDiv 2 = .ok (.idiv, 1) := by decide +kernel
theorem d_floorDiv_3 : decode b_Ma_floorDiv 3 = .ok (.istore_n 2, 1) := by decide +kernel
theorem d_floorDiv_4 : decode b_Ma_floorDiv 4 = .ok (.iload_n 0, 1) := by decide +kernel
theorem d_floorDiv_5 : decode b_Ma_floorDiv 5 = .ok (.iload_n 1, 1) := by decide +kernel
theorem d_floorDiv_6 : decode b_Ma_floorDiv 6 = .ok (.ixor, 1) := by decide +kernel
theorem d_floorDiv_7 : decode b_Ma_floorDiv 7 = .ok (.ifCond .ge (14), 3) := by decide +kernel
theorem d_floorDiv_10 : decode b_Ma_floorDiv 10 = .ok (.iload_n 2, 1) := by decide +kernel
theorem d_floorDiv_11 : decode b_Ma_floorDiv 11 = .ok (.iload_n 1, 1) := by decide +kernel
theorem d_floorDiv_12 : decode b_Ma_floorDiv 12 = .ok (.imul, 1) := by decide +kernel
theorem d_floorDiv_13 : decode b_Ma_floorDiv 13 = .ok (.iload_n 0, 1) := by decide +kernel
theorem d_floorDiv_14 : decode b_Ma_floorDiv 14 = .ok (.if_icmp .eq (7), 3) := by decide +kernel
theorem d_floorDiv_17 : decode b_Ma_floorDiv 17 = .ok (.iload_n 2, 1) := by decide +kernel
theorem d_floorDiv_18 : decode b_Ma_floorDiv 18 = .ok (.iconst 1, 1) := by decide +kernel
theorem d_floorDiv_19 : decode b_Ma_floorDiv 19 = .ok (.isub, 1) := by decide +kernel
theorem d_floorDiv_20 : decode b_Ma_floorDiv 20 = .ok (.ireturn, 1) := by decide +kernel
theorem d_floorDiv_21 : decode b_Ma_floorDiv 21 = .ok (.iload_n 2, 1) := by decide +kernel
theorem d_floorDiv_22 : decode b_Ma_floorDiv 22 = .ok (.ireturn, 1) := by decide +kernel
set_option maxHeartbeats 4000000 in
set_option maxRecDepth 100000 in
theorem c_floorDiv (l : Launch) (A : Nat → Prop) (P : State → Heap → Prop) (hP : zSa P) (pl : Int) (hpl : -100000 ≤ pl ∧ pl ≤ 100000) : Ct l y_Ma_floorDiv (ws_Ma_floorDiv) 0 A [.int (iz pl), .int (iz 9)] (P) (zR (some (.int (iz (pl / 9)))) P) := by
  refine z_body (zSt_of hP) (by decide +kernel) rfl (Nat.le_of_ble_eq_true rfl) ?_
  intro p e s m args below meth c ls hx hb hml hr hlk hts0 hown hpre0 H locs hpre hS hl
  have hts : ∀ w ∈ TBL, w.before args s = true := fun w hw => hts0 w (List.mem_cons_of_mem _ hw)
  have hl : lv_has ls 3 [(0, .int (iz pl)), (1, .int (iz 9))] := hl
  have hw := hpre
  refine lv_iload_n hx hb d_floorDiv_0 rfl (lv_at hl 0 rfl) ?_
  refine lv_iload_n hx hb d_floorDiv_1 rfl (lv_at hl 1 rfl) ?_
  refine z_idivt hx hb d_floorDiv_2 ⟨by omega, by omega⟩ ⟨by omega, by omega⟩ ?_
  refine lv_istore_n hx hb d_floorDiv_3 rfl hl (by decide) rfl (fun ls hl => ?_)
  have hl : lv_has ls 3 [(2, .int (iz (pl.tdiv 9))), (0, .int (iz pl)), (1, .int (iz 9))] := hl
  have hq := tdiv9 pl
  refine lv_iload_n hx hb d_floorDiv_4 rfl (lv_at hl 1 rfl) ?_
  refine lv_iload_n hx hb d_floorDiv_5 rfl (lv_at hl 2 rfl) ?_
  refine lv_ixor hx hb d_floorDiv_6 ?_
  refine lv_if_ge (tgt := 21) hx hb d_floorDiv_7 rfl (fun hc7 => ?_) (fun hc7 => ?_)
  · refine lv_iload_n hx hb d_floorDiv_21 rfl (lv_at hl 0 rfl) ?_
    exact z_iret hx hb hr hlk hS (zR_st (zSt_of hP)) ⟨by
        have h8 : pl / 9 = pl.tdiv 9 := by first | (have h9 := (xor9 (a := pl) ⟨by omega, by omega⟩).mp hc7; omega) | omega
        rw [h8], hw⟩ d_floorDiv_22
  · have hneg : pl < 0 := by
      by_cases h8 : 0 ≤ pl
      · exact absurd ((xor9 (a := pl) ⟨by omega, by omega⟩).mpr h8) hc7
      · omega
    refine lv_iload_n hx hb d_floorDiv_10 rfl (lv_at hl 0 rfl) ?_
    refine lv_iload_n hx hb d_floorDiv_11 rfl (lv_at hl 2 rfl) ?_
    refine z_imul hx hb d_floorDiv_12 ?_
    refine lv_iload_n hx hb d_floorDiv_13 rfl (lv_at hl 1 rfl) ?_
    refine z_icmp_eq (tgt := 21) hx hb d_floorDiv_14 rfl ⟨by omega, by omega⟩ ⟨by omega, by omega⟩ (fun hc14 => ?_) (fun hc14 => ?_)
    · refine lv_iload_n hx hb d_floorDiv_21 rfl (lv_at hl 0 rfl) ?_
      exact z_iret hx hb hr hlk hS (zR_st (zSt_of hP)) ⟨by
          have h8 : pl / 9 = pl.tdiv 9 := by first | (have h9 := (xor9 (a := pl) ⟨by omega, by omega⟩).mp hc7; omega) | omega
          rw [h8], hw⟩ d_floorDiv_22
    · refine lv_iload_n hx hb d_floorDiv_17 rfl (lv_at hl 0 rfl) ?_
      refine lv_iconst (v := iz 1) hx hb d_floorDiv_18 rfl ?_
      refine z_isub hx hb d_floorDiv_19 ?_
      exact z_iret hx hb hr hlk hS (zR_st (zSt_of hP)) ⟨by
          have h8 : pl / 9 = (pl.tdiv 9) - 1 := by first | (have h9 := (xor9 (a := pl) ⟨by omega, by omega⟩).mp hc7; omega) | omega
          rw [h8], hw⟩ d_floorDiv_20
theorem d_floorMod_0 : decode b_Ma_floorMod 0 = .ok (.iload_n 0, 1) := by decide +kernel
theorem d_floorMod_1 : decode b_Ma_floorMod 1 = .ok (.iload_n 1, 1) := by decide +kernel
theorem d_floorMod_2 : decode b_Ma_floorMod 2 = .ok (.irem, 1) := by decide +kernel
theorem d_floorMod_3 : decode b_Ma_floorMod 3 = .ok (.istore_n 2, 1) := by decide +kernel
theorem d_floorMod_4 : decode b_Ma_floorMod 4 = .ok (.iload_n 0, 1) := by decide +kernel
theorem d_floorMod_5 : decode b_Ma_floorMod 5 = .ok (.iload_n 1, 1) := by decide +kernel
theorem d_floorMod_6 : decode b_Ma_floorMod 6 = .ok (.ixor, 1) := by decide +kernel
theorem d_floorMod_7 : decode b_Ma_floorMod 7 = .ok (.ifCond .ge (11), 3) := by decide +kernel
theorem d_floorMod_10 : decode b_Ma_floorMod 10 = .ok (.iload_n 2, 1) := by decide +kernel
theorem d_floorMod_11 : decode b_Ma_floorMod 11 = .ok (.ifCond .eq (7), 3) := by decide +kernel
theorem d_floorMod_14 : decode b_Ma_floorMod 14 = .ok (.iload_n 2, 1) := by decide +kernel
theorem d_floorMod_15 : decode b_Ma_floorMod 15 = .ok (.iload_n 1, 1) := by decide +kernel
theorem d_floorMod_16 : decode b_Ma_floorMod 16 = .ok (.iadd, 1) := by decide +kernel
theorem d_floorMod_17 : decode b_Ma_floorMod 17 = .ok (.ireturn, 1) := by decide +kernel
theorem d_floorMod_18 : decode b_Ma_floorMod 18 = .ok (.iload_n 2, 1) := by decide +kernel
theorem d_floorMod_19 : decode b_Ma_floorMod 19 = .ok (.ireturn, 1) := by decide +kernel
set_option maxHeartbeats 4000000 in
set_option maxRecDepth 100000 in
theorem c_floorMod (l : Launch) (A : Nat → Prop) (P : State → Heap → Prop) (hP : zSa P) (pl : Int) (hpl : -100000 ≤ pl ∧ pl ≤ 100000) : Ct l y_Ma_floorMod (ws_Ma_floorMod) 0 A [.int (iz pl), .int (iz 9)] (P) (zR (some (.int (iz (pl % 9)))) P) := by
  refine z_body (zSt_of hP) (by decide +kernel) rfl (Nat.le_of_ble_eq_true rfl) ?_
  intro p e s m args below meth c ls hx hb hml hr hlk hts0 hown hpre0 H locs hpre hS hl
  have hts : ∀ w ∈ TBL, w.before args s = true := fun w hw => hts0 w (List.mem_cons_of_mem _ hw)
  have hl : lv_has ls 3 [(0, .int (iz pl)), (1, .int (iz 9))] := hl
  have hw := hpre
  refine lv_iload_n hx hb d_floorMod_0 rfl (lv_at hl 0 rfl) ?_
  refine lv_iload_n hx hb d_floorMod_1 rfl (lv_at hl 1 rfl) ?_
  refine z_iremt hx hb d_floorMod_2 ⟨by omega, by omega⟩ ⟨by omega, by omega⟩ ?_
  refine lv_istore_n hx hb d_floorMod_3 rfl hl (by decide) rfl (fun ls hl => ?_)
  have hl : lv_has ls 3 [(2, .int (iz (pl - pl.tdiv 9 * 9))), (0, .int (iz pl)), (1, .int (iz 9))] := hl
  have hq := tdiv9 pl
  refine lv_iload_n hx hb d_floorMod_4 rfl (lv_at hl 1 rfl) ?_
  refine lv_iload_n hx hb d_floorMod_5 rfl (lv_at hl 2 rfl) ?_
  refine lv_ixor hx hb d_floorMod_6 ?_
  refine lv_if_ge (tgt := 18) hx hb d_floorMod_7 rfl (fun hc7 => ?_) (fun hc7 => ?_)
  · refine lv_iload_n hx hb d_floorMod_18 rfl (lv_at hl 0 rfl) ?_
    exact z_iret hx hb hr hlk hS (zR_st (zSt_of hP)) ⟨by
        have h8 : pl % 9 = pl - pl.tdiv 9 * 9 := by first | (have h9 := (xor9 (a := pl) ⟨by omega, by omega⟩).mp hc7; omega) | omega
        rw [h8], hw⟩ d_floorMod_19
  · have hneg : pl < 0 := by
      by_cases h8 : 0 ≤ pl
      · exact absurd ((xor9 (a := pl) ⟨by omega, by omega⟩).mpr h8) hc7
      · omega
    refine lv_iload_n hx hb d_floorMod_10 rfl (lv_at hl 0 rfl) ?_
    refine z_if_eq (tgt := 18) hx hb d_floorMod_11 rfl ⟨by omega, by omega⟩ (fun hc11 => ?_) (fun hc11 => ?_)
    · refine lv_iload_n hx hb d_floorMod_18 rfl (lv_at hl 0 rfl) ?_
      exact z_iret hx hb hr hlk hS (zR_st (zSt_of hP)) ⟨by
          have h8 : pl % 9 = pl - pl.tdiv 9 * 9 := by first | (have h9 := (xor9 (a := pl) ⟨by omega, by omega⟩).mp hc7; omega) | omega
          rw [h8], hw⟩ d_floorMod_19
    · refine lv_iload_n hx hb d_floorMod_14 rfl (lv_at hl 0 rfl) ?_
      refine lv_iload_n hx hb d_floorMod_15 rfl (lv_at hl 2 rfl) ?_
      refine z_iadd hx hb d_floorMod_16 ?_
      exact z_iret hx hb hr hlk hS (zR_st (zSt_of hP)) ⟨by
          have h8 : pl % 9 = (pl - pl.tdiv 9 * 9) + 9 := by first | (have h9 := (xor9 (a := pl) ⟨by omega, by omega⟩).mp hc7; omega) | omega
          rw [h8], hw⟩ d_floorMod_17
theorem d_fill_0 : decode b_Ar_fill 0 = .ok (.iconst 0, 1) := by decide +kernel
theorem d_fill_1 : decode b_Ar_fill 1 = .ok (.istore_n 2, 1) := by decide +kernel
theorem d_fill_2 : decode b_Ar_fill 2 = .ok (.aload_n 0, 1) := by decide +kernel
theorem d_fill_3 : decode b_Ar_fill 3 = .ok (.arraylength, 1) := by decide +kernel
theorem d_fill_4 : decode b_Ar_fill 4 = .ok (.istore_n 3, 1) := by decide +kernel
theorem d_fill_5 : decode b_Ar_fill 5 = .ok (.iload_n 2, 1) := by decide +kernel
theorem d_fill_6 : decode b_Ar_fill 6 = .ok (.iload_n 3, 1) := by decide +kernel
theorem d_fill_7 : decode b_Ar_fill 7 = .ok (.if_icmp .ge (13), 3) := by decide +kernel
theorem d_fill_10 : decode b_Ar_fill 10 = .ok (.aload_n 0, 1) := by decide +kernel
theorem d_fill_11 : decode b_Ar_fill 11 = .ok (.iload_n 2, 1) := by decide +kernel
theorem d_fill_12 : decode b_Ar_fill 12 = .ok (.iload_n 1, 1) := by decide +kernel
theorem d_fill_13 : decode b_Ar_fill 13 = .ok (.iastore, 1) := by decide +kernel
theorem d_fill_14 : decode b_Ar_fill 14 = .ok (.iinc 2 (1), 3) := by decide +kernel
theorem d_fill_17 : decode b_Ar_fill 17 = .ok (.goto (-12), 3) := by decide +kernel
theorem d_fill_20 : decode b_Ar_fill 20 = .ok (.return_, 1) := by decide +kernel
set_option maxHeartbeats 4000000 in
set_option maxRecDepth 100000 in
theorem c_fill (l : Launch) (D : va_G) (cI cB : ClassId) (x d la t ba : Nat) (fi lt : Int) (f g : Int → Int) (n : Int) : Ct l y_Ar_fill (ws_Ar_fill) 0 (AX x d la t ba) [.ref la, .int (iz 0)] (Wl D vwCl (tysX cI cB) (AX x d la t ba) [(x, .inr (0, [.ref d, .ref t])), (d, .inr (1, [.ref la, .int (iz fi), .int (iz lt)])), (la, .inl (cI, 155, .inl (az f))), (t, .inr (2, [.ref ba, .int (iz n)])), (ba, .inl (cB, 1612, .inl (az g)))]) (zR none (Wl D vwCl (tysX cI cB) (AX x d la t ba) [(x, .inr (0, [.ref d, .ref t])), (d, .inr (1, [.ref la, .int (iz fi), .int (iz lt)])), (la, .inl (cI, 155, .inl (az (fun _ => 0)))), (t, .inr (2, [.ref ba, .int (iz n)])), (ba, .inl (cB, 1612, .inl (az g)))])) := by
  refine z_body zSt_Wl (by decide +kernel) rfl (Nat.le_of_ble_eq_true rfl) ?_
  intro p e s m args below meth c ls hx hb hml hr hlk hts0 hown hpre0 H locs hpre hS hl
  have hts : ∀ w ∈ TBL, w.before args s = true := fun w hw => hts0 w (List.mem_cons_of_mem _ hw)
  have hl : lv_has ls 4 [(0, .ref la), (1, .int (iz 0))] := hl
  obtain ⟨hK, hP, hD⟩ := hpre
  have L5 : ∀ (N5 : Nat) (h : Int → Int) (i : Int) (H : Heap) (locs : List Loc) (ls : Array Slot), va_P D vwCl [(x, .inr (0, [.ref d, .ref t])), (d, .inr (1, [.ref la, .int (iz fi), .int (iz lt)])), (la, .inl (cI, 155, .inl (az h))), (t, .inr (2, [.ref ba, .int (iz n)])), (ba, .inl (cB, 1612, .inl (az g)))] H → va_D (AX x d la t ba) [(x, .inr (0, [.ref d, .ref t])), (d, .inr (1, [.ref la, .int (iz fi), .int (iz lt)])), (la, .inl (cI, 155, .inl (az h))), (t, .inr (2, [.ref ba, .int (iz n)])), (ba, .inl (cB, 1612, .inl (az g)))] → va_S (AX x d la t ba) s.heap H locs → lv_has ls 4 [(0, .ref la), (1, .int (iz 0)), (2, .int (iz i)), (3, .int (iz 155))] → (0 ≤ i ∧ i ≤ 155) → (∀ j, 0 ≤ j → j < i → h j = 0) → (155 - i).toNat < N5 → W p l e (zrm 0) s m args below meth c H locs 0 0 (MQ below (zQ (AX x d la t ba) (zR none (Wl D vwCl (tysX cI cB) (AX x d la t ba) [(x, .inr (0, [.ref d, .ref t])), (d, .inr (1, [.ref la, .int (iz fi), .int (iz lt)])), (la, .inl (cI, 155, .inl (az (fun _ => 0)))), (t, .inr (2, [.ref ba, .int (iz n)])), (ba, .inl (cB, 1612, .inl (az g)))]))) args s 0 0 (AX x d la t ba)) (F0 m 5 ls []) := by
    intro N5
    induction N5 with
    | zero => intro h i H locs ls hP hD hS hl hi hz hN5; exact absurd hN5 (Nat.not_lt_zero _)
    | succ N5 ih5 =>
      intro h i H locs ls hP hD hS hl hi hz hN5
      refine lv_iload_n hx hb d_fill_5 rfl (lv_at hl 2 rfl) ?_
      refine lv_iload_n hx hb d_fill_6 rfl (lv_at hl 3 rfl) ?_
      refine z_icmp_ge (tgt := 20) hx hb d_fill_7 rfl ⟨by omega, by omega⟩ ⟨by omega, by omega⟩ (fun hc7 => ?_) (fun hc7 => ?_)
      · exact z_vret hx hb hr hlk hS (zR_st zSt_Wl) ⟨rfl, hK, va_P_arr (g := az (fun _ => 0)) hP 2 rfl (fun j hj => by
            show iz (h (j : Int)) = iz 0
            rw [hz (j : Int) (by omega) (by omega)]), va_D.set (e := .inl (cI, 155, .inl (az (fun _ => 0)))) hD (p := 2) rfl⟩ d_fill_20
      · refine lv_aload_n hx hb d_fill_10 rfl (lv_at hl 0 rfl) ?_
        refine lv_iload_n hx hb d_fill_11 rfl (lv_at hl 2 rfl) ?_
        refine lv_iload_n hx hb d_fill_12 rfl (lv_at hl 1 rfl) ?_
        refine z_iast hx hb hK hP hD hS 2 0 rfl rfl (by omega) (by omega) (by decide) d_fill_13 (fun H locs hP hD hS => ?_)
        have hP : va_P D vwCl [(x, .inr (0, [.ref d, .ref t])), (d, .inr (1, [.ref la, .int (iz fi), .int (iz lt)])), (la, .inl (cI, 155, .inl (az (up h i 0)))), (t, .inr (2, [.ref ba, .int (iz n)])), (ba, .inl (cB, 1612, .inl (az g)))] H := hP
        have hD : va_D (AX x d la t ba) [(x, .inr (0, [.ref d, .ref t])), (d, .inr (1, [.ref la, .int (iz fi), .int (iz lt)])), (la, .inl (cI, 155, .inl (az (up h i 0)))), (t, .inr (2, [.ref ba, .int (iz n)])), (ba, .inl (cB, 1612, .inl (az g)))] := hD
        refine lv_iinc (k := 2) (v := (iz (i + 1))) hx hb d_fill_14 hl rfl (by show iz _ + iz (1) = _; rw [← iz_add]; try rfl) (by decide) rfl (fun ls hl => ?_)
        have hl : lv_has ls 4 [(2, .int (iz (i + 1))), (0, .ref la), (1, .int (iz 0)), (3, .int (iz 155))] := hl
        refine lv_goto (tgt := 5) hx hb d_fill_17 rfl ?_
        exact ih5 (up h i 0) (i + 1) _ _ _ hP hD hS (lv_sub hl [1, 2, 0, 3] rfl) ⟨by omega, by omega⟩ (fun j h1 h2 => by
                by_cases hq : j = i
                · rw [hq, up_s]
                · rw [up_n _ _ hq]; exact hz j h1 (by omega)) (by omega)
  refine lv_iconst (v := iz 0) hx hb d_fill_0 rfl ?_
  refine lv_istore_n hx hb d_fill_1 rfl hl (by decide) rfl (fun ls hl => ?_)
  have hl : lv_has ls 4 [(2, .int (iz 0)), (0, .ref la), (1, .int (iz 0))] := hl
  refine lv_aload_n hx hb d_fill_2 rfl (lv_at hl 1 rfl) ?_
  refine z_alen hx hb hK hP 2 0 155 rfl rfl rfl d_fill_3 ?_
  refine lv_istore_n hx hb d_fill_4 rfl hl (by decide) rfl (fun ls hl => ?_)
  have hl : lv_has ls 4 [(3, .int (iz 155)), (2, .int (iz 0)), (0, .ref la), (1, .int (iz 0))] := hl
  exact L5 _ f 0 _ _ _ hP hD hS (lv_sub hl [2, 3, 1, 0] rfl) ⟨by omega, by omega⟩ (fun j h1 h2 => absurd h1 (by omega)) (Nat.lt_succ_self _)
