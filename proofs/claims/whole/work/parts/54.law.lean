/-! the law's own world -/
theorem SStr.narrow {A B : Nat → Prop} {sk sv : Nat} {bs : List Int} {U : State} {H : Heap} (h : SStr A sk sv bs U H) (hAB : ∀ q, B q → A q) : SStr B sk sv bs U H := ⟨h.1.narrow hAB, h.2.1.narrow hAB, h.2.2.1.narrow hAB, h.2.2.2.1.narrow hAB, h.2.2.2.2.1.narrow hAB, h.2.2.2.2.2.narrow hAB⟩
def A0s (sz : Nat) : Nat → Prop := fun q => sz ≤ q
/-- what of the start stays: the statics, the strings, what throwing needs -/
def GS (sz : Nat) (tt : Nat) (ad : Nat → Nat) (kI vI kN vN k57 k60 k46 : Nat) (U : State) (H : Heap) : Prop := STX (A0s sz) tt ad U H ∧ SX (A0s sz) kI vI kN vN U H ∧ SMo (A0s sz) kI vI kN vN U H ∧ XT k57 k60 k46 (A0s sz) U H
theorem GS.kept {sz tt : Nat} {ad : Nat → Nat} {kI vI kN vN k57 k60 k46 : Nat} {U : State} {H H1 : Heap} (h : GS sz tt ad kI vI kN vN k57 k60 k46 U H) (hq : ∀ a : Nat, a < H.size → ¬ A0s sz a → H1[a]? = H[a]?) : GS sz tt ad kI vI kN vN k57 k60 k46 U H1 :=
  ⟨h.1.kept hq, ⟨h.2.1.1.kept hq, h.2.1.2.1.kept hq, h.2.1.2.2⟩, ⟨h.2.2.1.1.kept hq, h.2.2.1.2.1.kept hq, h.2.2.1.2.2⟩, h.2.2.2.kept hq⟩
/-- the two sides' cells lie apart, and are all new -/
def DJ (sz x d la t ba ou mo rs ex xd li bo cu cd : Nat) : Prop := (∀ q, AX x d la t ba q → ¬ AM mo rs ex xd li bo cu cd q) ∧ ¬ AX x d la t ba ou ∧ ¬ AM mo rs ex xd li bo cu cd ou ∧ (∀ q, AX x d la t ba q → sz ≤ q) ∧ (∀ q, AM mo rs ex xd li bo cu cd q → sz ≤ q) ∧ sz ≤ ou
def LI (D : va_G) (cI cB cL : ClassId) (x d la t ba tt : Nat) (ad : Nat → Nat) (ou mo rs ex xd li bo cu cd : Nat) (tx : List Int) (g : Int → Int) (co : Int) (rt : List Int) (U : State) (H : Heap) : Prop := XO D cI cB x d la t ba tt ad tx U H ∧ OUw D cL ou g U H ∧ MR D cB cL mo rs ex xd li bo cu cd co rt U H
section LawW
variable {D : va_G} {cI cB cL : ClassId} {x d la t ba tt : Nat} {ad : Nat → Nat} {ou mo rs ex xd li bo cu cd : Nat} {tx : List Int} {g : Int → Int} {co : Int} {rt : List Int} {s t9 : State} {H H1 : Heap} {sz kI vI kN vN k57 k60 k46 : Nat}
theorem MR.by (h : MR D cB cL mo rs ex xd li bo cu cd co rt s H) (hq : ∀ q, q < H.size → AM mo rs ex xd li bo cu cd q → H1[q]? = H[q]?) : MR D cB cL mo rs ex xd li bo cu cd co rt s H1 := by
  obtain ⟨bi, le, bt, V, C, fc, nc, pp, ⟨len, used, bl, fr, fb, lm, fe, ne, pe, ⟨hK, hP, hD⟩, h1⟩, h2⟩ := h
  exact ⟨bi, le, bt, V, C, fc, nc, pp, ⟨len, used, bl, fr, fb, lm, fe, ne, pe, ⟨hK, hP.kept (fun k q hk => hq _ (hP k q hk).lt (hD.2 k q hk)), hD⟩, h1⟩, h2⟩
theorem MR.recv (h : MR D cB cL mo rs ex xd li bo cu cd co rt s H) : ∃ cell : Cell, H[mo]? = some cell ∧ cell.vm.isStatics = false ∧ s.vm.findClass "ExactNotationModel" = some cell.cls := by
  obtain ⟨bi, le, bt, V, C, fc, nc, pp, ⟨len, used, bl, fr, fb, lm, fe, ne, pe, ⟨hK, hP, hD⟩, h1⟩, h2⟩ := h
  exact va_recv hK hP (ci := 3) (q0 := 0) rfl rfl
theorem LI.helper (dj : DJ sz x d la t ba ou mo rs ex xd li bo cu cd) (hw : LI D cI cB cL x d la t ba tt ad ou mo rs ex xd li bo cu cd tx g co rt s H) (hst : STX (A0s sz) tt ad s H) : LWd D cI cB cL x d la t ba tt ad ou tx g s H :=
  ⟨hw.1, hw.2.1, dj.2.1, hst.narrow (fun q h => h.elim (dj.2.2.2.1 q) (fun e => by rw [e]; exact dj.2.2.2.2.2))⟩
theorem LI.newX {tx2 : List Int} {g2 : Int → Int} (dj : DJ sz x d la t ba ou mo rs ex xd li bo cu cd) (hw : LI D cI cB cL x d la t ba tt ad ou mo rs ex xd li bo cu cd tx g co rt s H) (h2 : LWd D cI cB cL x d la t ba tt ad ou tx2 g2 t9 H1) (hv : s.vm.Alike t9.vm) (hk : ∀ q : Nat, q < H.size → ¬ AHx x d la t ba ou q → H1[q]? = H[q]?) : LI D cI cB cL x d la t ba tt ad ou mo rs ex xd li bo cu cd tx2 g2 co rt s H1 := by
  have h3 := zSa_LWd _ s _ hv.symm h2
  exact ⟨h3.1, h3.2.1, hw.2.2.by (fun q h1 hm => hk q h1 (fun h => h.elim (fun hx => dj.1 q hx hm) (fun e => dj.2.2.1 (e ▸ hm))))⟩
theorem LI.newM {co2 : Int} {rt2 : List Int} (dj : DJ sz x d la t ba ou mo rs ex xd li bo cu cd) (hw : LI D cI cB cL x d la t ba tt ad ou mo rs ex xd li bo cu cd tx g co rt s H) (h2 : MR D cB cL mo rs ex xd li bo cu cd co2 rt2 t9 H1) (hv : s.vm.Alike t9.vm) (hk : ∀ q : Nat, q < H.size → ¬ AM mo rs ex xd li bo cu cd q → H1[q]? = H[q]?) (hst : STX (A0s sz) tt ad s H1) : LI D cI cB cL x d la t ba tt ad ou mo rs ex xd li bo cu cd tx g co2 rt2 s H1 :=
  ⟨hw.1.by (hst.narrow (dj.2.2.2.1)) (fun q h1 hx => hk q h1 (dj.1 q hx)), hw.2.1.kept (hk ou hw.2.1.lt dj.2.2.1), zSa_MR _ s _ hv.symm h2⟩
theorem GS.sx (dj : DJ sz x d la t ba ou mo rs ex xd li bo cu cd) (h : GS sz tt ad kI vI kN vN k57 k60 k46 s H) : SX (AX x d la t ba) kI vI kN vN s H := ⟨h.2.1.1.narrow dj.2.2.2.1, h.2.1.2.1.narrow dj.2.2.2.1, h.2.1.2.2⟩
theorem GS.sm (dj : DJ sz x d la t ba ou mo rs ex xd li bo cu cd) (h : GS sz tt ad kI vI kN vN k57 k60 k46 s H) : SMo (AM mo rs ex xd li bo cu cd) kI vI kN vN s H := ⟨h.2.2.1.1.narrow dj.2.2.2.2.1, h.2.2.1.2.1.narrow dj.2.2.2.2.1, h.2.2.1.2.2⟩
end LawW
def bz (v : Int32) : Int := if v = 0 then 0 else 1
theorem bz_01 (v : Int32) : bz v = 0 ∨ bz v = 1 := by unfold bz; split <;> simp
section LawRows
variable {p : Program} {l : Launch} {e : Env} {R : Room} {s : State} {m : MethodId} {args : Array Value} {below : List Frame} {meth : Method} {c : Code} {H H0 : Heap} {locs : List Loc} {cells slots : Nat} {Q : State → Prop} {cc : ByteArray} {pc : Nat} {ls : Array Slot} {rest : List Value} {A : Nat → Prop}
theorem l_bool {v : Int32} {t1 t2 : Nat} (hx : p.tables.exec = Jvm.exec) (hb : c.code = cc) (h1 : t1 = pc + 7) (h2 : t2 = pc + 8) (d0 : decode cc pc = .ok (.ifCond .eq 7, 3)) (d1 : decode cc (pc + 3) = .ok (.iconst 1, 1)) (d2 : decode cc (pc + 4) = .ok (.goto 4, 3)) (d3 : decode cc t1 = .ok (.iconst 0, 1))
    (kk : W p l e R s m args below meth c H locs cells slots Q (F0 m t2 ls (.int (iz (bz v)) :: rest))) : W p l e R s m args below meth c H locs cells slots Q (F0 m pc ls (.int v :: rest)) := by
  subst h1
  subst h2
  refine lv_if_eq (tgt := pc + 7) hx hb d0 (by omega) (fun h => ?_) (fun h => ?_)
  · refine lv_iconst (v := iz 0) hx hb d3 rfl ?_
    unfold bz at kk
    rw [if_pos h] at kk
    exact kk
  · refine lv_iconst (v := iz 1) hx hb d1 rfl ?_
    refine lv_goto (tgt := pc + 8) hx hb d2 (by omega) ?_
    unfold bz at kk
    rw [if_neg h] at kk
    exact kk
theorem l_sld {b L : Nat} {xs : Nat → Int32} {i : Int} (k : Nat) (hx : p.tables.exec = Jvm.exec) (hb : c.code = cc) (hX : va_X b L xs s s.heap) (hbl : b < s.heap.size) (hbA : ¬ A b) (hS : va_S A s.heap H locs) (h0 : i = (k : Int)) (h1 : k < L) (h2 : L ≤ 3584) (hdg : decode cc pc = .ok (.iaload, 1))
    (kk : W p l e R s m args below meth c H locs cells slots Q (F0 m (pc + 1) ls (.int (xs k) :: rest))) : W p l e R s m args below meth c H locs cells slots Q (F0 m pc ls (.int (iz i) :: .ref b :: rest)) := by
  refine va_sld hx hb hX hbl hbA hS (iz_in (by omega) (by omega) (by omega)) hdg ?_
  rw [iz_cl (by omega) (by omega), show i.toNat = k by omega]
  exact kk
theorem l_slen {b L : Nat} {xs : Nat → Int32} (hx : p.tables.exec = Jvm.exec) (hb : c.code = cc) (hX : va_X b L xs s s.heap) (hbl : b < s.heap.size) (hbA : ¬ A b) (hS : va_S A s.heap H locs) (hdg : decode cc pc = .ok (.arraylength, 1))
    (kk : W p l e R s m args below meth c H locs cells slots Q (F0 m (pc + 1) ls (.int (iz (L : Int)) :: rest))) : W p l e R s m args below meth c H locs cells slots Q (F0 m pc ls (.ref b :: rest)) := by
  refine va_slen hx hb hX hbl hbA hS hdg ?_
  rw [show Int32.ofNat L = iz (L : Int) from (Int32.ofInt_eq_ofNat).symm]
  exact kk
theorem l_oald {D : va_G} {cL : ClassId} {ou : Nat} {g : Int → Int} (hx : p.tables.exec = Jvm.exec) (hb : c.code = cc) (ho : OUw D cL ou g s H) (hdg : decode cc pc = .ok (.laload, 1))
    (kk : W p l e R s m args below meth c H locs cells slots Q (F0 m (pc + 1) ls (.long (lz (g 0)) :: rest))) : W p l e R s m args below meth c H locs cells slots Q (F0 m pc ls (.int (iz 0) :: .ref ou :: rest)) :=
  z_lald hx hb ho.1 ho.2 0 0 rfl rfl (by omega) (by omega) (by decide) hdg kk
end LawRows
theorem op4 (v : Int32) : ∃ o : Nat, o < 4 ∧ v &&& iz 3 = iz (o : Int) := ⟨_, Nat.mod_lt _ (by decide), by rw [pk_and v 2 (by decide), ← iz_nat]⟩
theorem XO.w8R {D : va_G} {cI cB : ClassId} {x d la t ba tt : Nat} {ad : Nat → Nat} {tx : List Int} {U : State} {H : Heap} (h : XO D cI cB x d la t ba tt ad tx U H) (st : Nat) : lR (w8 tx st 8) := by
  obtain ⟨V, lt, f, fi, g, n, -, -, htx, -⟩ := h
  have h7 := w8_le htx.2.2.2 st (j := 7) (by omega)
  have h8 := tx_getD htx.2.2.2 (st + 7)
  have e : w8 tx st 8 = w8 tx st 7 * 2 ^ 8 + tx.getD (st + 7) 0 := rfl
  rw [e]
  constructor <;> omega
