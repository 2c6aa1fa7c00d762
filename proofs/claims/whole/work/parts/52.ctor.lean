/-! constructors -/
def zrn (k mc ms : Nat) : Room := { frames := k, cells := mc, slots := ms, locals := 32 * k + 16 }
def CtN (l : Launch) (y : MethodName) (ws : List Cond) (k mc ms : Nat) (A : Nat → Prop) (av : List Value) (Pre : State → Heap → Prop) (Post : Option Value → State → Heap → Prop) : Prop :=
  zSt Pre ∧ Met l y ws (zrn k mc ms) (zPc av Pre) (zQ A Post) mc ms A
theorem n_body {l : Launch} {y : MethodName} {ws ws' : List Cond} {k mc ms : Nat} {A : Nat → Prop} {av : List Value} {Pre : State → Heap → Prop} {Post : Option Value → State → Heap → Prop} {cc : ByteArray} {maxL : Nat} {ret : Option FieldType}
    (hst : zSt Pre) (hy : plainFor y = true) (hw : ws = Cond.code y cc maxL ret :: ws') (hlen : (lg_sl av).length ≤ maxL)
    (body : ∀ (p : Program) (e : Env) (s : State) (m : MethodId) (args : Array Value) (below : List Frame) (meth : Method) (c : Code) (ls : Array Slot), p.tables.exec = Jvm.exec → c.code = cc → c.maxLocals = maxL → meth.sig.returnType = ret → meth.locks = false → (∀ w ∈ ws, w.before args s = true) → s.vm.findClass y.cls = some m.cls → meth.name = y.name → Pre s s.heap → ∀ (H : Heap) (locs : List Loc), Pre s H → va_S A s.heap H locs → lv_has ls maxL (lv_args 0 av) →
      W p l e (zrn k mc ms) s m args below meth c H locs 0 0 (MQ below (zQ A Post) args s mc ms A) (F0 m 0 ls [])) : CtN l y ws k mc ms A av Pre Post := by
  refine ⟨hst, va_MetF (cc := cc) (maxL := maxL) (ret := ret) hy hw ?_⟩
  intro p e s m args below meth c s₁ B hml hv
  obtain ⟨rfl, hp⟩ := hv
  have hl := lv_entry av (n := maxL) hlen
  rw [lg_entry_eq]
  exact body p e s m _ below meth c _ B.exec B.bytes hml B.returns B.notSynchronized (atoms_spec (ws := ws) B.pre) (findClass_of_methodNamed B.named) (name_of_methodNamed B.named B.method).1 hp _ _ hp va_S.rf hl
theorem va_D1 {A : Nat → Prop} {q : Nat} {e : va_E} (h : A q) : va_D A [(q, e)] := ⟨fun i j p9 q9 hi hj _ => by
    have hz1 : i < 1 := (List.getElem?_eq_some_iff.mp hi).1
    have hz2 : j < 1 := (List.getElem?_eq_some_iff.mp hj).1
    omega, fun k q hk => by
    have hz : k < 1 := (List.getElem?_eq_some_iff.mp hk).1
    rw [show k = 0 by omega] at hk
    cases hk
    exact h⟩
def K1pre (D : va_G) (cA : ClassId) (ty : FieldType) (d sz ci : Nat) (fs0 : List Value) (U : State) (H : Heap) : Prop := H.size = sz ∧ va_P D vwCl [(d, .inr (ci, fs0))] H ∧ va_K D vwCl [(cA, ty)] U
def K1post (D : va_G) (cA : ClassId) (d sz ci : Nat) (fs1 : Nat → List Value) (a0 : vp_A) (_ : State) (H : Heap) : Prop := ∃ la : Nat, sz ≤ la ∧ va_P D vwCl [(d, .inr (ci, fs1 la)), (la, .inl (cA, a0))] H
theorem zSt_K1pre {D : va_G} {cA : ClassId} {ty : FieldType} {d sz ci : Nat} {fs0 : List Value} : zSt (K1pre D cA ty d sz ci fs0) := fun _ _ _ hv h => ⟨h.1, h.2.1, va_K.moved hv.alike h.2.2⟩
theorem zSt_K1post {D : va_G} {cA : ClassId} {d sz ci : Nat} {fs1 : Nat → List Value} {a0 : vp_A} : zSt (K1post D cA d sz ci fs1 a0) := fun _ _ _ _ h => h
section NRows
variable {p : Program} {l : Launch} {e : Env} {R : Room} {s : State} {m : MethodId} {args : Array Value} {below : List Frame} {meth : Method} {c : Code} {H H0 : Heap} {locs : List Loc} {cells slots : Nat} {Q : State → Prop} {cc : ByteArray} {pc : Nat} {ls : Array Slot} {rest st0 : List Value} {A : Nat → Prop} {a : Array Value} {D : va_G} {cl : List vw_C} {tys : List (ClassId × FieldType)} {ws : va_W}
theorem z_newa (hx : p.tables.exec = Jvm.exec) (hb : c.code = cc) {atype : ArrayType} {ty : FieldType} (hty : newarray.typeOf atype = ty) (harr : (Cond.arrayClass ty).before args s = true) (hK : va_K D cl tys s) (hP : va_P D cl ws H) (hD : va_D A ws) (hS : va_S A H0 H locs) (hA : ∀ q, H0.size ≤ q → A q) (t0 : Nat) {cA : ClassId} (ht : tys[t0]? = some (cA, ty)) (hpr : ∀ (U : State) (k : ClassId), va_RA U k ty → U.vm.findClass ("[" ++ ty.toString) = some k)
    {n : Int} {N' : Nat} {a0 : vp_A} (ha : ∀ cA : ClassId, vp_cell cA a0 = arrV cA N' (fun _ => defaultValue ty)) (hn : ¬ iz n < 0) (hN : (iz n).toNatClampNeg = N') (hbytes : N' * componentBytes ty ≤ 536870912) (hcells : cells + 1 ≤ R.cells) (hslots : slots + N' ≤ R.slots) (hdg : decode cc pc = .ok (.newarray atype, 2))
    (kk : ∀ (q : Nat) (H1 : Heap), va_P D cl (ws ++ [(q, .inl (cA, a0))]) H1 → va_D A (ws ++ [(q, .inl (cA, a0))]) → va_S A H0 H1 locs → W p l e R s m args below meth c H1 locs (cells + 1) (slots + N') Q (F0 m (pc + 2) ls (.ref q :: rest))) : W p l e R s m args below meth c H locs cells slots Q (F0 m pc ls (.int (iz n) :: rest)) := by
  refine va_newa hx hb (by rw [hty]; exact harr) hty hK hP hD hS hA ha hn hN hbytes hcells hslots hdg (fun q cA2 H1 hK2 hP2 hD2 hS2 => ?_)
  have e1 := hpr s cA2 (hK2.2 tys.length (cA2, ty) (by simp)).2
  have e2 := hpr s cA (hK.2 t0 _ ht).2
  cases e1.symm.trans e2
  exact kk q H1 hP2 hD2 hS2
theorem n_ctor {mc ms q ci : Nat} {fs0 : List Value} {fs1 : Nat → List Value} {cA : ClassId} {a0 : vp_A} (hr : va_Run p l e R s m args below meth c H locs cells slots mc ms (F0 m pc ls st0) rest (zQ (fun z => z = q ∨ H.size ≤ z) (zR none (K1post D cA q H.size ci fs1 a0)) a) (fun z => z = q ∨ H.size ≤ z)) (hP : va_P D vwCl (ws ++ [(q, .inr (ci, fs0))]) H) (hD : va_D A (ws ++ [(q, .inr (ci, fs0))])) (hS : va_S A H0 H locs) (hA : ∀ q, H0.size ≤ q → A q)
    (kk : ∀ (la : Nat) (H1 : Heap) (locs1 : List Loc), va_P D vwCl (ws ++ [(q, .inr (ci, fs1 la)), (la, .inl (cA, a0))]) H1 → va_D A (ws ++ [(q, .inr (ci, fs1 la)), (la, .inl (cA, a0))]) → va_S A H0 H1 locs1 → W p l e R s m args below meth c H1 locs1 (cells + mc) (slots + ms) Q (F0 m (pc + 3) ls rest)) : W p l e R s m args below meth c H locs cells slots Q (F0 m pc ls st0) := by
  have hq := hD.2 ws.length (q, .inr (ci, fs0)) (by simp)
  have hdw : ∀ (i : Nat) (z : Nat × va_E), ws[i]? = some z → z.1 ≠ q ∧ z.1 < H.size ∧ A z.1 := by
    intro i z hi
    have hlt : i < ws.length := (List.getElem?_eq_some_iff.mp hi).1
    have h1 : (ws ++ [(q, .inr (ci, fs0))])[i]? = some z := by rw [List.getElem?_append_left hlt]; exact hi
    refine ⟨fun e9 => ?_, (hP i z h1).lt, hD.2 i z h1⟩
    have := hD.1 i ws.length z (q, .inr (ci, fs0)) h1 (by simp) e9
    omega
  refine l_go hr hS (fun z hz => ?_) (fun v t H1 locs1 hv hp hz hk hS1 => ?_)
  · rcases hz with rfl | hz
    · exact hq
    · exact hA z (Nat.le_trans hS.1 hz)
  · obtain ⟨rfl, la, hla, hP2⟩ := hp
    refine W.eq (g2 := F0 m (pc + 3) ls rest) rfl ?_
    have hql : q < H.size := (hP ws.length (q, .inr (ci, fs0)) (by simp)).lt
    refine kk la H1 locs1 (va_P.app (fun i z hi => ?_) hP2) (va_D.app ⟨fun i j z1 z2 h1 h2 e9 => ?_, fun i z hi => (hdw i z hi).2.2⟩ ⟨fun i j z1 z2 h1 h2 e9 => ?_, fun i z hi => ?_⟩ (fun i j z1 z2 h1 h2 e9 => ?_)) hS1
    · have h3 := hdw i z hi
      have hlt : i < ws.length := (List.getElem?_eq_some_iff.mp hi).1
      exact (hP i z (by rw [List.getElem?_append_left hlt]; exact hi)).kept (hk z.1 h3.2.1 (fun h => h.elim h3.1 (fun h => absurd h3.2.1 (Nat.not_lt.mpr h))))
    · have l1 : i < ws.length := (List.getElem?_eq_some_iff.mp h1).1
      have l2 : j < ws.length := (List.getElem?_eq_some_iff.mp h2).1
      exact hD.1 i j z1 z2 (by rw [List.getElem?_append_left l1]; exact h1) (by rw [List.getElem?_append_left l2]; exact h2) e9
    · have l1 : i < 2 := (List.getElem?_eq_some_iff.mp h1).1
      have l2 : j < 2 := (List.getElem?_eq_some_iff.mp h2).1
      rcases (show i = 0 ∨ i = 1 by omega) with rfl | rfl <;> rcases (show j = 0 ∨ j = 1 by omega) with rfl | rfl
      · rfl
      · cases h1; cases h2
        have e8 : q = la := e9
        omega
      · cases h1; cases h2
        have e8 : la = q := e9
        omega
      · rfl
    · have l1 : i < 2 := (List.getElem?_eq_some_iff.mp hi).1
      rcases (show i = 0 ∨ i = 1 by omega) with rfl | rfl
      · cases hi
        exact hq
      · cases hi
        exact hA la (Nat.le_trans hS.1 hla)
    · have h3 := hdw i z1 h1
      have l1 : j < 2 := (List.getElem?_eq_some_iff.mp h2).1
      rcases (show j = 0 ∨ j = 1 by omega) with rfl | rfl
      · cases h2
        exact h3.1 e9
      · cases h2
        have e8 : z1.1 = la := e9
        omega
theorem n_cwI {own : String} {index : Nat} {y : MethodName} {b : ByteArray} {maxL n k mc ms : Nat} (ht : ∀ w ∈ TBL, w.before args s = true) (h : zwB y b maxL none n ∧ Cond.instanceMethod y ∈ TBL) (hnm : y.name = "<init>") (hl : Cond.methodLink own index y ∈ TBL) (hR : k + 1 ≤ R.frames ∧ 8 + (maxL + 11) + (32 * k + 16) ≤ R.locals) : CallB R s args own index y b maxL none (Cond.code y b maxL none :: TBL) (zrn k mc ms) mc ms n ∧ y.name = "<init>" ∧ (Cond.instanceMethod y).before args s = true :=
  ⟨callB_of n ht (tbl_good h.1.1) rfl rfl rfl (ht _ h.1.2.1) (ht _ hl) h.1.2.2 hR, hnm, ht _ h.2⟩
theorem n_cnI {own host : String} {index : Nat} {y : MethodName} {b : ByteArray} {maxL n k mc ms : Nat} (ht : ∀ w ∈ TBL, w.before args s = true) (h : zwB y b maxL none n ∧ Cond.instanceMethod y ∈ TBL) (hnm : y.name = "<init>") (hl : va_Nw (.methodLinkNest own index y host) s) (hR : k + 1 ≤ R.frames ∧ 8 + (maxL + 11) + (32 * k + 16) ≤ R.locals) : va_CN R s args own index y host b maxL none (Cond.code y b maxL none :: TBL) (zrn k mc ms) mc ms n ∧ y.name = "<init>" ∧ (Cond.instanceMethod y).before args s = true :=
  ⟨va_cnB n ht (tbl_good h.1.1) rfl rfl rfl hl (ht _ h.1.2.1) h.1.2.2 hR, hnm, ht _ h.2⟩
end NRows
theorem ra_i (U : State) (k : ClassId) (h : va_RA U k .int) : U.vm.findClass ("[" ++ FieldType.int.toString) = some k := h
theorem ra_b (U : State) (k : ClassId) (h : va_RA U k .byte) : U.vm.findClass ("[" ++ FieldType.byte.toString) = some k := h
theorem ra_l (U : State) (k : ClassId) (h : va_RA U k .long) : U.vm.findClass ("[" ++ FieldType.long.toString) = some k := h
theorem a0_i (N : Nat) (cA : ClassId) : vp_cell cA (N, .inl (az (fun _ => 0))) = arrV cA N (fun _ => defaultValue .int) := rfl
theorem a0_b (N : Nat) (cA : ClassId) : vp_cell cA (N, .inl (az (fun _ => 0))) = arrV cA N (fun _ => defaultValue .byte) := rfl
theorem a0_l (N : Nat) (cA : ClassId) : vp_cell cA (N, .inr (.inl (azl (fun _ => 0)))) = arrV cA N (fun _ => defaultValue .long) := rfl
