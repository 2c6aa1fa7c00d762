/-! ===== methods that throw: nothing is changed, one object is made ===== -/
/-- a static that is laid and holds a reference or null; its cell isn't of A -/
def SLs (C n d : String) (A : Nat → Prop) (U : State) (H : Heap) : Prop := ∃ (c : ClassId) (k : Class) (i : Nat) (f : Field) (a : Nat) (cell : Cell) (v : Value), U.vm.findClass C = some c ∧ U.fieldFound? C n d = some (c, k, i, f) ∧ f.isStatic = true ∧ k.statics = some a ∧ H[a]? = some cell ∧ cell.vm.isStatics = true ∧ cell.cls = c ∧ f.slot < cell.slots.size ∧ k.staticTypes[f.slot]? = some f.type ∧ cell.slots[f.slot]? = some v ∧ v.isRef = true ∧ ¬ A a
theorem SLs.moved {C n d : String} {A : Nat → Prop} {u U : State} {H : Heap} (hv : u.vm.Alike U.vm) (h : SLs C n d A u H) : SLs C n d A U H := by
  obtain ⟨c, k, i, f, a, cell, v, h1, h2, h3, h4, h5, h6, h7, h8, h9, h10⟩ := h
  obtain ⟨k', hi', he⟩ := State.fieldFound?_setVm hv h2
  exact ⟨c, k', i, f, a, cell, v, by rw [hv.findClass]; exact h1, hi', h3, by rw [he]; exact h4, h5, h6, h7, h8, by rw [he]; exact h9, h10⟩
theorem SLs.kept {C n d : String} {A : Nat → Prop} {U : State} {H H1 : Heap} (h : SLs C n d A U H) (hq : ∀ a : Nat, a < H.size → ¬ A a → H1[a]? = H[a]?) : SLs C n d A U H1 := by
  obtain ⟨c, k, i, f, a, cell, v, h1, h2, h3, h4, h5, h6, h7, h8, h9, h10, h11, h12⟩ := h
  exact ⟨c, k, i, f, a, cell, v, h1, h2, h3, h4, by rw [hq a (Array.getElem?_eq_some_iff.mp h5).1 h12]; exact h5, h6, h7, h8, h9, h10, h11, h12⟩
theorem SLs.lays {C n d : String} {A : Nat → Prop} {s : State} {args : Array Value} (h : SLs C n d A s s.heap) : (Cond.laysStatic C n d).before args s = true := by
  obtain ⟨c, k, i, f, a, cell, v, h1, h2, h3, h4, h5, h6, h7, h8, h9, h10⟩ := h
  exact Cond.laysStatic_of h1 h2 h3 h4 h5 h6 h7 h8 h9
theorem SLs.ref {C n d : String} {A : Nat → Prop} {s : State} {args : Array Value} (h : SLs C n d A s s.heap) : (Cond.isRef (.static C n d)).before args s = true := by
  obtain ⟨c, k, i, f, a, cell, v, h1, h2, h3, h4, h5, h6, h7, h8, h9, h10, h11, h12⟩ := h
  have e : (Term.static C n d).eval args s none [] s = some v := by
    simp [Term.eval, State.fieldNamed?, h2, h3, h4, h5, h6, h10]
  simp only [Cond.before, Cond.holds, Cond.value, e]
  cases v <;> first | rfl | cases h11
theorem SLs.of {C n d : String} {A : Nat → Prop} {s : State} {args : Array Value} (hl : (Cond.laysStatic C n d).before args s = true) (hr : (Cond.isRef (.static C n d)).before args s = true) (hA : ∀ a : Nat, a < s.heap.size → ¬ A a) : SLs C n d A s s.heap := by
  obtain ⟨c, k, i, f, a, cell, hc, hi, hst, ha, hcell, hs, hcls, hlt, hty⟩ := Cond.laysStatic_spec hl
  obtain ⟨v, hv, hrv⟩ := Cond.isRef_spec hr
  obtain ⟨hst', a', cell', ha', hcell', -, hslot⟩ := Term.static_spec hi hv
  cases ha.symm.trans ha'
  cases hcell.symm.trans hcell'
  exact ⟨c, k, i, f, a, cell, v, hc, hi, hst, ha, hcell, hs, hcls, hlt, hty, hslot, hrv, hA a (Array.getElem?_eq_some_iff.mp hcell).1⟩
theorem x_kept {s u : State} {k n : Nat} (h : s.sameButNew u [] k n) : s.heap.size ≤ u.heap.size ∧ ∀ q : Nat, q < s.heap.size → u.heap[q]? = s.heap[q]? := by
  obtain ⟨-, h1, -, -, -, h5⟩ := h
  refine ⟨h1, fun q hq => ?_⟩
  have e := Array.getElem?_eq_getElem hq
  obtain ⟨c', e1, e2, e3, e4⟩ := h5 q _ e
  rw [e1, e, e2]
  have e5 : c'.slots = (s.heap[q]).slots := Array.ext_getElem? (fun i => e4 i List.not_mem_nil)
  rw [e5]
def zrx (k : Nat) : Room := { frames := k, cells := 1, slots := 6, locals := 32 * k + 16 }
/-- it threw an object of E; one cell of six slots was made, nothing else changed -/
def zT (E : String) : Array Value → State → Outcome → State → Prop := fun _ st o t => ∃ (q : Nat) (ce : Cell), o = .threw q ∧ t.heap[q]? = some ce ∧ ce.vm = .none ∧ st.vm.findClass E = some ce.cls ∧ st.WarmedH t.vm ∧ st.sameButNew ({ t with vm := st.vm } : State) [] 1 6
def CtX (l : Launch) (y : MethodName) (ws : List Cond) (k : Nat) (av : List Value) (Pre : State → Heap → Prop) (E : String) : Prop := zSt Pre ∧ MetFree l y (headSpec ws (zrx k)) (zPc av Pre) (fun _ _ _ _ _ => True) (zT E)
def TQ (below : List Frame) (E : String) (a : Array Value) (s : State) : State → Prop := fun t => ∃ o, t.status = .running ∧ Ended t below o ∧ zT E a s o t
theorem x_body {l : Launch} {y : MethodName} {ws ws' : List Cond} {k : Nat} {av : List Value} {Pre : State → Heap → Prop} {E : String} {cc : ByteArray} {maxL : Nat} {ret : Option FieldType}
    (hst : zSt Pre) (hy : plainFor y = true) (hw : ws = Cond.code y cc maxL ret :: ws') (hlen : (lg_sl av).length ≤ maxL)
    (body : ∀ (p : Program) (e : Env) (s : State) (m : MethodId) (args : Array Value) (below : List Frame) (meth : Method) (c : Code) (ls : Array Slot), p.tables.exec = Jvm.exec → c.code = cc → c.maxLocals = maxL → meth.locks = false → (∀ w ∈ ws, w.before args s = true) → s.vm.findClass y.cls = some m.cls → (∀ (pc : Nat), ∀ x ∈ c.exceptionTable.toList, covers x pc = false) → Pre s s.heap → lv_has ls maxL (lv_args 0 av) →
      W p l e (zrx k) s m args below meth c s.heap [] 0 0 (TQ below E args s) (F0 m 0 ls [])) : CtX l y ws k av Pre E := by
  refine ⟨hst, MetFree.of_bodySF (code := cc) (maxLocals := maxL) (ret := ret) hy ?_ ?_⟩
  · intro args s m h hn
    obtain ⟨meth, c, h1, h2, h3, h4, h5, h6, -, -⟩ := Cond.code_spec hn (atoms_spec (ws := ws) h _ (by rw [hw]; exact List.mem_cons_self))
    exact ⟨meth, c, h1, h2, h3, h4, h5, h6⟩
  · intro p e s m args below meth c s₁ B hml hP _
    have X := Stand.of_body B
    have hh0 : s₁.heap = s.heap := by rw [B.state]; rfl
    obtain ⟨rfl, hp⟩ := hP
    have hts := atoms_spec (ws := ws) B.pre
    obtain ⟨meth', c', hm', hc', -, -, -, -, hempty, -⟩ := Cond.code_spec B.named (hts _ (by rw [hw]; exact List.mem_cons_self))
    cases B.method.symm.trans hm'
    cases X.code.symm.trans hc'
    have hnil : c.exceptionTable.toList = [] := List.eq_nil_of_length_eq_zero (by simpa [Array.isEmpty] using hempty)
    have hl := lv_entry av (n := maxL) hlen
    have hW := body p e s m _ below meth c _ B.exec B.bytes hml B.notSynchronized hts (findClass_of_methodNamed B.named) (fun pc x hx => by rw [hnil] at hx; cases hx) hp hl
    rw [← lg_entry_eq] at hW
    obtain ⟨t, a1, o, b1, b2, b3⟩ := hW s₁ hh0 X
    exact ⟨t, o, a1, b1, b2, b3⟩
