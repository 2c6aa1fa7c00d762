theorem x_find {E : CtlPost} {e : Env} {d : Bool} {acts : List Action} {s : State} {f : JFrame} {a : Addr} {Q : Handler → Pre} {x : ExceptionTableEntry} {t : List ExceptionTableEntry} {c : ClassId} {cell : Cell} {vm' : Vm} (hx : covers x f.pc = true) (h0 : x.catchType ≠ 0)
    (hg : (Jvm.resolveClass f.method.cls x.catchType).Gives e.toSetting s.vm (.ok c) vm') (hsz : vm'.classes.size ≤ s.vm.classes.size) (hcell : s.heap[a]? = some cell) (hobj : ∀ k, cell.vm ≠ .statics k)
    (hk : ∃ k, vm'.classes[cell.cls]? = some k) (hc : ∃ k, vm'.classes[c]? = some k) (hfit : vm'.assignable cell.cls c = true) :
    wp (findHandler.go f a (x :: t)) Q E e d acts s ↔ Q (.found x.handlerPc) d acts (s.setVm vm') := by
  simp only [covers] at hx
  obtain ⟨ha, ht⟩ := hg.op (op := VmOp.resolveClass f.method.cls x.catchType) rfl
  have hcell' : (s.setVm vm').heap[a]? = some cell := hcell
  have hfit' : (s.setVm vm').vm.assignable cell.cls c = true := hfit
  simp [findHandler.go, hx, h0, ha, ht, hsz, hcell, hobj, hk, hc, hfit, VmOp.dirties, VmOp.acts, VmOp.lands_eq ht hsz]
theorem x_step {e : Env} {s : State} {a : Addr} {f : JFrame} {r : List Frame} {meth : Method} {code : Code} {x : ExceptionTableEntry} {t : List ExceptionTableEntry} {c : ClassId} {cell : Cell} {vm' : Vm} (hm : s.vm.method? f.method = some meth) (hcd : meth.code = some code) (htab : code.exceptionTable.toList = x :: t) (hx : covers x f.pc = true) (h0 : x.catchType ≠ 0)
    (hg : (Jvm.resolveClass f.method.cls x.catchType).Gives e.toSetting s.vm (.ok c) vm') (hsz : vm'.classes.size ≤ s.vm.classes.size) (hcell : s.heap[a]? = some cell) (hobj : ∀ k, cell.vm ≠ .statics k)
    (hk : ∃ k, vm'.classes[cell.cls]? = some k) (hc : ∃ k, vm'.classes[c]? = some k) (hfit : vm'.assignable cell.cls c = true) :
    (stepThrowing e s a (.java f :: r)).Is ((s.setVm vm').setFrames (.java { f with pc := x.handlerPc, stack := [.ref a] } :: r)) [] := by
  simp only [stepThrowing, searchFrame, vmDo]
  generalize hr : Sem.go _ e false [] s = res
  obtain ⟨as, rfl, ha⟩ := Sem.eq_ok_of hr (a := Handler.found x.handlerPc) (s' := s.setVm vm') (acts' := []) (by simp [W.findHandler_eq hm hcd, htab, x_find (t := t) hx h0 hg hsz hcell hobj hk hc hfit])
  exact ⟨rfl, ha⟩
section XCalls
variable {p : Program} {l : Launch} {e : Env} {R : Room} {s : State} {m : MethodId} {args : Array Value} {below : List Frame} {meth : Method} {c : Code} {H : Heap} {locs : List Loc} {cells slots : Nat} {Q : State → Prop} {cc bytes : ByteArray} {pc : Nat} {ls : Array Slot} {rest st0 av : List Value} {y : MethodName} {ws : List Cond} {k maxL n index : Nat} {Pre : State → Heap → Prop} {E own C : String} {ret : Option FieldType}
theorem x_runS (hx : p.tables.exec = Jvm.exec) (hb : c.code = cc) (hml : c.maxLocals = ls.size) (hown : s.vm.findClass own = some m.cls) (hM : CtX l y ws k av Pre E) (cw : CallB R s args own index y bytes maxL ret ws (zrx k) 1 6 n ∧ (Cond.static y).before args s = true) (hp : Pre s H) (hn : av.length = n) (hstack : st0 = av.reverse ++ rest) (hW : (rest.map fun v => v.category).sum ≤ 8) (hdg : decode cc pc = .ok (.invokestatic index, 3)) (hf : cells + 1 ≤ R.cells ∧ slots + 6 ≤ R.slots) :
    XRun p l e R s m args below meth c H locs cells slots (F0 m pc ls st0) rest E := by
  intro T hT X
  obtain ⟨⟨-, -, hfr, hlo, hws, hcw, hcode, hini, hy, hlen, hl⟩, hstt⟩ := cw
  obtain ⟨mk, hnamed⟩ := Cond.code_named hcode
  obtain ⟨methM, cM, hmethM, -, -, -, -, -, -, hsigM⟩ := Cond.code_spec hnamed hcode
  have hstatic : methM.isStatic = true := Cond.static_spec hnamed hmethM hstt
  obtain ⟨kP, hkP, -⟩ := className_of_methodNamed hnamed
  have hinitP : kP.init = .initialized := Cond.initialized_spec (findClass_of_methodNamed hnamed) hkP hini
  obtain ⟨vm₁, X₁, hstep₁⟩ := X.invokestatic hx hown hl hnamed hmethM hstatic hkP hinitP hy (g := F0 m pc ls st0) rfl (argsL := av) (rest := rest) (hn.trans (hlen _ hsigM)) hstack (by rw [hb]; exact hdg)
  obtain ⟨q, ce, T', X', q1, q2, q3, q4, q5, st⟩ := x_in X₁ hM hws hcw (fun a' U hW => word_at hW (Or.inl (by first | rfl | simp [Cond.onTables, Cond.keeps, Cond.steady])) hini) hfr hlo hf.1 hf.2 (g := F0 m pc ls rest) rfl hml.symm (by rw [hb]; exact hdg) (by show 2 * 0 + (rest.map fun v => v.category).sum ≤ 8; omega) (X₁.named hnamed) (hM.1 s _ _ X₁.warmed (by rw [show (T.setVm vm₁).heap = H from hT]; exact hp))
  rw [show (T.setVm vm₁).heap = H from hT] at q4 q5
  exact ⟨q, ce, T', X', q1, q2, by rw [← X₁.warmed.alike.findClass]; exact q3, q4, q5, X'.warmed.alike, hstep₁ _ (fun acts => by rw [doInvoke_state]; exact st)⟩
theorem x_runV {b : Addr} (hx : p.tables.exec = Jvm.exec) (hb : c.code = cc) (hml : c.maxLocals = ls.size) (hown : s.vm.findClass own = some m.cls) (hM : CtX l y ws k (.ref b :: av) Pre E) (cw : CallW R s args own C index y bytes maxL ret ws (zrx k) 1 6 n) (hr : ∃ cellB : Cell, H[b]? = some cellB ∧ cellB.vm.isStatics = false ∧ s.vm.findClass C = some cellB.cls) (hp : Pre s H) (hn : av.length = n) (hstack : st0 = av.reverse ++ .ref b :: rest) (hW : (rest.map fun v => v.category).sum ≤ 8) (hdg : decode cc pc = .ok (.invokevirtual index, 3)) (hf : cells + 1 ≤ R.cells ∧ slots + 6 ≤ R.slots) :
    XRun p l e R s m args below meth c H locs cells slots (F0 m pc ls st0) rest E := by
  intro T hT X
  obtain ⟨⟨-, -, hfr, hlo, hws, hcw, hcode, hini, hy, hlen, hl⟩, hinst, hsel⟩ := cw
  obtain ⟨cellB, hcB, hobj, hcls⟩ := hr
  obtain ⟨mk, methM, hnamed, hmethM, hstM, habM⟩ := Cond.instanceMethod_spec hinst
  obtain ⟨methM', cM, hmethM', -, -, -, -, -, -, hsigM⟩ := Cond.code_spec hnamed hcode
  cases hmethM.symm.trans hmethM'
  obtain ⟨c2, r2, m2, w1, w2, w3, w4, kP, hkP, hkPi⟩ := Cond.selects_spec hsel
  cases hcls.symm.trans w1
  cases (State.methodFound?_of_named hnamed hy).symm.trans w2
  cases hnamed.symm.trans w3
  have hselP : selectMethod e.platform s.vm cellB.cls mk = .method mk := by rw [Launch.admits_selectMethod X.admits]; exact w4
  obtain ⟨vm₁, X₁, hstep₁⟩ := X.invokevirtual hx hown hl hnamed hmethM hstM hkP hkPi hy (a := b) (cell := cellB) (by rw [hT]; exact hcB)
    (fun z h => by rw [h] at hobj; cases hobj) hselP hmethM habM hkP hkPi (g := F0 m pc ls st0) rfl (argsL := av) (rest := rest) (hn.trans (hlen _ hsigM)) hstack (by rw [hb]; exact hdg)
  obtain ⟨q, ce, T', X', q1, q2, q3, q4, q5, st⟩ := x_in X₁ hM hws hcw (fun a' U hW => word_at hW (Or.inl (by first | rfl | simp [Cond.onTables, Cond.keeps, Cond.steady])) hini) hfr hlo hf.1 hf.2 (g := F0 m pc ls rest) rfl hml.symm (by rw [hb]; exact hdg) (by show 2 * 0 + (rest.map fun v => v.category).sum ≤ 8; omega) (X₁.named hnamed) (hM.1 s _ _ X₁.warmed (by rw [show (T.setVm vm₁).heap = H from hT]; exact hp))
  rw [show (T.setVm vm₁).heap = H from hT] at q4 q5
  exact ⟨q, ce, T', X', q1, q2, by rw [← X₁.warmed.alike.findClass]; exact q3, q4, q5, X'.warmed.alike, hstep₁ _ (fun acts => by rw [doInvoke_state]; exact st)⟩
/-- what a callee throws leaves the method -/
theorem x_out (hr : XRun p l e R s m args below meth c H [] 0 0 (F0 m pc ls st0) rest E) (hout : ∀ (pc : Nat), ∀ x ∈ c.exceptionTable.toList, covers x pc = false) (hlk : meth.locks = false) : W p l e R s m args below meth c H [] 0 0 (TQ below E args s) (F0 m pc ls st0) := by
  intro T hT X
  obtain ⟨q, ce, T', X', q1, q2, q3, q4, q5, q6, st⟩ := hr T hT X
  obtain ⟨a1, a2, a3, a4, a5⟩ := X'.leaveThrown q (g := F0 m pc ls rest) rfl rfl rfl (hout _) hlk
  exact ⟨_, st.trans a1, .threw q, a2, a3, q, ce, rfl, q1, q2, q3, a4, a5⟩
/-- what a callee throws is caught by the first entry -/
theorem x_catch {x : ExceptionTableEntry} {suf : List ExceptionTableEntry} (hr : XRun p l e R s m args below meth c H locs cells slots (F0 m pc ls st0) rest E) (hown : s.vm.findClass own = some m.cls) (htab : c.exceptionTable.toList = x :: suf) (hcv : covers x pc = true) (h0 : x.catchType ≠ 0) (hlink : (Cond.classLink own x.catchType E).before args s = true) (hcast : (Cond.castable E E).before args s = true)
    (kk : ∀ (q : Nat) (H1 : Heap), H.size ≤ H1.size → (∀ x : Nat, x < H.size → H1[x]? = H[x]?) → W p l e R s m args below meth c H1 locs (cells + 1) (slots + 6) Q (F0 m x.handlerPc ls [.ref q])) : W p l e R s m args below meth c H locs cells slots Q (F0 m pc ls st0) := by
  intro T hT X
  obtain ⟨q, ce, T', X', q1, q2, q3, q4, q5, q6, st⟩ := hr T hT X
  have hpl : e.platform.magicAccessors = ({} : Platform).magicAccessors := by rw [X.admits.platform]
  obtain ⟨cE, hfc, hcl⟩ := Cond.classLink_spec hown hlink e.platform hpl
  cases q3.symm.trans hfc
  obtain ⟨hg₁, hwarm₁, hready₁⟩ := State.classEntry (e := e) X'.warmed hcl
  generalize T'.vm.noted m.cls x.catchType (.cls ce.cls) = vm₁ at hg₁ hwarm₁ hready₁
  have X₁ := X'.noted hwarm₁
  obtain ⟨t, a1, b1⟩ := kk q T'.heap q4 q5 (T'.setVm vm₁) rfl X₁
  refine ⟨t, st.trans ?_, b1⟩
  obtain ⟨c0, t0, f1, f2, f3⟩ := Cond.castable_spec hcast
  cases q3.symm.trans f1
  cases q3.symm.trans f2
  obtain ⟨kE, hkE⟩ := Vm.classAt_of_findClass q3
  obtain ⟨kE', hkE', -⟩ := hwarm₁.alike.2.2 _ _ hkE
  have hal : T'.vm.Alike vm₁ := X'.warmed.alike.symm.trans hwarm₁.alike
  have h : At T' (F0 m pc ls rest).method c below := X'.here
  obtain ⟨hgo, hw⟩ := h.throwing q
  refine Steps.head hgo hw ?_
  have hm' : ((T'.setTop (F0 m pc ls rest)).pushFrame (.throwing q)).vm.method? (F0 m pc ls rest).method = some meth := by
    rw [Stand.throwing_vm]
    exact X'.method'
  rw [stepThread_throwing (frames_entered h.top _),
    (x_step (s := (T'.setTop (F0 m pc ls rest)).pushFrame (.throwing q)) (vm' := vm₁) (c := ce.cls) (cell := ce) hm' X'.code htab hcv h0 (by rw [Stand.throwing_vm]; exact hg₁) (by rw [Stand.throwing_vm]; exact Vm.Alike.size_le hal) (by rw [Stand.throwing_heap]; exact q1) (fun k h => by rw [q2] at h; cases h) ⟨kE', hkE'⟩ ⟨kE', hkE'⟩ (by rw [hwarm₁.alike.assignable]; exact f3)).1]
  obtain ⟨g₀, hg⟩ := Option.isSome_iff_exists.mp h.top
  obtain ⟨r, hr⟩ := State.topJava?_eq_some.mp hg
  have hr' : (T'.setVm vm₁).frames = .java g₀ :: r := hr
  rw [State.setTop_of_frames _ hr'] at a1
  have e9 : ((T'.setTop (F0 m pc ls rest)).pushFrame (.throwing q)).setVm vm₁ = (T'.setVm vm₁).setFrames (.throwing q :: .java (F0 m pc ls rest) :: r) := by
    rw [State.pushFrame, State.frames_setTop _ hr, State.setTop_of_frames _ hr, State.setFrames_setFrames]
    rfl
  rw [e9, State.setFrames_setFrames, hr]
  exact a1
end XCalls
