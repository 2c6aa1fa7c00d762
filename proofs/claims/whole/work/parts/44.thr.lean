section XThrow
variable {p : Program} {l : Launch} {e : Env} {R : Room} {s : State} {m : MethodId} {args : Array Value} {below : List Frame} {meth : Method} {c : Code} {H H0 : Heap} {locs : List Loc} {cells slots : Nat} {Q : State → Prop} {cc : ByteArray} {pc : Nat} {ls : Array Slot} {rest st0 : List Value} {A : Nat → Prop} {a : Array Value} {Post : Option Value → State → Heap → Prop}
/-- new, dup, ldc, the constructor, athrow -/
theorem x_throw {k : Nat} (hk : 6 ≤ k) {E : String} (hx : p.tables.exec = Jvm.exec) (hb : c.code = cc) (htr : ∀ e : Env, l.admits e → e.platform.stackTraces = false) {own tx : String} {i1 i2 i3 kq : Nat} {names : List String} (hown : s.vm.findClass own = some m.cls) (hfit : Bundle.fit E = true) (hnames : ∀ n ∈ names, Bundle.fit n = true) (hnl : names.length = 2)
    (hat : ∀ w ∈ Bundle.ownAtoms own i3 E names, w.before args s = true) (hcl : (Cond.classLink own i1 E).before args s = true) (hini : (Cond.initialized E).before args s = true) (hm : vk_R own i2 tx kq s)
    (hz : s.heap.size ≤ H.size) (hls : ls.size = c.maxLocals) (hout : ∀ (pc : Nat), ∀ x ∈ c.exceptionTable.toList, covers x pc = false) (hlk : meth.locks = false)
    (d0 : decode cc pc = .ok (.new i1, 3)) (d1 : decode cc (pc + 3) = .ok (.dup, 1)) (d2 : decode cc (pc + 4) = .ok (.ldc i2, 2)) (d3 : decode cc (pc + 6) = .ok (.invokespecial i3, 3)) (d4 : decode cc (pc + 9) = .ok (.athrow, 1)) :
    W p l e (zrx k) s m args below meth c H [] 0 0 (TQ below E args s) (F0 m pc ls []) := by
  refine W.newc (n := 6) hx hb hown hcl (hat (.instantiable E 6) (by simp [Bundle.ownAtoms])) hini rfl d0 (Nat.le_refl _) (Nat.le_refl _) (fun cC kC h1 h2 h3 h4 => ?_)
  refine W.eq (g2 := F0 m (pc + 3) ls [.ref H.size]) rfl ?_
  refine lv_dup hx hb d1 rfl ?_
  refine va_ldcS hx hb hown hm d2 ?_
  intro T hT X
  have hcell : T.heap[H.size]? = some (freshCell cC kC) := by
    rw [hT]
    simp [freshCell]
  obtain ⟨U, st, hrun, hend, hW, hsame, ce, hce, hO⟩ := X.ctorThrowS hx (htr e X.admits) hown hfit hnames hat (fun x h => by cases h) h1 h2 hcell hz (msg := .ref kq) rfl (g := F0 m (pc + 6) ls [.ref kq, .ref H.size, .ref H.size]) rfl hls rfl rfl (rest := []) rfl (by rw [hb]; exact d3) (by rw [hb]; exact d4) (hout _) (by rw [hnl]; show 5 < k; omega) (by rw [hnl]; show _ ≤ 32 * k + 16; simp [JFrame.monitorRoom, Value.category]; omega) hlk
  exact ⟨U, st, .threw H.size, hrun, hend, H.size, ce, rfl, hce, hO.vm, hO.cls, hW, hsame⟩
/-- a call that throws: where the walk then stands -/
def XRun (p : Program) (l : Launch) (e : Env) (R : Room) (s : State) (m : MethodId) (args : Array Value) (below : List Frame) (meth : Method) (c : Code) (H : Heap) (locs : List Loc) (cells slots : Nat) (g : JFrame) (rest : List Value) (E : String) : Prop :=
  ∀ T : State, T.heap = H → Stand p l e R s m args below meth c T locs cells slots → ∃ (q : Nat) (ce : Cell) (T' : State), Stand p l e R s m args below meth c T' locs (cells + 1) (slots + 6) ∧ T'.heap[q]? = some ce ∧ ce.vm = .none ∧ s.vm.findClass E = some ce.cls ∧ H.size ≤ T'.heap.size ∧ (∀ x : Nat, x < H.size → T'.heap[x]? = H[x]?) ∧ s.vm.Alike T'.vm ∧
    Steps p.tables e below (T.setTop g) ((T'.setTop { g with stack := rest }).pushFrame (.throwing q))
theorem x_in {U : State} {y : MethodName} {ws : List Cond} {k : Nat} {av : List Value} {Pre : State → Heap → Prop} {E : String} {bytes : ByteArray} {maxL : Nat} {ret : Option FieldType} (X : Stand p l e R s m args below meth c U locs cells slots) (hM : CtX l y ws k av Pre E) (hws : ∀ w ∈ ws, ∀ (a' : Array Value) (U : State), s.WarmedH U.vm → w.before a' U = true) (hcw : Cond.code y bytes maxL ret ∈ ws) (hini : ∀ (a' : Array Value) (U : State), s.WarmedH U.vm → (Cond.initialized y.cls).before a' U = true)
    (hfr : k + 1 ≤ R.frames) (hlo : 8 + (maxL + 11) + (32 * k + 16) ≤ R.locals) (hc : cells + 1 ≤ R.cells) (hs : slots + 6 ≤ R.slots) {g : JFrame} (hg : g.method = m) (hsize : g.locals.size = c.maxLocals) {ig : Instr} {len : Nat} (hdg : decode c.code g.pc = .ok (ig, len)) (hW8 : 2 * g.monitorRoom + (g.stack.map fun v => v.category).sum ≤ 8)
    {mk : MethodId} (hn : U.methodNamed? y = some mk) (hp : Pre U U.heap) :
    ∃ (q : Nat) (ce : Cell) (T' : State), Stand p l e R s m args below meth c T' locs (cells + 1) (slots + 6) ∧ T'.heap[q]? = some ce ∧ ce.vm = .none ∧ U.vm.findClass E = some ce.cls ∧ U.heap.size ≤ T'.heap.size ∧ (∀ x : Nat, x < U.heap.size → T'.heap[x]? = U.heap[x]?) ∧
      Steps p.tables e below (doInvoke e (U.setTop g) [] mk av.toArray).1 ((T'.setTop g).pushFrame (.throwing q)) := by
  have h2 := hws _ hcw av.toArray U X.warmed
  have h3 := hini av.toArray U X.warmed
  obtain ⟨methY, cY, hmY, hcY, -, hlY, -, -, -, -⟩ := Cond.code_spec hn h2
  obtain ⟨kY, hkY, -⟩ := className_of_methodNamed hn
  have hinitY : kY.init = .initialized := Cond.initialized_spec (findClass_of_methodNamed hn) hkY h3
  have h : At U g.method c below := by rw [hg]; exact X.here
  have happ : (headSpec ws (zrx k)).appliesLoose y e.platform (U.calling g mk av.toArray) = true :=
    Spec.appliesLoose_calling (g := g) h hdg hn hkY hinitY
      (X.room_calling (g := g) (R' := (headSpec ws (zrx k)).room) hsize hmY hcY hfr (by rw [hlY]; show _ + _ + (_ + _) + (32 * k + 16) ≤ _; omega) hc hs) (atoms_intro fun w hw => hws w hw _ _ X.warmed)
  obtain ⟨mid, hmid⟩ := h.above
  have hfrm : (U.setTop g).frames = (.java g :: mid) ++ below := by rw [State.frames_setTop' g h.top, hmid]; rfl
  obtain ⟨o, s₂, hsteps, -, hend, hq⟩ := Steps.callFree hM.2 p X.admits X.cas X.clock (acts := []) hfrm happ ⟨rfl, hM.1 U (U.calling g mk av.toArray) U.heap (State.WarmedH.refl U) hp⟩ trivial
  have hq' : zT E av.toArray (U.calling g mk av.toArray) o s₂ := hq
  rw [State.frames_setTop' g h.top] at hend
  obtain ⟨q, ce, rfl, q1, q2, q3, q4, q5⟩ := hq'
  have hend' : Ended s₂ (.java g :: below) (.threw q) := by
    rw [← X.tail]
    exact hend
  obtain ⟨T', X', hW', hsame', ht⟩ := X.outOfThrown hg hend' q4 q5
  have hk9 := x_kept hsame'
  have hh : s₂.heap = T'.heap := by rw [ht]; exact Stand.throwing_heap T' g q
  refine ⟨q, ce, T', ?_, by rw [← hh]; exact q1, q2, q3, hk9.1, hk9.2, by rw [← ht]; exact hsteps⟩
  have := X'
  rw [List.append_nil] at this
  exact this
end XThrow
