/-! contracts of methods that make no cell -/
def zrm (k : Nat) : Room := { frames := k, cells := 0, slots := 0, locals := 32 * k + 16 }
def zQ (A : Nat → Prop) (Post : Option Value → State → Heap → Prop) : Array Value → State → Outcome → State → Prop := fun _ st oc t => (∃ v, oc = .returned v ∧ Post v t t.heap) ∧ va_F A st t
def zPc (av : List Value) (Pre : State → Heap → Prop) : Array Value → State → Prop := fun v U => v = av.toArray ∧ Pre U U.heap
/-- a fact of the tables and the heap that warmer tables keep; one that like tables keep -/
def zSt (P : State → Heap → Prop) : Prop := ∀ (u U : State) (H : Heap), u.WarmedH U.vm → P u H → P U H
def zSa (P : State → Heap → Prop) : Prop := ∀ (u U : State) (H : Heap), u.vm.Alike U.vm → P u H → P U H
theorem zSt_of {P : State → Heap → Prop} (h : zSa P) : zSt P := fun u U H hw => h u U H hw.alike
def Ct (l : Launch) (y : MethodName) (ws : List Cond) (k : Nat) (A : Nat → Prop) (av : List Value) (Pre : State → Heap → Prop) (Post : Option Value → State → Heap → Prop) : Prop :=
  zSt Pre ∧ Met l y ws (zrm k) (zPc av Pre) (zQ A Post) 0 0 A
theorem z_blind {av : List Value} {Pre : State → Heap → Prop} (h : zSt Pre) : FrameBlind (zPc av Pre) := fun a U g mk q => ⟨q.1, h U (U.calling g mk a) U.heap (State.WarmedH.refl U) q.2⟩
theorem z_preS {s : State} {H : Heap} {av : List Value} {Pre : State → Heap → Prop} (h : zSt Pre) (hp : Pre s H) : PreS s H (zPc av Pre) av :=
  ⟨z_blind h, fun U hU hW => ⟨rfl, by rw [hU]; exact h s U H hW hp⟩⟩
theorem z_preV {s : State} {H : Heap} {C : String} {b : Addr} {av : List Value} {Pre : State → Heap → Prop} (h : zSt Pre) (hr : ∃ cellB : Cell, H[b]? = some cellB ∧ cellB.vm.isStatics = false ∧ s.vm.findClass C = some cellB.cls) (hp : Pre s H) : PreV s H C b (zPc (.ref b :: av) Pre) av :=
  ⟨z_blind h, hr, fun U hU hW => ⟨rfl, by rw [hU]; exact h s U H hW hp⟩⟩
theorem z_body {l : Launch} {y : MethodName} {ws ws' : List Cond} {k : Nat} {A : Nat → Prop} {av : List Value} {Pre : State → Heap → Prop} {Post : Option Value → State → Heap → Prop} {cc : ByteArray} {maxL : Nat} {ret : Option FieldType}
    (hst : zSt Pre) (hy : plainFor y = true) (hw : ws = Cond.code y cc maxL ret :: ws') (hlen : (lg_sl av).length ≤ maxL)
    (body : ∀ (p : Program) (e : Env) (s : State) (m : MethodId) (args : Array Value) (below : List Frame) (meth : Method) (c : Code) (ls : Array Slot), p.tables.exec = Jvm.exec → c.code = cc → c.maxLocals = maxL → meth.sig.returnType = ret → meth.locks = false → (∀ w ∈ ws, w.before args s = true) → s.vm.findClass y.cls = some m.cls → Pre s s.heap → ∀ (H : Heap) (locs : List Loc), Pre s H → va_S A s.heap H locs → lv_has ls maxL (lv_args 0 av) →
      W p l e (zrm k) s m args below meth c H locs 0 0 (MQ below (zQ A Post) args s 0 0 A) (F0 m 0 ls [])) : Ct l y ws k A av Pre Post := by
  refine ⟨hst, va_MetF (cc := cc) (maxL := maxL) (ret := ret) hy hw ?_⟩
  intro p e s m args below meth c s₁ B hml hv
  obtain ⟨rfl, hp⟩ := hv
  have hl := lv_entry av (n := maxL) hlen
  rw [lg_entry_eq]
  exact body p e s m _ below meth c _ B.exec B.bytes hml B.returns B.notSynchronized (atoms_spec (ws := ws) B.pre) (findClass_of_methodNamed B.named) hp _ _ hp va_S.rf hl
section ZCalls
variable {p : Program} {l : Launch} {e : Env} {R : Room} {s : State} {m : MethodId} {args : Array Value} {below : List Frame} {meth : Method} {c : Code} {H H0 : Heap} {locs : List Loc} {cells slots : Nat} {Q : State → Prop} {cc : ByteArray} {pc : Nat} {ls : Array Slot} {rest st0 : List Value} {A A1 : Nat → Prop} {a : Array Value} {Post : Option Value → State → Heap → Prop}
theorem z_go (hr : va_Run p l e R s m args below meth c H locs cells slots 0 0 (F0 m pc ls st0) rest (zQ A1 Post a) A1) (hS : va_S A H0 H locs) (hA : ∀ q, A1 q → A q)
    (kk : ∀ (v : Option Value) (t : State) (H1 : Heap) (locs1 : List Loc), s.vm.Alike t.vm → Post v t H1 → H.size ≤ H1.size → (∀ q : Nat, q < H.size → ¬ A1 q → H1[q]? = H[q]?) → va_S A H0 H1 locs1 → W p l e R s m args below meth c H1 locs1 cells slots Q (F0 m (pc + 3) ls (v.toList ++ rest))) : W p l e R s m args below meth c H locs cells slots Q (F0 m pc ls st0) := by
  intro T hT X
  obtain ⟨v, st₀, t, T', L, h0, X', hL, e1, e2, ⟨⟨u, hv, hp⟩, hz, hk⟩, st⟩ := hr T hT X
  cases hv
  rw [h0] at hz hk
  obtain ⟨t2, a1, b1⟩ := kk v t T'.heap (locs ++ L) (by rw [← e2]; exact X'.warmed.alike) (by rw [e1]; exact hp) (by rw [e1]; exact hz) (fun q h1 h2 => by rw [e1]; exact hk q h1 h2)
    ⟨Nat.le_trans hS.1 (by rw [e1]; exact hz), fun q h1 h2 => by rw [e1, hk q (Nat.lt_of_lt_of_le h1 hS.1) (fun z => h2 (hA q z))]; exact hS.2.1 q h1 h2, fun q hq => by
      rcases List.mem_append.mp hq with h | h
      · exact hS.2.2 q h
      · exact hA _ (hL q h)⟩ T' rfl X'
  exact ⟨t2, st t2 a1, b1⟩
theorem z_iret {x : Int32} (hx : p.tables.exec = Jvm.exec) (hb : c.code = cc) (hr : meth.sig.returnType = some .int) (hlk : meth.locks = false) (hS : va_S A s.heap H locs) (hst : zSt (Post (some (.int x)))) (hp : Post (some (.int x)) s H) (hdg : decode cc pc = .ok (.ireturn, 1)) :
    W p l e R s m args below meth c H locs cells slots (MQ below (zQ A Post) args s cells slots A) (F0 m pc ls [.int x]) :=
  W.iret hx hb hr (fun t ht hW => ⟨⟨_, rfl, by rw [ht]; exact hst s t H hW hp⟩, hS.F ht⟩) hS.2.2 hdg hlk
theorem z_zret {x : Int32} {ty : FieldType} (hx : p.tables.exec = Jvm.exec) (hb : c.code = cc) (hr : meth.sig.returnType = some ty) (hn : narrow ty (.int x) = .int x) (hlk : meth.locks = false) (hS : va_S A s.heap H locs) (hst : zSt (Post (some (.int x)))) (hp : Post (some (.int x)) s H) (hdg : decode cc pc = .ok (.ireturn, 1)) :
    W p l e R s m args below meth c H locs cells slots (MQ below (zQ A Post) args s cells slots A) (F0 m pc ls [.int x]) :=
  W.zret hx hb hr hn (fun t ht hW => ⟨⟨_, rfl, by rw [ht]; exact hst s t H hW hp⟩, hS.F ht⟩) hS.2.2 hdg hlk
theorem z_lret {x : Int64} (hx : p.tables.exec = Jvm.exec) (hb : c.code = cc) (hr : meth.sig.returnType = some .long) (hlk : meth.locks = false) (hS : va_S A s.heap H locs) (hst : zSt (Post (some (.long x)))) (hp : Post (some (.long x)) s H) (hdg : decode cc pc = .ok (.lreturn, 1)) :
    W p l e R s m args below meth c H locs cells slots (MQ below (zQ A Post) args s cells slots A) (F0 m pc ls [.long x]) :=
  W.lret hx hb hr (fun t ht hW => ⟨⟨_, rfl, by rw [ht]; exact hst s t H hW hp⟩, hS.F ht⟩) hS.2.2 hdg hlk
theorem z_vret (hx : p.tables.exec = Jvm.exec) (hb : c.code = cc) (hr : meth.sig.returnType = none) (hlk : meth.locks = false) (hS : va_S A s.heap H locs) (hst : zSt (Post none)) (hp : Post none s H) (hdg : decode cc pc = .ok (.return_, 1)) :
    W p l e R s m args below meth c H locs cells slots (MQ below (zQ A Post) args s cells slots A) (F0 m pc ls []) :=
  W.vret hx hb hr (fun t ht hW => ⟨⟨_, rfl, by rw [ht]; exact hst s t H hW hp⟩, hS.F ht⟩) hS.2.2 hdg hlk
end ZCalls
/-- a world of cells, with the tables that it needs -/
def Wl (D : va_G) (cl : List vw_C) (tys : List (ClassId × FieldType)) (A : Nat → Prop) (ws : va_W) (U : State) (H : Heap) : Prop := va_K D cl tys U ∧ va_P D cl ws H ∧ va_D A ws
theorem Wl.moved {D : va_G} {cl : List vw_C} {tys : List (ClassId × FieldType)} {A : Nat → Prop} {ws : va_W} {u U : State} {H : Heap} (hv : u.vm.Alike U.vm) (h : Wl D cl tys A ws u H) : Wl D cl tys A ws U H := ⟨va_K.moved hv h.1, h.2⟩
theorem zSt_and {P Q : State → Heap → Prop} (h1 : zSt P) (h2 : zSt Q) : zSt (fun U H => P U H ∧ Q U H) := fun u U H hv h => ⟨h1 u U H hv h.1, h2 u U H hv h.2⟩
theorem zSt_ex {S : Type} {P : S → State → Heap → Prop} (h : ∀ x, zSt (P x)) : zSt (fun U H => ∃ x, P x U H) := fun u U H hv ⟨x, hx⟩ => ⟨x, h x u U H hv hx⟩
theorem zSt_c {P : Prop} : zSt (fun _ _ => P) := fun _ _ _ _ h => h
theorem zSt_Wl {D : va_G} {cl : List vw_C} {tys : List (ClassId × FieldType)} {A : Nat → Prop} {ws : va_W} : zSt (Wl D cl tys A ws) := fun _ _ _ hv h => Wl.moved hv.alike h
theorem zSa_Wl {D : va_G} {cl : List vw_C} {tys : List (ClassId × FieldType)} {A : Nat → Prop} {ws : va_W} : zSa (Wl D cl tys A ws) := fun _ _ _ hv h => Wl.moved hv h

def zwB (y : MethodName) (b : ByteArray) (maxL : Nat) (ret : Option FieldType) (n : Nat) : Prop := Cond.code y b maxL ret ∈ TBL ∧ Cond.initialized y.cls ∈ TBL ∧ (y.cls ≠ "java/lang/invoke/MethodHandle" ∧ y.cls ≠ "java/lang/invoke/VarHandle" ∧ (parseMethodDescriptor y.desc).map (fun d => d.parameters.length) = some n)
def zwV (y : MethodName) (b : ByteArray) (maxL : Nat) (ret : Option FieldType) (n : Nat) : Prop := zwB y b maxL ret n ∧ Cond.instanceMethod y ∈ TBL ∧ Cond.selects y.cls y y ∈ TBL
def zwS (y : MethodName) (b : ByteArray) (maxL : Nat) (ret : Option FieldType) (n : Nat) : Prop := zwB y b maxL ret n ∧ Cond.static y ∈ TBL
theorem tbl_good {c : Cond} (hc : c ∈ TBL) : GoodIn TBL (c :: TBL) := fun w h => by
  have hw : w ∈ TBL := by
    rcases List.mem_cons.mp h with h | h
    · rw [h]; exact hc
    · exact h
  exact ⟨hw, good_of_word (List.mem_filter.mp hw).2⟩
theorem z_cwB {R : Room} {s : State} {args : Array Value} {own : String} {index : Nat} {y : MethodName} {b : ByteArray} {maxL n k : Nat} {ret : Option FieldType} (ht : ∀ w ∈ TBL, w.before args s = true) (h : zwB y b maxL ret n) (hl : Cond.methodLink own index y ∈ TBL) (hR : k + 1 ≤ R.frames ∧ 8 + (maxL + 11) + (32 * k + 16) ≤ R.locals) : CallB R s args own index y b maxL ret (Cond.code y b maxL ret :: TBL) (zrm k) 0 0 n :=
  callB_of n ht (tbl_good h.1) rfl rfl rfl (ht _ h.2.1) (ht _ hl) h.2.2 hR
theorem z_cwV {R : Room} {s : State} {args : Array Value} {own : String} {index : Nat} {y : MethodName} {b : ByteArray} {maxL n k : Nat} {ret : Option FieldType} (ht : ∀ w ∈ TBL, w.before args s = true) (h : zwV y b maxL ret n) (hl : Cond.methodLink own index y ∈ TBL) (hR : k + 1 ≤ R.frames ∧ 8 + (maxL + 11) + (32 * k + 16) ≤ R.locals) : CallW R s args own y.cls index y b maxL ret (Cond.code y b maxL ret :: TBL) (zrm k) 0 0 n :=
  ⟨z_cwB ht h.1 hl hR, ht _ h.2.1, ht _ h.2.2⟩
theorem z_cwS {R : Room} {s : State} {args : Array Value} {own : String} {index : Nat} {y : MethodName} {b : ByteArray} {maxL n k : Nat} {ret : Option FieldType} (ht : ∀ w ∈ TBL, w.before args s = true) (h : zwS y b maxL ret n) (hl : Cond.methodLink own index y ∈ TBL) (hR : k + 1 ≤ R.frames ∧ 8 + (maxL + 11) + (32 * k + 16) ≤ R.locals) : CallB R s args own index y b maxL ret (Cond.code y b maxL ret :: TBL) (zrm k) 0 0 n ∧ (Cond.static y).before args s = true :=
  ⟨z_cwB ht h.1 hl hR, ht _ h.2⟩
