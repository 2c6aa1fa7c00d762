/-! the law's three helpers: contracts that may make one object -/
abbrev AHx (x d la t ba ou : Nat) : Nat → Prop := fun q => AX x d la t ba q ∨ q = ou
theorem STX.narrow {A B : Nat → Prop} {tt : Nat} {ad : Nat → Nat} {U : State} {H : Heap} (h : STX A tt ad U H) (hAB : ∀ q, B q → A q) : STX B tt ad U H := ⟨h.1.narrow hAB, h.2.1.narrow hAB, h.2.2.narrow hAB⟩
def OUw (D : va_G) (cL : ClassId) (ou : Nat) (g : Int → Int) (U : State) (H : Heap) : Prop := va_K D vwCl [(cL, .long)] U ∧ va_P D vwCl [(ou, .inl (cL, 1, .inr (.inl (azl g))))] H
theorem OUw.moved {D : va_G} {cL : ClassId} {ou : Nat} {g : Int → Int} {u U : State} {H : Heap} (hv : u.vm.Alike U.vm) (h : OUw D cL ou g u H) : OUw D cL ou g U H := ⟨va_K.moved hv h.1, h.2⟩
theorem OUw.kept {D : va_G} {cL : ClassId} {ou : Nat} {g : Int → Int} {U : State} {H H1 : Heap} (h : OUw D cL ou g U H) (hq : H1[ou]? = H[ou]?) : OUw D cL ou g U H1 := ⟨h.1, h.2.kept (fun k q hk => by
  have hz : k < 1 := (List.getElem?_eq_some_iff.mp hk).1
  rw [show k = 0 by omega] at hk
  cases hk
  exact hq)⟩
theorem OUw.lt {D : va_G} {cL : ClassId} {ou : Nat} {g : Int → Int} {U : State} {H : Heap} (h : OUw D cL ou g U H) : ou < H.size := (h.2 0 _ rfl).lt
theorem XO.by {D : va_G} {cI cB : ClassId} {x d la t ba tt : Nat} {ad : Nat → Nat} {tx : List Int} {U : State} {H H1 : Heap} (h : XO D cI cB x d la t ba tt ad tx U H) (hst : STX (AX x d la t ba) tt ad U H1) (hq : ∀ q, q < H.size → AX x d la t ba q → H1[q]? = H[q]?) : XO D cI cB x d la t ba tt ad tx U H1 := by
  obtain ⟨V, lt, f, fi, g, n, ⟨hK, hP, hD⟩, hdec, htx, -⟩ := h
  exact ⟨V, lt, f, fi, g, n, ⟨hK, hP.kept (fun k q hk => hq _ (hP k q hk).lt (hD.2 k q hk)), hD⟩, hdec, htx, hst⟩
theorem XO.st {D : va_G} {cI cB : ClassId} {x d la t ba tt : Nat} {ad : Nat → Nat} {tx : List Int} {U : State} {H : Heap} (h : XO D cI cB x d la t ba tt ad tx U H) : STX (AX x d la t ba) tt ad U H := h.choose_spec.st
theorem XO.all {D : va_G} {cI cB : ClassId} {x d la t ba tt : Nat} {ad : Nat → Nat} {tx : List Int} {U : State} {H H1 : Heap} (h : XO D cI cB x d la t ba tt ad tx U H) (hq : ∀ q, q < H.size → H1[q]? = H[q]?) : XO D cI cB x d la t ba tt ad tx U H1 := h.by (h.st.kept (fun a h1 _ => hq a h1)) (fun q h1 _ => hq q h1)
theorem XO.len {D : va_G} {cI cB : ClassId} {x d la t ba tt : Nat} {ad : Nat → Nat} {tx : List Int} {U : State} {H : Heap} (h : XO D cI cB x d la t ba tt ad tx U H) : tx.length ≤ 1612 := by
  obtain ⟨V, lt, f, fi, g, n, -, -, htx, -⟩ := h
  exact htx.2.1
theorem XO.recv {D : va_G} {cI cB : ClassId} {x d la t ba tt : Nat} {ad : Nat → Nat} {tx : List Int} {U : State} {H : Heap} (h : XO D cI cB x d la t ba tt ad tx U H) : ∃ cell : Cell, H[x]? = some cell ∧ cell.vm.isStatics = false ∧ U.vm.findClass "ExactNotation" = some cell.cls := by
  obtain ⟨V, lt, f, fi, g, n, ⟨hK, hP, hD⟩, -⟩ := h
  exact va_recv hK hP (ci := 0) (q0 := 0) rfl rfl
def LWd (D : va_G) (cI cB cL : ClassId) (x d la t ba tt : Nat) (ad : Nat → Nat) (ou : Nat) (tx : List Int) (g : Int → Int) (U : State) (H : Heap) : Prop := XO D cI cB x d la t ba tt ad tx U H ∧ OUw D cL ou g U H ∧ ¬ AX x d la t ba ou ∧ STX (AHx x d la t ba ou) tt ad U H
theorem zSa_LWd {D : va_G} {cI cB cL : ClassId} {x d la t ba tt : Nat} {ad : Nat → Nat} {ou : Nat} {tx : List Int} {g : Int → Int} : zSa (LWd D cI cB cL x d la t ba tt ad ou tx g) := fun _ _ _ hv h => ⟨zSa_XO _ _ _ hv h.1, h.2.1.moved hv, h.2.2.1, h.2.2.2.moved hv⟩
theorem zSt_LWd {D : va_G} {cI cB cL : ClassId} {x d la t ba tt : Nat} {ad : Nat → Nat} {ou : Nat} {tx : List Int} {g : Int → Int} : zSt (LWd D cI cB cL x d la t ba tt ad ou tx g) := zSt_of zSa_LWd
theorem LWd.all {D : va_G} {cI cB cL : ClassId} {x d la t ba tt : Nat} {ad : Nat → Nat} {ou : Nat} {tx : List Int} {g : Int → Int} {U : State} {H H1 : Heap} (h : LWd D cI cB cL x d la t ba tt ad ou tx g U H) (hq : ∀ q, q < H.size → H1[q]? = H[q]?) : LWd D cI cB cL x d la t ba tt ad ou tx g U H1 := ⟨h.1.all hq, h.2.1.kept (hq _ h.2.1.lt), h.2.2.1, h.2.2.2.kept (fun a h1 _ => hq a h1)⟩
def CtL (l : Launch) (y : MethodName) (ws : List Cond) (k : Nat) (A : Nat → Prop) (av : List Value) (Pre : State → Heap → Prop) (Post : Option Value → State → Heap → Prop) : Prop :=
  zSt Pre ∧ Met l y ws (zrx k) (zPc av Pre) (zQ A Post) 1 6 A
theorem l_body {l : Launch} {y : MethodName} {ws ws' : List Cond} {k : Nat} {A : Nat → Prop} {av : List Value} {Pre : State → Heap → Prop} {Post : Option Value → State → Heap → Prop} {cc : ByteArray} {maxL : Nat} {ret : Option FieldType} {h1 h2 h3 h4 : Nat}
    (hst : zSt Pre) (hy : plainName y.cls = true) (hw : ws = Cond.codeWith y cc maxL ret [(h1, h2, h3, h4)] :: ws') (hlen : (lg_sl av).length ≤ maxL)
    (body : ∀ (p : Program) (e : Env) (s : State) (m : MethodId) (args : Array Value) (below : List Frame) (meth : Method) (c : Code) (ls : Array Slot), p.tables.exec = Jvm.exec → c.code = cc → c.maxLocals = maxL → meth.sig.returnType = ret → meth.locks = false → (∀ w ∈ ws, w.before args s = true) → s.vm.findClass y.cls = some m.cls → (∃ x : ExceptionTableEntry, c.exceptionTable.toList = [x] ∧ x.startPc = h1 ∧ x.endPc = h2 ∧ x.handlerPc = h3 ∧ x.catchType = h4) → Pre s s.heap → lv_has ls maxL (lv_args 0 av) →
      W p l e (zrx k) s m args below meth c s.heap [] 0 0 (MQ below (zQ A Post) args s 1 6 A) (F0 m 0 ls [])) : CtL l y ws k A av Pre Post := by
  refine ⟨hst, va_MetW (cc := cc) (maxL := maxL) (ret := ret) hy hw ?_⟩
  intro p e s m args below meth c s₁ B hml hv
  obtain ⟨rfl, hp⟩ := hv
  have hl := lv_entry av (n := maxL) hlen
  have hts := atoms_spec (ws := ws) B.pre
  have X := Stand.of_body B
  obtain ⟨m9, meth', c', hn9, hm', hc', -, -, htab, -⟩ := Cond.codeWith_spec (hts _ (by rw [hw]; exact List.mem_cons_self))
  cases B.named.symm.trans hn9
  cases B.method.symm.trans hm'
  cases X.code.symm.trans hc'
  have htab' : ∃ x : ExceptionTableEntry, c.exceptionTable.toList = [x] ∧ x.startPc = h1 ∧ x.endPc = h2 ∧ x.handlerPc = h3 ∧ x.catchType = h4 := by
    obtain ⟨x, suf, e1, e2, e3⟩ := List.map_eq_cons_iff.mp htab
    have e4 : suf = [] := List.map_eq_nil_iff.mp e3
    subst e4
    simp only [Prod.mk.injEq] at e2
    exact ⟨x, e1, e2.1, e2.2.1, e2.2.2.1, e2.2.2.2⟩
  rw [lg_entry_eq]
  exact body p e s m _ below meth c _ B.exec B.bytes hml B.returns B.notSynchronized hts (findClass_of_methodNamed B.named) htab' hp hl
section LHelp
variable {p : Program} {l : Launch} {e : Env} {R : Room} {s : State} {m : MethodId} {args : Array Value} {below : List Frame} {meth : Method} {c : Code} {H H0 : Heap} {locs : List Loc} {cells slots : Nat} {Q : State → Prop} {cc bytes : ByteArray} {pc : Nat} {ls : Array Slot} {rest st0 av : List Value} {y : MethodName} {ws : List Cond} {k maxL n index : Nat} {Pre : State → Heap → Prop} {Post : Option Value → State → Heap → Prop} {own : String} {ret : Option FieldType} {A A1 : Nat → Prop} {a : Array Value}
theorem l_widen {k9 n9 : Nat} {g : JFrame} (h1 : cells ≤ k9) (h2 : slots ≤ n9) (kk : W p l e R s m args below meth c H locs k9 n9 Q g) : W p l e R s m args below meth c H locs cells slots Q g := fun T hT X => kk T hT (stand_widen X h1 h2)
theorem l_last {D : va_G} {cI cB cL : ClassId} {x d la t ba tt : Nat} {ad : Nat → Nat} {ou : Nat} {tx : List Int} {g : Int → Int} {v : Int} (hx : p.tables.exec = Jvm.exec) (hb : c.code = cc) (hw : XO D cI cB x d la t ba tt ad tx s H) (ho : OUw D cL ou g s H) (hne : ¬ AX x d la t ba ou) (hst : STX (AHx x d la t ba ou) tt ad s s.heap) (hS : va_S (AHx x d la t ba ou) s.heap H locs) (hdg : decode cc pc = .ok (.lastore, 1))
    (kk : ∀ (H1 : Heap) (locs1 : List Loc), LWd D cI cB cL x d la t ba tt ad ou tx (up g 0 v) s H1 → va_S (AHx x d la t ba ou) s.heap H1 locs1 → W p l e R s m args below meth c H1 locs1 cells slots Q (F0 m (pc + 1) ls rest)) : W p l e R s m args below meth c H locs cells slots Q (F0 m pc ls (.long (lz v) :: .int (iz 0) :: .ref ou :: rest)) := by
  obtain ⟨V, lt, f, fi, g9, n, ⟨hK, hP, hD⟩, hdec, htx, hst9⟩ := hw
  have hP6 := hP.app ho.2
  have hK6 := hK.app ho.1
  have hD1 : va_D (AHx x d la t ba ou) [((ou, .inl (cL, 1, .inr (.inl (azl g)))) : Nat × va_E)] := ⟨fun i j p9 q9 hi hj _ => by
    have hz1 : i < 1 := (List.getElem?_eq_some_iff.mp hi).1
    have hz2 : j < 1 := (List.getElem?_eq_some_iff.mp hj).1
    omega, fun k q hk => by
    have hz : k < 1 := (List.getElem?_eq_some_iff.mp hk).1
    rw [show k = 0 by omega] at hk
    cases hk
    exact Or.inr rfl⟩
  have hD6 := va_D.app (hD.weaken (B := AHx x d la t ba ou) (fun k q _ h => Or.inl h)) hD1 (fun i j p9 q9 hi hj e9 => by
    have hz : j < 1 := (List.getElem?_eq_some_iff.mp hj).1
    rw [show j = 0 by omega] at hj
    cases hj
    have e8 : p9.1 = ou := e9
    exact hne (e8 ▸ hD.2 i p9 hi))
  refine z_last hx hb hK6 hP6 hD6 hS 5 2 rfl rfl (by omega) (by omega) (by decide) hdg (fun H1 locs1 hP1 hD9 hS1 => ?_)
  exact kk H1 locs1 ⟨⟨V, lt, f, fi, g9, n, ⟨hK, hP1.sub [0, 1, 2, 3, 4] rfl, hD⟩, hdec, htx, (hst.kept hS1.2.1).narrow (fun q h => Or.inl h)⟩, ⟨ho.1, hP1.sub [5] rfl⟩, hne, hst.kept hS1.2.1⟩ hS1
theorem l_runS {hh : List (Nat × Nat × Nat × Nat)} (hx : p.tables.exec = Jvm.exec) (hb : c.code = cc) (hml : c.maxLocals = ls.size) (hown : s.vm.findClass own = some m.cls) (hts : ∀ w ∈ TBL, w.before args s = true) (hM : CtL l y ws k A av Pre Post) (hws : ws = Cond.codeWith y bytes maxL ret hh :: TBL) (hcm : Cond.codeWith y bytes maxL ret hh ∈ TBL) (hstt : Cond.static y ∈ TBL) (hini : Cond.initialized y.cls ∈ TBL) (hl : Cond.methodLink own index y ∈ TBL)
    (hy : y.cls ≠ "java/lang/invoke/MethodHandle" ∧ y.cls ≠ "java/lang/invoke/VarHandle" ∧ (parseMethodDescriptor y.desc).map (fun d => d.parameters.length) = some n) (hR : k + 1 ≤ R.frames ∧ 8 + (maxL + 11) + (32 * k + 16) ≤ R.locals) (hp : Pre s H) (hn : av.length = n) (hstack : st0 = av.reverse ++ rest) (hW : (rest.map fun v => v.category).sum ≤ 8) (hdg : decode cc pc = .ok (.invokestatic index, 3)) (hf : cells + 1 ≤ R.cells ∧ slots + 6 ≤ R.slots) :
    va_Run p l e R s m args below meth c H locs cells slots 1 6 (F0 m pc ls st0) rest (zQ A Post av.toArray) A := by
  have hG : GoodIn TBL ws := by rw [hws]; exact tbl_good hcm
  have hK : Back l R p e below s args y 3 8 (PreOf R 1 6 (zPc av Pre)) (PostOf (zQ A Post) 1 6 A) := va_backW (hh := hh) (bytes := bytes) (maxL := maxL) (ret := ret) hM.2 (z_blind hM.1) rfl rfl hR.1 hR.2 (pay_in hts hG) (by rw [hws]; exact List.mem_cons_self) (fun a' U hW => word_at hW (Or.inl (by first | rfl | simp [Cond.onTables, Cond.keeps, Cond.steady])) (hts _ hini))
  intro T hT X
  obtain ⟨mk, methM, cM, hnamed, hmethM, -, -, -, -, -, -, hsigM⟩ := Cond.codeWith_spec (hts _ hcm)
  have hstatic : methM.isStatic = true := Cond.static_spec hnamed hmethM (hts _ hstt)
  obtain ⟨kP, hkP, -⟩ := className_of_methodNamed hnamed
  have hinitP : kP.init = .initialized := Cond.initialized_spec (findClass_of_methodNamed hnamed) hkP (hts _ hini)
  have hlen : av.length = methM.sig.parameters.length := by
    have h2 := hy.2.2
    rw [hsigM] at h2
    rw [hn]
    exact (Option.some.inj h2).symm
  obtain ⟨vm₁, X₁, hstep₁⟩ := X.invokestatic hx hown (hts _ hl) hnamed hmethM hstatic hkP hinitP ⟨hy.1, hy.2.1⟩ (g := F0 m pc ls st0) rfl (argsL := av) (rest := rest) hlen hstack (by rw [hb]; exact hdg)
  obtain ⟨v, ⟨U', l2, c2, s2⟩, X', ⟨g', mk', t, L, e1, e2, hq, h1, hL, h2, h3⟩, hsteps⟩ := hK m meth c ⟨T.setVm vm₁, locs, cells, slots⟩ (F0 m pc ls rest) (.invokestatic index) mk av.toArray X₁ rfl hml.symm (by rw [hb]; exact hdg) (by show 2 * 0 + (rest.map fun v => v.category).sum ≤ 8; omega) (X₁.named hnamed) ⟨hf.1, hf.2, rfl, by
    rw [show (T.setVm vm₁).heap = H from hT]
    exact hM.1 s _ _ X₁.warmed hp⟩
  dsimp only [Pt.U, Pt.locs, Pt.cells, Pt.slots] at X' e1 e2 h1 h2 h3 hsteps
  subst h1; subst h2; subst h3
  exact ⟨v, (T.setVm vm₁).calling g' mk' av.toArray, t, U', L, hT, X', hL, e1, e2, hq, fun target h => hstep₁ _ fun acts => by rw [doInvoke_state]; exact hsteps.trans h⟩
theorem l_go {mc ms : Nat} (hr : va_Run p l e R s m args below meth c H locs cells slots mc ms (F0 m pc ls st0) rest (zQ A1 Post a) A1) (hS : va_S A H0 H locs) (hA : ∀ q, A1 q → A q)
    (kk : ∀ (v : Option Value) (t : State) (H1 : Heap) (locs1 : List Loc), s.vm.Alike t.vm → Post v t H1 → H.size ≤ H1.size → (∀ q : Nat, q < H.size → ¬ A1 q → H1[q]? = H[q]?) → va_S A H0 H1 locs1 → W p l e R s m args below meth c H1 locs1 (cells + mc) (slots + ms) Q (F0 m (pc + 3) ls (v.toList ++ rest))) : W p l e R s m args below meth c H locs cells slots Q (F0 m pc ls st0) := by
  intro T hT X
  obtain ⟨v, st₀, t, T', L, h0, X', hL, e1, e2, ⟨⟨u, hv, hp⟩, hz, hk⟩, st⟩ := hr T hT X
  cases hv
  rw [h0] at hz hk
  obtain ⟨t2, a1, b1⟩ := kk v t T'.heap (locs ++ L) (by rw [← e2]; exact X'.warmed.alike) (by rw [e1]; exact hp) (by rw [e1]; exact hz) (fun q h1 h2 => by rw [e1]; exact hk q h1 h2)
    ⟨Nat.le_trans hS.1 (by rw [e1]; exact hz), fun q h1 h2 => by rw [e1, hk q (Nat.lt_of_lt_of_le h1 hS.1) (fun z => h2 (hA q z))]; exact hS.2.1 q h1 h2, fun q hq => by
      rcases List.mem_append.mp hq with h | h
      · exact hS.2.2 q h
      · exact hA _ (hL q h)⟩ T' rfl X'
  exact ⟨t2, st t2 a1, b1⟩
end LHelp
