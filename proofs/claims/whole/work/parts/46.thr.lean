/-! what throwing needs beside the good words -/
abbrev cIA : String := "java/lang/IllegalArgumentException"
abbrev cIO : String := "java/lang/IndexOutOfBoundsException"
abbrev xNm : List String := ["java/lang/RuntimeException", "java/lang/Exception"]
def xSp : List Cond := [.castable cIA cIA, .castable cIO cIO, .declares (Bundle.initS "java/lang/RuntimeException"), .declares (Bundle.initS "java/lang/Exception"), .declares (Bundle.initS Bundle.tN)]
def xSt : List Cond := [.laysStatic Bundle.tN "UNASSIGNED_STACK" Bundle.steD, .laysStatic Bundle.tN "SUPPRESSED_SENTINEL" Bundle.listD, .isRef (.static Bundle.tN "UNASSIGNED_STACK" Bundle.steD), .isRef (.static Bundle.tN "SUPPRESSED_SENTINEL" Bundle.listD)]
theorem at_IA : ∀ w ∈ Bundle.ownAtoms "ExactNotation" 59 cIA xNm, w ∈ TBL ∨ w ∈ xSp ∨ w ∈ xSt := by decide +kernel
theorem at_IO : ∀ w ∈ Bundle.ownAtoms "ExactNotation" 48 cIO xNm, w ∈ TBL ∨ w ∈ xSp ∨ w ∈ xSt := by decide +kernel
def XT (k57 k60 k46 : Nat) (A : Nat → Prop) (U : State) (H : Heap) : Prop := SLs Bundle.tN "UNASSIGNED_STACK" Bundle.steD A U H ∧ SLs Bundle.tN "SUPPRESSED_SENTINEL" Bundle.listD A U H ∧ (∀ w ∈ xSp, va_Nw w U) ∧ vk_R "ExactNotation" 57 "kind is not 0 to 2" k57 U ∧ vk_R "ExactNotation" 60 "p is not 0 to 1200" k60 U ∧ vk_R "ExactNotation" 46 "not a byte of the result" k46 U
theorem xSp_warm {s U : State} (hW : s.WarmedH U.vm) (h : ∀ w ∈ xSp, va_Nw w s) : ∀ w ∈ xSp, va_Nw w U := by
  intro w hw
  have hz := h w hw
  simp only [xSp, List.mem_cons, List.not_mem_nil, or_false] at hw
  rcases hw with rfl | rfl | rfl | rfl | rfl
  · exact va_Nw.warmC hW hz
  · exact va_Nw.warmC hW hz
  · exact va_Nw.warmD hW hz
  · exact va_Nw.warmD hW hz
  · exact va_Nw.warmD hW hz
theorem xSp_on : ∀ w ∈ xSp, w.onTables = true := by decide +kernel
theorem zSt_XT {k57 k60 k46 : Nat} {A : Nat → Prop} : zSt (XT k57 k60 k46 A) := fun _ _ _ hv h => ⟨h.1.moved hv.alike, h.2.1.moved hv.alike, xSp_warm hv h.2.2.1, h.2.2.2.1.warm hv, h.2.2.2.2.1.warm hv, h.2.2.2.2.2.warm hv⟩
theorem XT.kept {k57 k60 k46 : Nat} {A : Nat → Prop} {U : State} {H H1 : Heap} (h : XT k57 k60 k46 A U H) (hq : ∀ a : Nat, a < H.size → ¬ A a → H1[a]? = H[a]?) : XT k57 k60 k46 A U H1 := ⟨h.1.kept hq, h.2.1.kept hq, h.2.2⟩
theorem SLs.none {C n d : String} {A : Nat → Prop} {U : State} {H : Heap} (h : SLs C n d A U H) : SLs C n d (fun _ => False) U H := by
  obtain ⟨c, k, i, f, a, cell, v, h1, h2, h3, h4, h5, h6, h7, h8, h9, h10, h11, h12⟩ := h
  exact ⟨c, k, i, f, a, cell, v, h1, h2, h3, h4, h5, h6, h7, h8, h9, h10, h11, fun h => h⟩
theorem XT.none {k57 k60 k46 : Nat} {A : Nat → Prop} {U : State} {H : Heap} (h : XT k57 k60 k46 A U H) : XT k57 k60 k46 (fun _ => False) U H := ⟨h.1.none, h.2.1.none, h.2.2⟩
theorem XT.at {k57 k60 k46 : Nat} {A : Nat → Prop} {s : State} {args : Array Value} (h : XT k57 k60 k46 A s s.heap) (hts : ∀ w ∈ TBL, w.before args s = true) {L : List Cond} (hL : ∀ w ∈ L, w ∈ TBL ∨ w ∈ xSp ∨ w ∈ xSt) : ∀ w ∈ L, w.before args s = true := by
  intro w hw
  rcases hL w hw with h1 | h1 | h1
  · exact hts w h1
  · exact va_Nw.use (xSp_on w h1) (h.2.2.1 w h1)
  · simp only [xSt, List.mem_cons, List.not_mem_nil, or_false] at h1
    rcases h1 with rfl | rfl | rfl | rfl
    · exact h.1.lays
    · exact h.2.1.lays
    · exact h.1.ref
    · exact h.2.1.ref
theorem z_cwBx {R : Room} {s : State} {args : Array Value} {own : String} {index : Nat} {y : MethodName} {b : ByteArray} {maxL n k : Nat} {ret : Option FieldType} (ht : ∀ w ∈ TBL, w.before args s = true) (h : zwB y b maxL ret n) (hl : Cond.methodLink own index y ∈ TBL) (hR : k + 1 ≤ R.frames ∧ 8 + (maxL + 11) + (32 * k + 16) ≤ R.locals) : CallB R s args own index y b maxL ret (Cond.code y b maxL ret :: TBL) (zrx k) 1 6 n :=
  callB_of n ht (tbl_good h.1) rfl rfl rfl (ht _ h.2.1) (ht _ hl) h.2.2 hR
theorem z_cwVx {R : Room} {s : State} {args : Array Value} {own : String} {index : Nat} {y : MethodName} {b : ByteArray} {maxL n k : Nat} {ret : Option FieldType} (ht : ∀ w ∈ TBL, w.before args s = true) (h : zwV y b maxL ret n) (hl : Cond.methodLink own index y ∈ TBL) (hR : k + 1 ≤ R.frames ∧ 8 + (maxL + 11) + (32 * k + 16) ≤ R.locals) : CallW R s args own y.cls index y b maxL ret (Cond.code y b maxL ret :: TBL) (zrx k) 1 6 n :=
  ⟨z_cwBx ht h.1 hl hR, ht _ h.2.1, ht _ h.2.2⟩
theorem z_cwSx {R : Room} {s : State} {args : Array Value} {own : String} {index : Nat} {y : MethodName} {b : ByteArray} {maxL n k : Nat} {ret : Option FieldType} (ht : ∀ w ∈ TBL, w.before args s = true) (h : zwS y b maxL ret n) (hl : Cond.methodLink own index y ∈ TBL) (hR : k + 1 ≤ R.frames ∧ 8 + (maxL + 11) + (32 * k + 16) ≤ R.locals) : CallB R s args own index y b maxL ret (Cond.code y b maxL ret :: TBL) (zrx k) 1 6 n ∧ (Cond.static y).before args s = true :=
  ⟨z_cwBx ht h.1 hl hR, ht _ h.2⟩
theorem z_go0 {p : Program} {l : Launch} {e : Env} {R : Room} {s : State} {m : MethodId} {args : Array Value} {below : List Frame} {meth : Method} {c : Code} {H : Heap} {locs : List Loc} {cells slots : Nat} {Q : State → Prop} {pc : Nat} {ls : Array Slot} {rest st0 : List Value} {a : Array Value} {Post : Option Value → State → Heap → Prop}
    (hr : va_Run p l e R s m args below meth c H locs cells slots 0 0 (F0 m pc ls st0) rest (zQ (fun _ => False) Post a) (fun _ => False))
    (kk : ∀ (v : Option Value) (t : State) (H1 : Heap), s.vm.Alike t.vm → Post v t H1 → H.size ≤ H1.size → (∀ q : Nat, q < H.size → H1[q]? = H[q]?) → W p l e R s m args below meth c H1 locs cells slots Q (F0 m (pc + 3) ls (v.toList ++ rest))) : W p l e R s m args below meth c H locs cells slots Q (F0 m pc ls st0) := by
  intro T hT X
  obtain ⟨v, st₀, t, T', L, h0, X', hL, e1, e2, ⟨⟨u, hv, hp⟩, hz, hk⟩, st⟩ := hr T hT X
  cases hv
  rw [h0] at hz hk
  have hnil : L = [] := List.eq_nil_iff_forall_not_mem.mpr (fun q hq => hL q hq)
  subst hnil
  rw [List.append_nil] at X'
  obtain ⟨t2, a1, b1⟩ := kk v t T'.heap (by rw [← e2]; exact X'.warmed.alike) (by rw [e1]; exact hp) (by rw [e1]; exact hz) (fun q h1 => by rw [e1]; exact hk q h1 (fun h => h)) T' rfl X'
  exact ⟨t2, st t2 a1, b1⟩
