/-! the start of the law: the tables, the statics, the strings -/
theorem st_K {s : State} {args : Array Value} (hts : ∀ w ∈ TBL, w.before args s = true) : ∃ (D : va_G) (cI cB cL : ClassId), va_K D vwCl [(cI, .int), (cB, .byte), (cL, .long)] s := by
  obtain ⟨c0, i0, k0⟩ := u_known hts in_0 (hts _ tw_20)
  obtain ⟨c1, i1, k1⟩ := u_known hts in_1 (hts _ tw_28)
  obtain ⟨c2, i2, k2⟩ := u_known hts in_2 (hts _ tw_45)
  obtain ⟨c3, i3, k3⟩ := u_known hts in_3 (hts _ tw_370)
  obtain ⟨c4, i4, k4⟩ := u_known hts in_4 (hts _ tw_376)
  obtain ⟨cI, kI, nI9, a1, a2, a3⟩ := Cond.arrayClass_spec (hts _ tw_43)
  obtain ⟨cB, kB, nB9, b1, b2, b3⟩ := Cond.arrayClass_spec (hts _ tw_57)
  obtain ⟨cL, kL, nL9, e1, e2, e3⟩ := Cond.arrayClass_spec (hts _ tw_426)
  refine ⟨(fun c => match c with | 0 => c0 | 1 => c1 | 2 => c2 | 3 => c3 | _ => c4, fun c => match c with | 0 => i0 | 1 => i1 | 2 => i2 | 3 => i3 | _ => i4), cI, cB, cL, fun c q hq => ?_, fun k q hk => ?_⟩
  · rcases c with _ | _ | _ | _ | _ | c
    · cases hq; exact k0
    · cases hq; exact k1
    · cases hq; exact k2
    · cases hq; exact k3
    · cases hq; exact k4
    · cases hq
  · rcases k with _ | _ | _ | k
    · cases hk; exact ⟨fun n z => ⟨fun k h => (by cases h), kI, a2, nI9, a3⟩, a1⟩
    · cases hk; exact ⟨fun n z => ⟨fun k h => (by cases h), kB, b2, nB9, b3⟩, b1⟩
    · cases hk; exact ⟨fun n z => ⟨fun k h => (by cases h), kL, e2, nL9, e3⟩, e1⟩
    · cases hk
theorem getD_iz (bs : List Int) (j : Nat) : (bs.map iz).getD j 0 = iz (bs.getD j 0) := by
  simp only [List.getD, List.getElem?_map]
  cases bs[j]? <;> rfl
theorem st_str {s : State} {args : Array Value} {A : Nat → Prop} {tm : Term} (bs : List Int) (hlen : bs.length < 2 ^ 31) (hex : (Cond.exactly tm "java/lang/String").before args s = true) (hco : (Cond.eq (.field tm "java/lang/String" "coder" "B") (.int 0)).before args s = true) (har : (Cond.arrayOf (.field tm "java/lang/String" "value" "[B") .byte).before args s = true) (hle : (Cond.eq (.length (.field tm "java/lang/String" "value" "[B")) (.int (Int32.ofNat bs.length))).before args s = true)
    (hel : ∀ j : Nat, j < bs.length → (Cond.eq (.elem (.field tm "java/lang/String" "value" "[B") (.int (Int32.ofNat j))) (.int ((bs.map iz).getD j 0))).before args s = true) (hA : ∀ a : Nat, a < s.heap.size → ¬ A a) (hZ : va_Z "java/lang/String" "COMPACT_STRINGS" "Z" (.int (iz 1)) A s s.heap) (hq : va_Zq "jdk/internal/util/Preconditions" "SIOOBE_FORMATTER" "Ljava/util/function/BiFunction;" A s s.heap) :
    ∃ sk sv : Nat, SStr A sk sv bs s s.heap ∧ tm.eval args s none [] s = some (.ref sk) := by
  obtain ⟨adK, adV, h1, h2⟩ := vk_Sof (N := 1) (tm := fun _ => tm) (len := [bs.length]) (byt := [bs.map iz]) (A := A) (fun i hi => by rw [show i = 0 by omega]; exact hlen) (fun i hi => hex) (fun i hi => hco) (fun i hi => har) (fun i hi => by rw [show i = 0 by omega]; exact hle) (fun i hi j hj => by
    have e0 : i = 0 := by omega
    subst e0
    exact hel j hj) (fun i j hi hj hij => absurd (show i = j by omega) hij) hA
  obtain ⟨g1, g2, g3, g4⟩ := h1.1 0 (by decide)
  refine ⟨adK 0, adV 0, ⟨g1, g2, g3, ?_, hZ, hq⟩, h2 0 (by decide)⟩
  have e1 : (fun j => Value.int (iz (bs.getD j 0))) = (fun j => Value.int (([bs.map iz].getD 0 []).getD j 0)) := by
    funext j
    exact congrArg Value.int (getD_iz bs j).symm
  rw [e1]
  exact g4
