set_option maxHeartbeats 4000000 in
theorem st_GS {s : State} {b : Nat} (hts : ∀ w ∈ lw_tbl, w.before #[Value.ref b] s = true) (hg : (Jvm.Cond.and given_1 narrow_1).before #[Value.ref b] s = true) : ∃ (tt : Nat) (ad : Nat → Nat) (kI vI kN vN k57 k60 k46 : Nat), GS s.heap.size tt ad kI vI kN vN k57 k60 k46 s s.heap := by
  have hs := flat_of_before _ hg
  have tw : ∀ {w : Cond} (i : Nat), tables_1[i]? = some w → w.before #[Value.ref b] s = true := fun i h => hts _ (List.mem_append_right _ (List.mem_of_getElem? h))
  have hA : ∀ a : Nat, a < s.heap.size → ¬ A0s s.heap.size a := fun a h h2 => absurd h (Nat.not_lt.mpr h2)
  have hcs : va_Z "java/lang/String" "COMPACT_STRINGS" "Z" (.int (iz 1)) (A0s s.heap.size) s s.heap := va_Zof (tw 186 (by decide +kernel)) (tw 12 (by decide +kernel)) (va_eqi (z := iz 1) (hs _ (by decide +kernel))) hA
  have hfq : va_Zq "jdk/internal/util/Preconditions" "SIOOBE_FORMATTER" "Ljava/util/function/BiFunction;" (A0s s.heap.size) s s.heap := va_Zqof (tw 202 (by decide +kernel)) (tw 14 (by decide +kernel)) (hs _ (by decide +kernel)) hA
  obtain ⟨tt, hte, hT⟩ := va_Tof (tm := .static "ExactNotation$Decimal" "TEN_TO" "[I") (ty := .int) (N := 9) (f := tenTo) (A := A0s s.heap.size) (by decide) (hs _ (by decide +kernel)) (va_eqt (hs _ (by decide +kernel))) (fun j hj => by
    rcases j with _ | _ | _ | _ | _ | _ | _ | _ | _ | j
    · exact va_eqt (z := iz (10 ^ 0)) (hs _ (by decide +kernel))
    · exact va_eqt (z := iz (10 ^ 1)) (hs _ (by decide +kernel))
    · exact va_eqt (z := iz (10 ^ 2)) (hs _ (by decide +kernel))
    · exact va_eqt (z := iz (10 ^ 3)) (hs _ (by decide +kernel))
    · exact va_eqt (z := iz (10 ^ 4)) (hs _ (by decide +kernel))
    · exact va_eqt (z := iz (10 ^ 5)) (hs _ (by decide +kernel))
    · exact va_eqt (z := iz (10 ^ 6)) (hs _ (by decide +kernel))
    · exact va_eqt (z := iz (10 ^ 7)) (hs _ (by decide +kernel))
    · exact va_eqt (z := iz (10 ^ 8)) (hs _ (by decide +kernel))
    · exfalso; omega) hA
  have hZ : va_Z "ExactNotation$Decimal" "TEN_TO" "[I" (.ref tt) (A0s s.heap.size) s s.heap := va_Zof (tw 276 (by decide +kernel)) (tw 2 (by decide +kernel)) hte hA
  obtain ⟨ad, hEn⟩ := va_Enof (E := "ExactNotation$Format") (d := "LExactNotation$Format;") (nm := nmF) (F := flF) (A := A0s s.heap.size) (fun i hi => by
    rcases i with _ | _ | i
    · exact tw 144 (by decide +kernel)
    · exact tw 340 (by decide +kernel)
    · exact absurd hi (by show ¬ i + 2 < 2; omega)) (tw 11 (by decide +kernel)) (fun i hi => by
    rcases i with _ | _ | i
    · exact hs _ (by decide +kernel)
    · exact hs _ (by decide +kernel)
    · exact absurd hi (by show ¬ i + 2 < 2; omega)) (fun q hq i hi => by
    simp only [flF, List.mem_cons, List.not_mem_nil, or_false] at hq
    rcases i with _ | _ | i
    · rcases hq with rfl | rfl | rfl <;> exact hs _ (by decide +kernel)
    · rcases hq with rfl | rfl | rfl <;> exact hs _ (by decide +kernel)
    · exact absurd hi (by show ¬ i + 2 < 2; omega)) (fun i j hi hj hij => by
    have hi2 : i < 2 := hi
    have hj2 : j < 2 := hj
    rcases (show (i = 0 ∧ j = 1) ∨ (i = 1 ∧ j = 0) by omega) with ⟨rfl, rfl⟩ | ⟨rfl, rfl⟩
    · exact Or.inl (hs _ (by decide +kernel))
    · exact Or.inr (hs _ (by decide +kernel))) hA
  obtain ⟨kI, vI, hS72, hV72⟩ := st_str (tm := .string "ExactNotation" 72) (A := A0s s.heap.size) infL (by decide) (hs _ (by decide +kernel)) (hs _ (by decide +kernel)) (hs _ (by decide +kernel)) (hs _ (by decide +kernel)) (fun j hj => by
    rcases j with _ | _ | _ | _ | _ | _ | _ | _ | j
    all_goals first | exact hs _ (by decide +kernel) | (exfalso; simp only [infL, nanL, List.length_cons, List.length_nil] at hj; omega)) hA hcs hfq
  obtain ⟨kN, vN, hS74, hV74⟩ := st_str (tm := .string "ExactNotation" 74) (A := A0s s.heap.size) nanL (by decide) (hs _ (by decide +kernel)) (hs _ (by decide +kernel)) (hs _ (by decide +kernel)) (hs _ (by decide +kernel)) (fun j hj => by
    rcases j with _ | _ | _ | j
    all_goals first | exact hs _ (by decide +kernel) | (exfalso; simp only [infL, nanL, List.length_cons, List.length_nil] at hj; omega)) hA hcs hfq
  obtain ⟨k57, hV57⟩ : ∃ a, (Term.string "ExactNotation" 57).eval #[Value.ref b] s none [] s = some (.ref a) := by
    obtain ⟨a, c, cA, kA, q1, -⟩ := Cond.exactly_spec (args := #[Value.ref b]) (first := s) (o := none) (s := s) (idx := []) (t := .string "ExactNotation" 57) (cls := "java/lang/String") (hs _ (by decide +kernel))
    exact ⟨a, q1⟩
  obtain ⟨k60, hV60⟩ : ∃ a, (Term.string "ExactNotation" 60).eval #[Value.ref b] s none [] s = some (.ref a) := by
    obtain ⟨a, c, cA, kA, q1, -⟩ := Cond.exactly_spec (args := #[Value.ref b]) (first := s) (o := none) (s := s) (idx := []) (t := .string "ExactNotation" 60) (cls := "java/lang/String") (hs _ (by decide +kernel))
    exact ⟨a, q1⟩
  obtain ⟨k46, hV46⟩ : ∃ a, (Term.string "ExactNotation" 46).eval #[Value.ref b] s none [] s = some (.ref a) := by
    obtain ⟨a, c, cA, kA, q1, -⟩ := Cond.exactly_spec (args := #[Value.ref b]) (first := s) (o := none) (s := s) (idx := []) (t := .string "ExactNotation" 46) (cls := "java/lang/String") (hs _ (by decide +kernel))
    exact ⟨a, q1⟩
  have hV132 : (Term.string "ExactNotationModel" 132).eval #[Value.ref b] s none [] s = some (.ref kI) := va_eqR (hs (.eq (.string "ExactNotation" 72) (.string "ExactNotationModel" 132)) (by decide +kernel)) hV72
  have hV130 : (Term.string "ExactNotationModel" 130).eval #[Value.ref b] s none [] s = some (.ref kN) := va_eqR (hs (.eq (.string "ExactNotation" 74) (.string "ExactNotationModel" 130)) (by decide +kernel)) hV74
  refine ⟨tt, ad, kI, vI, kN, vN, k57, k60, k46, ⟨hZ, hT, hEn⟩, ⟨hS72, hS74, vk_R.of (tw 171 (by decide +kernel)) hV72, vk_R.of (tw 172 (by decide +kernel)) hV74⟩, ⟨hS72, hS74, vk_R.of (tw 471 (by decide +kernel)) hV132, vk_R.of (tw 470 (by decide +kernel)) hV130⟩, SLs.of (tw 103 (by decide +kernel)) (hs _ (by decide +kernel)) hA, SLs.of (tw 105 (by decide +kernel)) (hs _ (by decide +kernel)) hA, ?_, vk_R.of (tw 116 (by decide +kernel)) hV57, vk_R.of (tw 142 (by decide +kernel)) hV60, vk_R.of (tw 358 (by decide +kernel)) hV46⟩
  intro w hw
  have hm : w ∈ tables_1 := (show ∀ w ∈ xSp, w ∈ tables_1 by decide +kernel) w hw
  exact va_Nw.of (xSp_on w hw) (hts _ (List.mem_append_right _ hm))
