section
-- ===== PART A: goes FIRST, ahead of the names: the tables' words, and 'selects' of the private methods out of them =====
/-- a private method of a class that the tables say can be made, by its rows of tables_1 -/
def lw_okq (q : MethodName × Nat) : Prop := (q.1.cls ≠ "java/lang/invoke/MethodHandle" ∧ q.1.cls ≠ "java/lang/invoke/VarHandle") ∧ Cond.instantiable q.1.cls q.2 ∈ tables_1 ∧ Cond.privateMethod q.1 ∈ tables_1 ∧ Cond.instanceMethod q.1 ∈ tables_1
theorem lw_p0 : lw_okq (⟨"java/lang/Throwable", "fillInStackTrace", "(I)Ljava/lang/Throwable;"⟩, 6) := ⟨⟨by decide +kernel, by decide +kernel⟩, List.mem_of_getElem? (i := 114) (by decide +kernel), List.mem_of_getElem? (i := 112) (by decide +kernel), List.mem_of_getElem? (i := 113) (by decide +kernel)⟩
theorem lw_p1 : lw_okq (⟨"ExactNotation", "present", "(IIZZJLExactNotation$Format;)I"⟩, 2) := ⟨⟨by decide +kernel, by decide +kernel⟩, List.mem_of_getElem? (i := 20) (by decide +kernel), List.mem_of_getElem? (i := 146) (by decide +kernel), List.mem_of_getElem? (i := 147) (by decide +kernel)⟩
theorem lw_p2 : lw_okq (⟨"ExactNotation$Format", "exponent", "(J)I"⟩, 6) := ⟨⟨by decide +kernel, by decide +kernel⟩, List.mem_of_getElem? (i := 160) (by decide +kernel), List.mem_of_getElem? (i := 158) (by decide +kernel), List.mem_of_getElem? (i := 159) (by decide +kernel)⟩
theorem lw_p3 : lw_okq (⟨"ExactNotation$Format", "fraction", "(J)J"⟩, 6) := ⟨⟨by decide +kernel, by decide +kernel⟩, List.mem_of_getElem? (i := 160) (by decide +kernel), List.mem_of_getElem? (i := 168) (by decide +kernel), List.mem_of_getElem? (i := 169) (by decide +kernel)⟩
theorem lw_p4 : lw_okq (⟨"ExactNotation$Decimal", "assignWhole", "(J)V"⟩, 3) := ⟨⟨by decide +kernel, by decide +kernel⟩, List.mem_of_getElem? (i := 28) (by decide +kernel), List.mem_of_getElem? (i := 249) (by decide +kernel), List.mem_of_getElem? (i := 250) (by decide +kernel)⟩
theorem lw_p5 : lw_okq (⟨"ExactNotation$Decimal", "scaleByPowerOfTwo", "(I)V"⟩, 3) := ⟨⟨by decide +kernel, by decide +kernel⟩, List.mem_of_getElem? (i := 28) (by decide +kernel), List.mem_of_getElem? (i := 257) (by decide +kernel), List.mem_of_getElem? (i := 258) (by decide +kernel)⟩
theorem lw_p6 : lw_okq (⟨"ExactNotation$Decimal", "multiplyByPowerOfTwo", "(I)V"⟩, 3) := ⟨⟨by decide +kernel, by decide +kernel⟩, List.mem_of_getElem? (i := 28) (by decide +kernel), List.mem_of_getElem? (i := 264) (by decide +kernel), List.mem_of_getElem? (i := 265) (by decide +kernel)⟩
theorem lw_p7 : lw_okq (⟨"ExactNotation$Decimal", "divideByPowerOfTwo", "(I)V"⟩, 3) := ⟨⟨by decide +kernel, by decide +kernel⟩, List.mem_of_getElem? (i := 28) (by decide +kernel), List.mem_of_getElem? (i := 268) (by decide +kernel), List.mem_of_getElem? (i := 269) (by decide +kernel)⟩
theorem lw_p8 : lw_okq (⟨"ExactNotation$Decimal", "addOneAt", "(I)V"⟩, 3) := ⟨⟨by decide +kernel, by decide +kernel⟩, List.mem_of_getElem? (i := 28) (by decide +kernel), List.mem_of_getElem? (i := 298) (by decide +kernel), List.mem_of_getElem? (i := 299) (by decide +kernel)⟩
theorem lw_p9 : lw_okq (⟨"ExactNotation", "writeScientific", "(IZ)V"⟩, 2) := ⟨⟨by decide +kernel, by decide +kernel⟩, List.mem_of_getElem? (i := 20) (by decide +kernel), List.mem_of_getElem? (i := 303) (by decide +kernel), List.mem_of_getElem? (i := 304) (by decide +kernel)⟩
theorem lw_p10 : lw_okq (⟨"ExactNotation", "writeDigit", "(I)V"⟩, 2) := ⟨⟨by decide +kernel, by decide +kernel⟩, List.mem_of_getElem? (i := 20) (by decide +kernel), List.mem_of_getElem? (i := 308) (by decide +kernel), List.mem_of_getElem? (i := 309) (by decide +kernel)⟩
theorem lw_p11 : lw_okq (⟨"ExactNotation", "writeBehindPoint", "(IIZ)V"⟩, 2) := ⟨⟨by decide +kernel, by decide +kernel⟩, List.mem_of_getElem? (i := 20) (by decide +kernel), List.mem_of_getElem? (i := 313) (by decide +kernel), List.mem_of_getElem? (i := 314) (by decide +kernel)⟩
theorem lw_p12 : lw_okq (⟨"ExactNotation", "writeExponent", "(I)V"⟩, 2) := ⟨⟨by decide +kernel, by decide +kernel⟩, List.mem_of_getElem? (i := 20) (by decide +kernel), List.mem_of_getElem? (i := 317) (by decide +kernel), List.mem_of_getElem? (i := 318) (by decide +kernel)⟩
theorem lw_p13 : lw_okq (⟨"ExactNotation", "writeFixed", "(IZZ)V"⟩, 2) := ⟨⟨by decide +kernel, by decide +kernel⟩, List.mem_of_getElem? (i := 20) (by decide +kernel), List.mem_of_getElem? (i := 324) (by decide +kernel), List.mem_of_getElem? (i := 325) (by decide +kernel)⟩
theorem lw_p14 : lw_okq (⟨"ExactNotation", "writeShorter", "(IZ)V"⟩, 2) := ⟨⟨by decide +kernel, by decide +kernel⟩, List.mem_of_getElem? (i := 20) (by decide +kernel), List.mem_of_getElem? (i := 329) (by decide +kernel), List.mem_of_getElem? (i := 330) (by decide +kernel)⟩
theorem lw_p15 : lw_okq (⟨"ExactNotationModel", "good", "(ZI)Z"⟩, 11) := ⟨⟨by decide +kernel, by decide +kernel⟩, List.mem_of_getElem? (i := 370) (by decide +kernel), List.mem_of_getElem? (i := 436) (by decide +kernel), List.mem_of_getElem? (i := 437) (by decide +kernel)⟩
def lw_privs_1 : List (MethodName × Nat) := [(⟨"java/lang/Throwable", "fillInStackTrace", "(I)Ljava/lang/Throwable;"⟩, 6), (⟨"ExactNotation", "present", "(IIZZJLExactNotation$Format;)I"⟩, 2), (⟨"ExactNotation$Format", "exponent", "(J)I"⟩, 6), (⟨"ExactNotation$Format", "fraction", "(J)J"⟩, 6), (⟨"ExactNotation$Decimal", "assignWhole", "(J)V"⟩, 3), (⟨"ExactNotation$Decimal", "scaleByPowerOfTwo", "(I)V"⟩, 3), (⟨"ExactNotation$Decimal", "multiplyByPowerOfTwo", "(I)V"⟩, 3), (⟨"ExactNotation$Decimal", "divideByPowerOfTwo", "(I)V"⟩, 3), (⟨"ExactNotation$Decimal", "addOneAt", "(I)V"⟩, 3), (⟨"ExactNotation", "writeScientific", "(IZ)V"⟩, 2), (⟨"ExactNotation", "writeDigit", "(I)V"⟩, 2), (⟨"ExactNotation", "writeBehindPoint", "(IIZ)V"⟩, 2), (⟨"ExactNotation", "writeExponent", "(I)V"⟩, 2), (⟨"ExactNotation", "writeFixed", "(IZZ)V"⟩, 2), (⟨"ExactNotation", "writeShorter", "(IZ)V"⟩, 2), (⟨"ExactNotationModel", "good", "(ZI)Z"⟩, 11)]
theorem lw_r1 : ∀ q ∈ lw_privs_1, lw_okq q := List.forall_mem_cons.mpr ⟨lw_p0, List.forall_mem_cons.mpr ⟨lw_p1, List.forall_mem_cons.mpr ⟨lw_p2, List.forall_mem_cons.mpr ⟨lw_p3, List.forall_mem_cons.mpr ⟨lw_p4, List.forall_mem_cons.mpr ⟨lw_p5, List.forall_mem_cons.mpr ⟨lw_p6, List.forall_mem_cons.mpr ⟨lw_p7, List.forall_mem_cons.mpr ⟨lw_p8, List.forall_mem_cons.mpr ⟨lw_p9, List.forall_mem_cons.mpr ⟨lw_p10, List.forall_mem_cons.mpr ⟨lw_p11, List.forall_mem_cons.mpr ⟨lw_p12, List.forall_mem_cons.mpr ⟨lw_p13, List.forall_mem_cons.mpr ⟨lw_p14, List.forall_mem_cons.mpr ⟨lw_p15, fun _ h => absurd h List.not_mem_nil⟩⟩⟩⟩⟩⟩⟩⟩⟩⟩⟩⟩⟩⟩⟩⟩
theorem lw_p16 : lw_okq (⟨"ExactNotationModel", "kind", "(Z)V"⟩, 11) := ⟨⟨by decide +kernel, by decide +kernel⟩, List.mem_of_getElem? (i := 370) (by decide +kernel), List.mem_of_getElem? (i := 445) (by decide +kernel), List.mem_of_getElem? (i := 446) (by decide +kernel)⟩
theorem lw_p17 : lw_okq (⟨"ExactNotationModel", "shown", "(IIZZJ)I"⟩, 11) := ⟨⟨by decide +kernel, by decide +kernel⟩, List.mem_of_getElem? (i := 370) (by decide +kernel), List.mem_of_getElem? (i := 449) (by decide +kernel), List.mem_of_getElem? (i := 450) (by decide +kernel)⟩
theorem lw_p18 : lw_okq (⟨"ExactNotationModel", "sign", "()J"⟩, 11) := ⟨⟨by decide +kernel, by decide +kernel⟩, List.mem_of_getElem? (i := 370) (by decide +kernel), List.mem_of_getElem? (i := 453) (by decide +kernel), List.mem_of_getElem? (i := 454) (by decide +kernel)⟩
theorem lw_p19 : lw_okq (⟨"ExactNotationModel", "infinity", "()J"⟩, 11) := ⟨⟨by decide +kernel, by decide +kernel⟩, List.mem_of_getElem? (i := 370) (by decide +kernel), List.mem_of_getElem? (i := 461) (by decide +kernel), List.mem_of_getElem? (i := 462) (by decide +kernel)⟩
theorem lw_p20 : lw_okq (⟨"ExactNotationModel", "isNone", "(J)Z"⟩, 11) := ⟨⟨by decide +kernel, by decide +kernel⟩, List.mem_of_getElem? (i := 370) (by decide +kernel), List.mem_of_getElem? (i := 467) (by decide +kernel), List.mem_of_getElem? (i := 468) (by decide +kernel)⟩
theorem lw_p21 : lw_okq (⟨"ExactNotationModel", "add", "(I)V"⟩, 11) := ⟨⟨by decide +kernel, by decide +kernel⟩, List.mem_of_getElem? (i := 370) (by decide +kernel), List.mem_of_getElem? (i := 475) (by decide +kernel), List.mem_of_getElem? (i := 476) (by decide +kernel)⟩
theorem lw_p22 : lw_okq (⟨"ExactNotationModel", "c", "(J)J"⟩, 11) := ⟨⟨by decide +kernel, by decide +kernel⟩, List.mem_of_getElem? (i := 370) (by decide +kernel), List.mem_of_getElem? (i := 479) (by decide +kernel), List.mem_of_getElem? (i := 480) (by decide +kernel)⟩
theorem lw_p23 : lw_okq (⟨"ExactNotationModel", "fraction", "()J"⟩, 11) := ⟨⟨by decide +kernel, by decide +kernel⟩, List.mem_of_getElem? (i := 370) (by decide +kernel), List.mem_of_getElem? (i := 483) (by decide +kernel), List.mem_of_getElem? (i := 484) (by decide +kernel)⟩
theorem lw_p24 : lw_okq (⟨"ExactNotationModel", "q", "(J)I"⟩, 11) := ⟨⟨by decide +kernel, by decide +kernel⟩, List.mem_of_getElem? (i := 370) (by decide +kernel), List.mem_of_getElem? (i := 487) (by decide +kernel), List.mem_of_getElem? (i := 488) (by decide +kernel)⟩
theorem lw_p25 : lw_okq (⟨"ExactNotationModel", "row", "(JILExactNotationModel$Row;)V"⟩, 11) := ⟨⟨by decide +kernel, by decide +kernel⟩, List.mem_of_getElem? (i := 370) (by decide +kernel), List.mem_of_getElem? (i := 491) (by decide +kernel), List.mem_of_getElem? (i := 492) (by decide +kernel)⟩
theorem lw_p26 : lw_okq (⟨"ExactNotationModel", "times", "(J)V"⟩, 11) := ⟨⟨by decide +kernel, by decide +kernel⟩, List.mem_of_getElem? (i := 370) (by decide +kernel), List.mem_of_getElem? (i := 497) (by decide +kernel), List.mem_of_getElem? (i := 498) (by decide +kernel)⟩
theorem lw_p27 : lw_okq (⟨"ExactNotationModel", "scientific", "(LExactNotationModel$Row;IZ)V"⟩, 11) := ⟨⟨by decide +kernel, by decide +kernel⟩, List.mem_of_getElem? (i := 370) (by decide +kernel), List.mem_of_getElem? (i := 505) (by decide +kernel), List.mem_of_getElem? (i := 506) (by decide +kernel)⟩
theorem lw_p28 : lw_okq (⟨"ExactNotationModel", "rounded", "(LExactNotationModel$Row;I)V"⟩, 11) := ⟨⟨by decide +kernel, by decide +kernel⟩, List.mem_of_getElem? (i := 370) (by decide +kernel), List.mem_of_getElem? (i := 509) (by decide +kernel), List.mem_of_getElem? (i := 510) (by decide +kernel)⟩
theorem lw_p29 : lw_okq (⟨"ExactNotationModel", "fixed", "(LExactNotationModel$Row;IZZ)V"⟩, 11) := ⟨⟨by decide +kernel, by decide +kernel⟩, List.mem_of_getElem? (i := 370) (by decide +kernel), List.mem_of_getElem? (i := 519) (by decide +kernel), List.mem_of_getElem? (i := 520) (by decide +kernel)⟩
theorem lw_p30 : lw_okq (⟨"ExactNotationModel", "general", "(LExactNotationModel$Row;IZ)V"⟩, 11) := ⟨⟨by decide +kernel, by decide +kernel⟩, List.mem_of_getElem? (i := 370) (by decide +kernel), List.mem_of_getElem? (i := 523) (by decide +kernel), List.mem_of_getElem? (i := 524) (by decide +kernel)⟩
def lw_privs_2 : List (MethodName × Nat) := [(⟨"ExactNotationModel", "kind", "(Z)V"⟩, 11), (⟨"ExactNotationModel", "shown", "(IIZZJ)I"⟩, 11), (⟨"ExactNotationModel", "sign", "()J"⟩, 11), (⟨"ExactNotationModel", "infinity", "()J"⟩, 11), (⟨"ExactNotationModel", "isNone", "(J)Z"⟩, 11), (⟨"ExactNotationModel", "add", "(I)V"⟩, 11), (⟨"ExactNotationModel", "c", "(J)J"⟩, 11), (⟨"ExactNotationModel", "fraction", "()J"⟩, 11), (⟨"ExactNotationModel", "q", "(J)I"⟩, 11), (⟨"ExactNotationModel", "row", "(JILExactNotationModel$Row;)V"⟩, 11), (⟨"ExactNotationModel", "times", "(J)V"⟩, 11), (⟨"ExactNotationModel", "scientific", "(LExactNotationModel$Row;IZ)V"⟩, 11), (⟨"ExactNotationModel", "rounded", "(LExactNotationModel$Row;I)V"⟩, 11), (⟨"ExactNotationModel", "fixed", "(LExactNotationModel$Row;IZZ)V"⟩, 11), (⟨"ExactNotationModel", "general", "(LExactNotationModel$Row;IZ)V"⟩, 11)]
theorem lw_r2 : ∀ q ∈ lw_privs_2, lw_okq q := List.forall_mem_cons.mpr ⟨lw_p16, List.forall_mem_cons.mpr ⟨lw_p17, List.forall_mem_cons.mpr ⟨lw_p18, List.forall_mem_cons.mpr ⟨lw_p19, List.forall_mem_cons.mpr ⟨lw_p20, List.forall_mem_cons.mpr ⟨lw_p21, List.forall_mem_cons.mpr ⟨lw_p22, List.forall_mem_cons.mpr ⟨lw_p23, List.forall_mem_cons.mpr ⟨lw_p24, List.forall_mem_cons.mpr ⟨lw_p25, List.forall_mem_cons.mpr ⟨lw_p26, List.forall_mem_cons.mpr ⟨lw_p27, List.forall_mem_cons.mpr ⟨lw_p28, List.forall_mem_cons.mpr ⟨lw_p29, List.forall_mem_cons.mpr ⟨lw_p30, fun _ h => absurd h List.not_mem_nil⟩⟩⟩⟩⟩⟩⟩⟩⟩⟩⟩⟩⟩⟩⟩
def lw_privs : List (MethodName × Nat) := lw_privs_1 ++ (lw_privs_2)
def lw_tbl : List Cond := k2_sels lw_privs ++ tables_1
theorem lw_privs_ok : ∀ q ∈ lw_privs, lw_okq q := by
  show ∀ q ∈ lw_privs_1 ++ (lw_privs_2), lw_okq q
  exact List.forall_mem_append.mpr ⟨lw_r1, lw_r2⟩
end
section
/-! ints and longs by whole numbers -/
def iz (k : Int) : Int32 := Int32.ofInt k
def lz (k : Int) : Int64 := Int64.ofInt k
abbrev iR (k : Int) : Prop := -2147483648 ≤ k ∧ k ≤ 2147483647
abbrev lR (k : Int) : Prop := -9223372036854775808 ≤ k ∧ k ≤ 9223372036854775807
theorem iz_toInt {k : Int} (h : iR k) : (iz k).toInt = k := Int32.toInt_ofInt_of_le (by omega) (by omega)
theorem lz_toInt {k : Int} (h : lR k) : (lz k).toInt = k := Int64.toInt_ofInt_of_le (by omega) (by omega)
theorem iz_of (x : Int32) : iz x.toInt = x := Int32.ofInt_toInt x
theorem lz_of (x : Int64) : lz x.toInt = x := Int64.ofInt_toInt x
theorem iz_R (x : Int32) : iR x.toInt := by
  have h1 := Int32.le_toInt x
  have h2 := Int32.toInt_lt x
  exact ⟨by omega, by omega⟩
theorem lz_R (x : Int64) : lR x.toInt := by
  have h1 := Int64.le_toInt x
  have h2 := Int64.toInt_lt x
  exact ⟨by omega, by omega⟩
theorem iz_add (a b : Int) : iz (a + b) = iz a + iz b := Int32.ofInt_add a b
theorem iz_sub (a b : Int) : iz (a - b) = iz a - iz b := Int32.ofInt_sub a b
theorem iz_mul (a b : Int) : iz (a * b) = iz a * iz b := Int32.ofInt_mul a b
theorem iz_neg (a : Int) : iz (-a) = -iz a := Int32.ofInt_neg a
theorem lz_add (a b : Int) : lz (a + b) = lz a + lz b := Int64.ofInt_add a b
theorem lz_sub (a b : Int) : lz (a - b) = lz a - lz b := Int64.ofInt_sub a b
theorem lz_mul (a b : Int) : lz (a * b) = lz a * lz b := Int64.ofInt_mul a b
theorem lz_neg (a : Int) : lz (-a) = -lz a := Int64.ofInt_neg a
theorem iz_lt {a b : Int} (ha : iR a) (hb : iR b) : iz a < iz b ↔ a < b := by rw [Int32.lt_iff_toInt_lt, iz_toInt ha, iz_toInt hb]
theorem iz_le {a b : Int} (ha : iR a) (hb : iR b) : iz a ≤ iz b ↔ a ≤ b := by rw [Int32.le_iff_toInt_le, iz_toInt ha, iz_toInt hb]
theorem iz_eq {a b : Int} (ha : iR a) (hb : iR b) : iz a = iz b ↔ a = b := ⟨fun h => by
  have h2 := congrArg Int32.toInt h
  rwa [iz_toInt ha, iz_toInt hb] at h2, fun h => by rw [h]⟩
theorem lz_lt {a b : Int} (ha : lR a) (hb : lR b) : lz a < lz b ↔ a < b := by rw [Int64.lt_iff_toInt_lt, lz_toInt ha, lz_toInt hb]
theorem lz_le {a b : Int} (ha : lR a) (hb : lR b) : lz a ≤ lz b ↔ a ≤ b := by rw [Int64.le_iff_toInt_le, lz_toInt ha, lz_toInt hb]
theorem lz_eq {a b : Int} (ha : lR a) (hb : lR b) : lz a = lz b ↔ a = b := ⟨fun h => by
  have h2 := congrArg Int64.toInt h
  rwa [lz_toInt ha, lz_toInt hb] at h2, fun h => by rw [h]⟩
theorem iz_0 : iz 0 = 0 := by decide
theorem lz_0 : lz 0 = 0 := by decide
theorem iz_cl {k : Int} (h0 : 0 ≤ k) (h : k ≤ 2147483647) : (iz k).toNatClampNeg = k.toNat := Int32.toNatClampNeg_ofInt_of_le (by omega) (by omega)
theorem iz_in {k : Int} {n : Nat} (h0 : 0 ≤ k) (h : k < (n : Int)) (hn : (n : Int) ≤ 2147483647) : vp_in (iz k) n := by
  rw [vp_in_iff, iz_toInt ⟨by omega, by omega⟩]
  exact ⟨h0, h⟩
theorem iz_nat (n : Nat) : iz (n : Int) = nI n := Int32.ofInt_eq_ofNat
theorem lz_nat (n : Nat) : lz (n : Int) = lN n := Int64.ofInt_eq_ofNat
theorem iz_div {a b : Int} (ha : 0 ≤ a ∧ a ≤ 2147483647) (hb : 0 < b ∧ b ≤ 2147483647) : iz a / iz b = iz (a / b) := by
  obtain ⟨n, rfl⟩ := Int.eq_ofNat_of_zero_le ha.1
  obtain ⟨k, rfl⟩ := Int.eq_ofNat_of_zero_le (show 0 ≤ b by omega)
  rw [iz_nat, iz_nat, pk_div (by omega) (by omega) (by omega), ← iz_nat]
  rfl
theorem iz_rem {a b : Int} (ha : 0 ≤ a ∧ a ≤ 2147483647) (hb : 0 < b ∧ b ≤ 2147483647) : iz a - iz a / iz b * iz b = iz (a % b) := by
  rw [iz_div ha hb, ← iz_mul, ← iz_sub, Int.emod_def, Int.mul_comm]
theorem lz_div {a b : Int} (ha : 0 ≤ a ∧ a ≤ 9223372036854775807) (hb : 0 < b ∧ b ≤ 9223372036854775807) : lz a / lz b = lz (a / b) := by
  obtain ⟨n, rfl⟩ := Int.eq_ofNat_of_zero_le ha.1
  obtain ⟨k, rfl⟩ := Int.eq_ofNat_of_zero_le (show 0 ≤ b by omega)
  rw [lz_nat, lz_nat, pk_lDiv (by omega) (by omega) (by omega), ← lz_nat]
  rfl
theorem lz_rem {a b : Int} (ha : 0 ≤ a ∧ a ≤ 9223372036854775807) (hb : 0 < b ∧ b ≤ 9223372036854775807) : lz a - lz a / lz b * lz b = lz (a % b) := by
  rw [lz_div ha hb, ← lz_mul, ← lz_sub, Int.emod_def, Int.mul_comm]
theorem iz_i2l {a : Int} (ha : iR a) : (iz a).toInt64 = lz a := Int64.toInt_inj.mp (by rw [Int32.toInt_toInt64, iz_toInt ha, lz_toInt ⟨by omega, by omega⟩])
theorem lz_l2i (a : Int) : (lz a).toInt32 = iz a := Int64.toInt32_ofInt
theorem iz_i2b {a : Int} (ha : -128 ≤ a ∧ a ≤ 127) : (iz a).toInt8.toInt32 = iz a := lg_i2b_small (by rw [iz_toInt ⟨by omega, by omega⟩]; omega) (by rw [iz_toInt ⟨by omega, by omega⟩]; omega)
theorem iz_i2c {a : Int} (ha : 0 ≤ a ∧ a ≤ 65535) : ((iz a).toUInt32 % 65536).toInt32 = iz a := lg_i2c_word (by rw [iz_toInt ⟨by omega, by omega⟩]; omega) (by rw [iz_toInt ⟨by omega, by omega⟩]; omega)
theorem z_sh : ∀ k : Nat, k < 64 → ((nI k).toInt64 &&& 63) = lN k := by decide +kernel
theorem z_shu : ∀ k : Nat, k < 64 → ((nI k).toInt64.toUInt64 &&& Int64.toUInt64 63) = UInt64.ofNat k := by decide +kernel
theorem z_smod : ∀ k : Nat, k < 64 → ((lN k).toBitVec.smod 64).toNat = k := by decide +kernel
theorem z_u64 : ∀ k : Nat, k < 64 → (UInt64.ofNat k).toNat = k := by decide +kernel
theorem lz_shl {a k : Int} (hk : 0 ≤ k ∧ k < 64) (h : -9223372036854775808 ≤ a * 2 ^ k.toNat ∧ a * 2 ^ k.toNat ≤ 9223372036854775807) (ha : lR a) : lz a <<< ((iz k).toInt64 &&& 63) = lz (a * 2 ^ k.toNat) := by
  obtain ⟨n, rfl⟩ := Int.eq_ofNat_of_zero_le hk.1
  have hn : n < 64 := by omega
  rw [Int.toNat_natCast] at h ⊢
  rw [iz_nat, z_sh n hn]
  refine Int64.toInt_inj.mp ?_
  rw [Jvm.Kit.i64_shl (lz a) (lN n) (z_smod n hn) (by rw [lz_toInt ha]; omega) (by rw [lz_toInt ha]; omega), lz_toInt ha, lz_toInt h]
theorem lz_ushr {a k : Int} (hk : 0 ≤ k ∧ k < 64) (ha : 0 ≤ a ∧ a ≤ 9223372036854775807) : ((lz a).toUInt64 >>> ((iz k).toInt64.toUInt64 &&& Int64.toUInt64 63)).toInt64 = lz (a / 2 ^ k.toNat) := by
  obtain ⟨n, rfl⟩ := Int.eq_ofNat_of_zero_le hk.1
  have hn : n < 64 := by omega
  have hr : lR a := ⟨by omega, by omega⟩
  rw [Int.toNat_natCast, iz_nat, z_shu n hn]
  have hp : (0 : Int) < 2 ^ n := Int.pow_pos (by decide)
  have h1 : a / 2 ^ n ≤ a := Int.ediv_le_self _ ha.1
  have h2 : 0 ≤ a / 2 ^ n := Int.ediv_nonneg ha.1 (Int.le_of_lt hp)
  refine Int64.toInt_inj.mp ?_
  rw [Jvm.Kit.i64_lushr (x := lz a) (by rw [Int64.le_iff_toInt_le, Int64.toInt_zero, lz_toInt hr]; exact ha.1) (z_u64 n hn) hn, lz_toInt hr, lz_toInt ⟨by omega, by omega⟩]
theorem lz_mask {a b : Int} (k : Nat) (hk : k < 63) (hb : b = 2 ^ k - 1) (ha : 0 ≤ a ∧ a ≤ 9223372036854775807) : lz a &&& lz b = lz (a % 2 ^ k) := by
  have hr : lR a := ⟨by omega, by omega⟩
  have hp : (0 : Int) < 2 ^ k := Int.pow_pos (by decide)
  have h1 : 0 ≤ a % 2 ^ k := Int.emod_nonneg _ (by omega)
  have h2 : a % 2 ^ k < 2 ^ k := Int.emod_lt_of_pos _ hp
  have h3 : a % 2 ^ k ≤ a := by
    have := Int.emod_add_mul_ediv a (2 ^ k)
    have h4 : 0 ≤ 2 ^ k * (a / 2 ^ k) := Int.mul_nonneg (Int.le_of_lt hp) (Int.ediv_nonneg ha.1 (Int.le_of_lt hp))
    omega
  have hm : (lz b).toBitVec.toNat = 2 ^ k - 1 := by
    have e : b = ((2 ^ k - 1 : Nat) : Int) := by
      rw [hb, Int.natCast_sub (Nat.one_le_two_pow)]
      simp
    rw [e, lz_nat]
    show (BitVec.ofNat 64 (2 ^ k - 1)).toNat = _
    rw [BitVec.toNat_ofNat]
    refine Nat.mod_eq_of_lt ?_
    have : 2 ^ k < 2 ^ 64 := Nat.pow_lt_pow_right (by decide) (by omega)
    omega
  refine Int64.toInt_inj.mp ?_
  rw [Jvm.Kit.i64_mask (lz a) (lz b) (k := k) (by omega) hm, lz_toInt hr, lz_toInt ⟨by omega, by omega⟩]
theorem z_or (k : Nat) {a b : Nat} (hb : b < 2 ^ k) (h : a * 2 ^ k + b < 2 ^ 64) : lN (a * 2 ^ k) ||| lN b = lN (a * 2 ^ k + b) := by
  refine Int64.toBitVec_inj.mp ?_
  show (BitVec.ofNat 64 (a * 2 ^ k) ||| BitVec.ofNat 64 b) = BitVec.ofNat 64 (a * 2 ^ k + b)
  refine BitVec.eq_of_toNat_eq ?_
  rw [BitVec.toNat_or, BitVec.toNat_ofNat, BitVec.toNat_ofNat, BitVec.toNat_ofNat, Nat.mod_eq_of_lt (by omega), Nat.mod_eq_of_lt (by omega), Nat.mod_eq_of_lt (by omega), Nat.mul_comm a, Nat.two_pow_add_eq_or_of_lt hb]
theorem lz_or {a b : Int} (k : Nat) (ha : 0 ≤ a) (hb : 0 ≤ b) (hb2 : b < 2 ^ k) (h : a * 2 ^ k + b < 18446744073709551616) : lz (a * 2 ^ k) ||| lz b = lz (a * 2 ^ k + b) := by
  obtain ⟨x, rfl⟩ := Int.eq_ofNat_of_zero_le ha
  obtain ⟨y, rfl⟩ := Int.eq_ofNat_of_zero_le hb
  have e : (x : Int) * 2 ^ k = ((x * 2 ^ k : Nat) : Int) := by simp
  have e2 : ((2 : Int) ^ k) = ((2 ^ k : Nat) : Int) := by simp
  rw [e2] at hb2
  rw [e] at h
  rw [e, show ((x * 2 ^ k : Nat) : Int) + (y : Int) = ((x * 2 ^ k + y : Nat) : Int) by simp, lz_nat, lz_nat, lz_nat]
  exact z_or k (by omega) (by omega)
/-! arrays by functions of whole numbers -/
def az (f : Int → Int) : Nat → Int32 := fun j => iz (f (j : Int))
def azl (f : Int → Int) : Nat → Int64 := fun j => lz (f (j : Int))
def up (f : Int → Int) (k x : Int) : Int → Int := fun j => if j = k then x else f j
theorem up_s (f : Int → Int) (k x : Int) : up f k x k = x := if_pos rfl
theorem up_n (f : Int → Int) {k j : Int} (x : Int) (h : j ≠ k) : up f k x j = f j := if_neg h
theorem az_up (f : Int → Int) {k : Int} (h : 0 ≤ k) (x : Int) : upd (az f) k.toNat (iz x) = az (up f k x) := by
  funext j
  show (if j = k.toNat then iz x else iz (f j)) = iz (if (j : Int) = k then x else f j)
  by_cases hj : j = k.toNat
  · rw [if_pos hj, if_pos (by omega)]
  · rw [if_neg hj, if_neg (by omega)]
theorem azl_up (f : Int → Int) {k : Int} (h : 0 ≤ k) (x : Int) : vp_updL (azl f) k.toNat (lz x) = azl (up f k x) := by
  funext j
  show (if j = k.toNat then lz x else lz (f j)) = lz (if (j : Int) = k then x else f j)
  by_cases hj : j = k.toNat
  · rw [if_pos hj, if_pos (by omega)]
  · rw [if_neg hj, if_neg (by omega)]
theorem az_at (f : Int → Int) {k : Int} (h : 0 ≤ k) : az f k.toNat = iz (f k) := by
  show iz (f (k.toNat : Int)) = _
  rw [Int.toNat_of_nonneg h]
theorem azl_at (f : Int → Int) {k : Int} (h : 0 ≤ k) : azl f k.toNat = lz (f k) := by
  show lz (f (k.toNat : Int)) = _
  rw [Int.toNat_of_nonneg h]
theorem z_narb {a : Int} (ha : -128 ≤ a ∧ a ≤ 127) : vp_nar .byte (iz a) = iz a := by rw [vp_nar_byte]; exact iz_i2b ha
def zcmp (a b : Int) : Int := if b < a then 1 else if a = b then 0 else -1
theorem zcmp_lg {a b : Int} (ha : lR a) (hb : lR b) : lg_cmp (lz a) (lz b) = iz (zcmp a b) := by
  unfold lg_cmp zcmp
  by_cases h1 : b < a
  · rw [if_pos h1, if_pos ((lz_lt hb ha).mpr h1)]; decide
  · rw [if_neg h1, if_neg (fun h => h1 ((lz_lt hb ha).mp h))]
    by_cases h2 : a = b
    · rw [if_pos h2, if_pos ((lz_eq ha hb).mpr h2)]; decide
    · rw [if_neg h2, if_neg (fun h => h2 ((lz_eq ha hb).mp h))]; decide
theorem zcmp_r (a b : Int) : iR (zcmp a b) := by
  unfold zcmp
  split
  · exact ⟨by omega, by omega⟩
  · split
    · exact ⟨by omega, by omega⟩
    · exact ⟨by omega, by omega⟩
theorem zcmp_i (a b : Int) : (zcmp a b = 0 ↔ a = b) ∧ (zcmp a b < 0 ↔ a < b) ∧ (0 ≤ zcmp a b ↔ b ≤ a) ∧ (0 < zcmp a b ↔ b < a) ∧ (zcmp a b ≤ 0 ↔ a ≤ b) := by
  unfold zcmp
  refine ⟨?_, ?_, ?_, ?_, ?_⟩ <;> split <;> (try split) <;> omega

section ZRows
variable {p : Program} {l : Launch} {e : Env} {R : Room} {s : State} {m : MethodId} {args : Array Value} {below : List Frame} {meth : Method} {c : Code} {H H0 : Heap} {locs : List Loc} {cells slots : Nat} {Q : State → Prop} {cc : ByteArray} {pc : Nat} {ls : Array Slot} {rest : List Value} {A : Nat → Prop} {D : va_G} {cl : List vw_C} {tys : List (ClassId × FieldType)} {ws : va_W}
theorem z_iadd (hx : p.tables.exec = Jvm.exec) (hb : c.code = cc) {a b : Int} (hdg : decode cc pc = .ok (.iadd, 1)) (k : W p l e R s m args below meth c H locs cells slots Q (F0 m (pc + 1) ls (.int (iz (a + b)) :: rest))) : W p l e R s m args below meth c H locs cells slots Q (F0 m pc ls (.int (iz b) :: .int (iz a) :: rest)) := by
  rw [iz_add] at k
  exact lv_iadd hx hb hdg k
theorem z_isub (hx : p.tables.exec = Jvm.exec) (hb : c.code = cc) {a b : Int} (hdg : decode cc pc = .ok (.isub, 1)) (k : W p l e R s m args below meth c H locs cells slots Q (F0 m (pc + 1) ls (.int (iz (a - b)) :: rest))) : W p l e R s m args below meth c H locs cells slots Q (F0 m pc ls (.int (iz b) :: .int (iz a) :: rest)) := by
  rw [iz_sub] at k
  exact lv_isub hx hb hdg k
theorem z_imul (hx : p.tables.exec = Jvm.exec) (hb : c.code = cc) {a b : Int} (hdg : decode cc pc = .ok (.imul, 1)) (k : W p l e R s m args below meth c H locs cells slots Q (F0 m (pc + 1) ls (.int (iz (a * b)) :: rest))) : W p l e R s m args below meth c H locs cells slots Q (F0 m pc ls (.int (iz b) :: .int (iz a) :: rest)) := by
  rw [iz_mul] at k
  exact lv_imul hx hb hdg k
theorem z_ladd (hx : p.tables.exec = Jvm.exec) (hb : c.code = cc) {a b : Int} (hdg : decode cc pc = .ok (.ladd, 1)) (k : W p l e R s m args below meth c H locs cells slots Q (F0 m (pc + 1) ls (.long (lz (a + b)) :: rest))) : W p l e R s m args below meth c H locs cells slots Q (F0 m pc ls (.long (lz b) :: .long (lz a) :: rest)) := by
  rw [lz_add] at k
  exact lv_ladd hx hb hdg k
theorem z_lsub (hx : p.tables.exec = Jvm.exec) (hb : c.code = cc) {a b : Int} (hdg : decode cc pc = .ok (.lsub, 1)) (k : W p l e R s m args below meth c H locs cells slots Q (F0 m (pc + 1) ls (.long (lz (a - b)) :: rest))) : W p l e R s m args below meth c H locs cells slots Q (F0 m pc ls (.long (lz b) :: .long (lz a) :: rest)) := by
  rw [lz_sub] at k
  exact lv_lsub hx hb hdg k
theorem z_lmul (hx : p.tables.exec = Jvm.exec) (hb : c.code = cc) {a b : Int} (hdg : decode cc pc = .ok (.lmul, 1)) (k : W p l e R s m args below meth c H locs cells slots Q (F0 m (pc + 1) ls (.long (lz (a * b)) :: rest))) : W p l e R s m args below meth c H locs cells slots Q (F0 m pc ls (.long (lz b) :: .long (lz a) :: rest)) := by
  rw [lz_mul] at k
  exact lv_lmul hx hb hdg k
theorem z_ineg (hx : p.tables.exec = Jvm.exec) (hb : c.code = cc) {a : Int} (hdg : decode cc pc = .ok (.ineg, 1)) (k : W p l e R s m args below meth c H locs cells slots Q (F0 m (pc + 1) ls (.int (iz (-a)) :: rest))) : W p l e R s m args below meth c H locs cells slots Q (F0 m pc ls (.int (iz a) :: rest)) := by
  rw [iz_neg] at k
  exact lv_ineg hx hb hdg k
theorem z_idiv (hx : p.tables.exec = Jvm.exec) (hb : c.code = cc) {a b : Int} (hdg : decode cc pc = .ok (.idiv, 1)) (ha : 0 ≤ a ∧ a ≤ 2147483647) (hd : 0 < b ∧ b ≤ 2147483647) (k : W p l e R s m args below meth c H locs cells slots Q (F0 m (pc + 1) ls (.int (iz (a / b)) :: rest))) : W p l e R s m args below meth c H locs cells slots Q (F0 m pc ls (.int (iz b) :: .int (iz a) :: rest)) := by
  rw [← iz_div ha hd] at k
  exact lv_idiv hx hb hdg (fun h => by rw [← iz_0, iz_eq ⟨by omega, by omega⟩ ⟨by omega, by omega⟩] at h; omega) k
theorem z_irem (hx : p.tables.exec = Jvm.exec) (hb : c.code = cc) {a b : Int} (hdg : decode cc pc = .ok (.irem, 1)) (ha : 0 ≤ a ∧ a ≤ 2147483647) (hd : 0 < b ∧ b ≤ 2147483647) (k : W p l e R s m args below meth c H locs cells slots Q (F0 m (pc + 1) ls (.int (iz (a % b)) :: rest))) : W p l e R s m args below meth c H locs cells slots Q (F0 m pc ls (.int (iz b) :: .int (iz a) :: rest)) := by
  rw [← iz_rem ha hd] at k
  exact lv_irem hx hb hdg (fun h => by rw [← iz_0, iz_eq ⟨by omega, by omega⟩ ⟨by omega, by omega⟩] at h; omega) k
theorem z_ldiv (hx : p.tables.exec = Jvm.exec) (hb : c.code = cc) {a b : Int} (hdg : decode cc pc = .ok (.ldiv, 1)) (ha : 0 ≤ a ∧ a ≤ 9223372036854775807) (hd : 0 < b ∧ b ≤ 9223372036854775807) (k : W p l e R s m args below meth c H locs cells slots Q (F0 m (pc + 1) ls (.long (lz (a / b)) :: rest))) : W p l e R s m args below meth c H locs cells slots Q (F0 m pc ls (.long (lz b) :: .long (lz a) :: rest)) := by
  rw [← lz_div ha hd] at k
  exact lv_ldiv hx hb hdg (fun h => by rw [← lz_0, lz_eq ⟨by omega, by omega⟩ ⟨by omega, by omega⟩] at h; omega) k
theorem z_lrem (hx : p.tables.exec = Jvm.exec) (hb : c.code = cc) {a b : Int} (hdg : decode cc pc = .ok (.lrem, 1)) (ha : 0 ≤ a ∧ a ≤ 9223372036854775807) (hd : 0 < b ∧ b ≤ 9223372036854775807) (k : W p l e R s m args below meth c H locs cells slots Q (F0 m (pc + 1) ls (.long (lz (a % b)) :: rest))) : W p l e R s m args below meth c H locs cells slots Q (F0 m pc ls (.long (lz b) :: .long (lz a) :: rest)) := by
  rw [← lz_rem ha hd] at k
  exact lv_lrem hx hb hdg (fun h => by rw [← lz_0, lz_eq ⟨by omega, by omega⟩ ⟨by omega, by omega⟩] at h; omega) k
theorem z_i2l (hx : p.tables.exec = Jvm.exec) (hb : c.code = cc) {a : Int} (hdg : decode cc pc = .ok (.i2l, 1)) (ha : iR a) (k : W p l e R s m args below meth c H locs cells slots Q (F0 m (pc + 1) ls (.long (lz a) :: rest))) : W p l e R s m args below meth c H locs cells slots Q (F0 m pc ls (.int (iz a) :: rest)) := lv_i2l hx hb hdg (iz_i2l ha) k
theorem z_l2i (hx : p.tables.exec = Jvm.exec) (hb : c.code = cc) {a : Int} (hdg : decode cc pc = .ok (.l2i, 1)) (k : W p l e R s m args below meth c H locs cells slots Q (F0 m (pc + 1) ls (.int (iz a) :: rest))) : W p l e R s m args below meth c H locs cells slots Q (F0 m pc ls (.long (lz a) :: rest)) := lv_l2i hx hb hdg (lz_l2i a) k
theorem z_i2b (hx : p.tables.exec = Jvm.exec) (hb : c.code = cc) {a : Int} (hdg : decode cc pc = .ok (.i2b, 1)) (ha : -128 ≤ a ∧ a ≤ 127) (k : W p l e R s m args below meth c H locs cells slots Q (F0 m (pc + 1) ls (.int (iz a) :: rest))) : W p l e R s m args below meth c H locs cells slots Q (F0 m pc ls (.int (iz a) :: rest)) := lv_i2b hx hb hdg (iz_i2b ha) k
theorem z_i2c (hx : p.tables.exec = Jvm.exec) (hb : c.code = cc) {a : Int} (hdg : decode cc pc = .ok (.i2c, 1)) (ha : 0 ≤ a ∧ a ≤ 65535) (k : W p l e R s m args below meth c H locs cells slots Q (F0 m (pc + 1) ls (.int (iz a) :: rest))) : W p l e R s m args below meth c H locs cells slots Q (F0 m pc ls (.int (iz a) :: rest)) := lv_i2c hx hb hdg (iz_i2c ha) k
theorem z_lshl (hx : p.tables.exec = Jvm.exec) (hb : c.code = cc) {a b : Int} (j : Nat) (hdg : decode cc pc = .ok (.lshl, 1)) (hj : b = (j : Int)) (h64 : j < 64) (ha : lR a) (h : lR (a * 2 ^ j)) (k : W p l e R s m args below meth c H locs cells slots Q (F0 m (pc + 1) ls (.long (lz (a * 2 ^ j)) :: rest))) : W p l e R s m args below meth c H locs cells slots Q (F0 m pc ls (.int (iz b) :: .long (lz a) :: rest)) := by
  subst hj
  exact lv_lshl hx hb hdg (lz_shl (k := (j : Int)) ⟨by omega, by omega⟩ (by rw [Int.toNat_natCast]; exact h) ha) (by rw [Int.toNat_natCast]; exact k)
theorem z_lushr (hx : p.tables.exec = Jvm.exec) (hb : c.code = cc) {a b : Int} (j : Nat) (hdg : decode cc pc = .ok (.lushr, 1)) (hj : b = (j : Int)) (h64 : j < 64) (ha : 0 ≤ a ∧ a ≤ 9223372036854775807) (k : W p l e R s m args below meth c H locs cells slots Q (F0 m (pc + 1) ls (.long (lz (a / 2 ^ j)) :: rest))) : W p l e R s m args below meth c H locs cells slots Q (F0 m pc ls (.int (iz b) :: .long (lz a) :: rest)) := by
  subst hj
  exact lv_lushr hx hb hdg (lz_ushr (k := (j : Int)) ⟨by omega, by omega⟩ ha) (by rw [Int.toNat_natCast]; exact k)
theorem z_landm (hx : p.tables.exec = Jvm.exec) (hb : c.code = cc) {a b : Int} (j : Nat) (hdg : decode cc pc = .ok (.land, 1)) (hj : j < 63) (hm : b = 2 ^ j - 1) (ha : 0 ≤ a ∧ a ≤ 9223372036854775807) (k : W p l e R s m args below meth c H locs cells slots Q (F0 m (pc + 1) ls (.long (lz (a % 2 ^ j)) :: rest))) : W p l e R s m args below meth c H locs cells slots Q (F0 m pc ls (.long (lz b) :: .long (lz a) :: rest)) := by
  rw [← lz_mask j hj hm ha] at k
  exact lv_land hx hb hdg k
theorem z_lorp (hx : p.tables.exec = Jvm.exec) (hb : c.code = cc) {a b : Int} (j : Nat) (hdg : decode cc pc = .ok (.lor, 1)) (ha : 0 ≤ a) (h0 : 0 ≤ b) (h1 : b < 2 ^ j) (h2 : a * 2 ^ j + b < 18446744073709551616) (k : W p l e R s m args below meth c H locs cells slots Q (F0 m (pc + 1) ls (.long (lz (a * 2 ^ j + b)) :: rest))) : W p l e R s m args below meth c H locs cells slots Q (F0 m pc ls (.long (lz b) :: .long (lz (a * 2 ^ j)) :: rest)) := by
  rw [← lz_or j ha h0 h1 h2] at k
  exact lv_lor hx hb hdg k
theorem z_topi {x y : Int32} (h : x = y) (k : W p l e R s m args below meth c H locs cells slots Q (F0 m pc ls (.int y :: rest))) : W p l e R s m args below meth c H locs cells slots Q (F0 m pc ls (.int x :: rest)) := h ▸ k
theorem z_topl {x y : Int64} (h : x = y) (k : W p l e R s m args below meth c H locs cells slots Q (F0 m pc ls (.long y :: rest))) : W p l e R s m args below meth c H locs cells slots Q (F0 m pc ls (.long x :: rest)) := h ▸ k
theorem z_ri {a b : Int} (h : a = b) (k : W p l e R s m args below meth c H locs cells slots Q (F0 m pc ls (.int (iz b) :: rest))) : W p l e R s m args below meth c H locs cells slots Q (F0 m pc ls (.int (iz a) :: rest)) := h ▸ k
theorem z_rl {a b : Int} (h : a = b) (k : W p l e R s m args below meth c H locs cells slots Q (F0 m pc ls (.long (lz b) :: rest))) : W p l e R s m args below meth c H locs cells slots Q (F0 m pc ls (.long (lz a) :: rest)) := h ▸ k
theorem z_icmp_eq (hx : p.tables.exec = Jvm.exec) (hb : c.code = cc) {a b off : Int} {tgt : Nat} (hdg : decode cc pc = .ok (.if_icmp .eq off, 3)) (ht : (pc : Int) + off = (tgt : Int)) (ha : iR a) (hb2 : iR b) (kt : a = b → W p l e R s m args below meth c H locs cells slots Q (F0 m tgt ls (rest))) (kf : a ≠ b → W p l e R s m args below meth c H locs cells slots Q (F0 m (pc + 3) ls (rest))) : W p l e R s m args below meth c H locs cells slots Q (F0 m pc ls (.int (iz b) :: .int (iz a) :: rest)) :=
  lv_icmp_eq hx hb hdg ht (fun h => kt ((iz_eq ha hb2).mp h)) (fun h => kf (fun h2 => h ((iz_eq ha hb2).mpr h2)))
theorem z_if_eq (hx : p.tables.exec = Jvm.exec) (hb : c.code = cc) {a off : Int} {tgt : Nat} (hdg : decode cc pc = .ok (.ifCond .eq off, 3)) (ht : (pc : Int) + off = (tgt : Int)) (ha : iR a) (kt : a = 0 → W p l e R s m args below meth c H locs cells slots Q (F0 m tgt ls (rest))) (kf : a ≠ 0 → W p l e R s m args below meth c H locs cells slots Q (F0 m (pc + 3) ls (rest))) : W p l e R s m args below meth c H locs cells slots Q (F0 m pc ls (.int (iz a) :: rest)) := by
  have z_R0 : iR 0 := ⟨by omega, by omega⟩
  refine lv_if_eq hx hb hdg ht (fun h => kt ?_) (fun h => kf ?_)
  · rw [← iz_0] at h
    exact (iz_eq ha z_R0).mp h
  · rw [← iz_0] at h
    exact fun h2 => h ((iz_eq ha z_R0).mpr h2)
theorem z_icmp_ne (hx : p.tables.exec = Jvm.exec) (hb : c.code = cc) {a b off : Int} {tgt : Nat} (hdg : decode cc pc = .ok (.if_icmp .ne off, 3)) (ht : (pc : Int) + off = (tgt : Int)) (ha : iR a) (hb2 : iR b) (kt : a ≠ b → W p l e R s m args below meth c H locs cells slots Q (F0 m tgt ls (rest))) (kf : a = b → W p l e R s m args below meth c H locs cells slots Q (F0 m (pc + 3) ls (rest))) : W p l e R s m args below meth c H locs cells slots Q (F0 m pc ls (.int (iz b) :: .int (iz a) :: rest)) :=
  lv_icmp_ne hx hb hdg ht (fun h => kt (fun h2 => h ((iz_eq ha hb2).mpr h2))) (fun h => kf ((iz_eq ha hb2).mp h))
theorem z_if_ne (hx : p.tables.exec = Jvm.exec) (hb : c.code = cc) {a off : Int} {tgt : Nat} (hdg : decode cc pc = .ok (.ifCond .ne off, 3)) (ht : (pc : Int) + off = (tgt : Int)) (ha : iR a) (kt : a ≠ 0 → W p l e R s m args below meth c H locs cells slots Q (F0 m tgt ls (rest))) (kf : a = 0 → W p l e R s m args below meth c H locs cells slots Q (F0 m (pc + 3) ls (rest))) : W p l e R s m args below meth c H locs cells slots Q (F0 m pc ls (.int (iz a) :: rest)) := by
  have z_R0 : iR 0 := ⟨by omega, by omega⟩
  refine lv_if_ne hx hb hdg ht (fun h => kt ?_) (fun h => kf ?_)
  · rw [← iz_0] at h
    exact fun h2 => h ((iz_eq ha z_R0).mpr h2)
  · rw [← iz_0] at h
    exact (iz_eq ha z_R0).mp h
theorem z_icmp_lt (hx : p.tables.exec = Jvm.exec) (hb : c.code = cc) {a b off : Int} {tgt : Nat} (hdg : decode cc pc = .ok (.if_icmp .lt off, 3)) (ht : (pc : Int) + off = (tgt : Int)) (ha : iR a) (hb2 : iR b) (kt : a < b → W p l e R s m args below meth c H locs cells slots Q (F0 m tgt ls (rest))) (kf : b ≤ a → W p l e R s m args below meth c H locs cells slots Q (F0 m (pc + 3) ls (rest))) : W p l e R s m args below meth c H locs cells slots Q (F0 m pc ls (.int (iz b) :: .int (iz a) :: rest)) :=
  lv_icmp_lt hx hb hdg ht (fun h => kt ((iz_lt ha hb2).mp h)) (fun h => kf (Int.not_lt.mp (fun h2 => h ((iz_lt ha hb2).mpr h2))))
theorem z_if_lt (hx : p.tables.exec = Jvm.exec) (hb : c.code = cc) {a off : Int} {tgt : Nat} (hdg : decode cc pc = .ok (.ifCond .lt off, 3)) (ht : (pc : Int) + off = (tgt : Int)) (ha : iR a) (kt : a < 0 → W p l e R s m args below meth c H locs cells slots Q (F0 m tgt ls (rest))) (kf : 0 ≤ a → W p l e R s m args below meth c H locs cells slots Q (F0 m (pc + 3) ls (rest))) : W p l e R s m args below meth c H locs cells slots Q (F0 m pc ls (.int (iz a) :: rest)) := by
  have z_R0 : iR 0 := ⟨by omega, by omega⟩
  refine lv_if_lt hx hb hdg ht (fun h => kt ?_) (fun h => kf ?_)
  · rw [← iz_0] at h
    exact (iz_lt ha z_R0).mp h
  · rw [← iz_0] at h
    exact Int.not_lt.mp (fun h2 => h ((iz_lt ha z_R0).mpr h2))
theorem z_icmp_ge (hx : p.tables.exec = Jvm.exec) (hb : c.code = cc) {a b off : Int} {tgt : Nat} (hdg : decode cc pc = .ok (.if_icmp .ge off, 3)) (ht : (pc : Int) + off = (tgt : Int)) (ha : iR a) (hb2 : iR b) (kt : b ≤ a → W p l e R s m args below meth c H locs cells slots Q (F0 m tgt ls (rest))) (kf : a < b → W p l e R s m args below meth c H locs cells slots Q (F0 m (pc + 3) ls (rest))) : W p l e R s m args below meth c H locs cells slots Q (F0 m pc ls (.int (iz b) :: .int (iz a) :: rest)) :=
  lv_icmp_ge hx hb hdg ht (fun h => kt ((iz_le hb2 ha).mp h)) (fun h => kf (Int.not_le.mp (fun h2 => h ((iz_le hb2 ha).mpr h2))))
theorem z_if_ge (hx : p.tables.exec = Jvm.exec) (hb : c.code = cc) {a off : Int} {tgt : Nat} (hdg : decode cc pc = .ok (.ifCond .ge off, 3)) (ht : (pc : Int) + off = (tgt : Int)) (ha : iR a) (kt : 0 ≤ a → W p l e R s m args below meth c H locs cells slots Q (F0 m tgt ls (rest))) (kf : a < 0 → W p l e R s m args below meth c H locs cells slots Q (F0 m (pc + 3) ls (rest))) : W p l e R s m args below meth c H locs cells slots Q (F0 m pc ls (.int (iz a) :: rest)) := by
  have z_R0 : iR 0 := ⟨by omega, by omega⟩
  refine lv_if_ge hx hb hdg ht (fun h => kt ?_) (fun h => kf ?_)
  · rw [← iz_0] at h
    exact (iz_le z_R0 ha).mp h
  · rw [← iz_0] at h
    exact Int.not_le.mp (fun h2 => h ((iz_le z_R0 ha).mpr h2))
theorem z_icmp_gt (hx : p.tables.exec = Jvm.exec) (hb : c.code = cc) {a b off : Int} {tgt : Nat} (hdg : decode cc pc = .ok (.if_icmp .gt off, 3)) (ht : (pc : Int) + off = (tgt : Int)) (ha : iR a) (hb2 : iR b) (kt : b < a → W p l e R s m args below meth c H locs cells slots Q (F0 m tgt ls (rest))) (kf : a ≤ b → W p l e R s m args below meth c H locs cells slots Q (F0 m (pc + 3) ls (rest))) : W p l e R s m args below meth c H locs cells slots Q (F0 m pc ls (.int (iz b) :: .int (iz a) :: rest)) :=
  lv_icmp_gt hx hb hdg ht (fun h => kt ((iz_lt hb2 ha).mp h)) (fun h => kf (Int.not_lt.mp (fun h2 => h ((iz_lt hb2 ha).mpr h2))))
theorem z_if_gt (hx : p.tables.exec = Jvm.exec) (hb : c.code = cc) {a off : Int} {tgt : Nat} (hdg : decode cc pc = .ok (.ifCond .gt off, 3)) (ht : (pc : Int) + off = (tgt : Int)) (ha : iR a) (kt : 0 < a → W p l e R s m args below meth c H locs cells slots Q (F0 m tgt ls (rest))) (kf : a ≤ 0 → W p l e R s m args below meth c H locs cells slots Q (F0 m (pc + 3) ls (rest))) : W p l e R s m args below meth c H locs cells slots Q (F0 m pc ls (.int (iz a) :: rest)) := by
  have z_R0 : iR 0 := ⟨by omega, by omega⟩
  refine lv_if_gt hx hb hdg ht (fun h => kt ?_) (fun h => kf ?_)
  · rw [← iz_0] at h
    exact (iz_lt z_R0 ha).mp h
  · rw [← iz_0] at h
    exact Int.not_lt.mp (fun h2 => h ((iz_lt z_R0 ha).mpr h2))
theorem z_icmp_le (hx : p.tables.exec = Jvm.exec) (hb : c.code = cc) {a b off : Int} {tgt : Nat} (hdg : decode cc pc = .ok (.if_icmp .le off, 3)) (ht : (pc : Int) + off = (tgt : Int)) (ha : iR a) (hb2 : iR b) (kt : a ≤ b → W p l e R s m args below meth c H locs cells slots Q (F0 m tgt ls (rest))) (kf : b < a → W p l e R s m args below meth c H locs cells slots Q (F0 m (pc + 3) ls (rest))) : W p l e R s m args below meth c H locs cells slots Q (F0 m pc ls (.int (iz b) :: .int (iz a) :: rest)) :=
  lv_icmp_le hx hb hdg ht (fun h => kt ((iz_le ha hb2).mp h)) (fun h => kf (Int.not_le.mp (fun h2 => h ((iz_le ha hb2).mpr h2))))
theorem z_if_le (hx : p.tables.exec = Jvm.exec) (hb : c.code = cc) {a off : Int} {tgt : Nat} (hdg : decode cc pc = .ok (.ifCond .le off, 3)) (ht : (pc : Int) + off = (tgt : Int)) (ha : iR a) (kt : a ≤ 0 → W p l e R s m args below meth c H locs cells slots Q (F0 m tgt ls (rest))) (kf : 0 < a → W p l e R s m args below meth c H locs cells slots Q (F0 m (pc + 3) ls (rest))) : W p l e R s m args below meth c H locs cells slots Q (F0 m pc ls (.int (iz a) :: rest)) := by
  have z_R0 : iR 0 := ⟨by omega, by omega⟩
  refine lv_if_le hx hb hdg ht (fun h => kt ?_) (fun h => kf ?_)
  · rw [← iz_0] at h
    exact (iz_le ha z_R0).mp h
  · rw [← iz_0] at h
    exact Int.not_le.mp (fun h2 => h ((iz_le ha z_R0).mpr h2))
theorem z_lif_eq (hx : p.tables.exec = Jvm.exec) (hb : c.code = cc) {a b off : Int} {tgt : Nat} (hd1 : decode cc pc = .ok (.lcmp, 1)) (hd2 : decode cc (pc + 1) = .ok (.ifCond .eq off, 3)) (ht : ((pc + 1 : Nat) : Int) + off = (tgt : Int)) (ha : lR a) (hb2 : lR b) (kt : a = b → W p l e R s m args below meth c H locs cells slots Q (F0 m tgt ls (rest))) (kf : a ≠ b → W p l e R s m args below meth c H locs cells slots Q (F0 m (pc + 1 + 3) ls (rest))) : W p l e R s m args below meth c H locs cells slots Q (F0 m pc ls (.long (lz b) :: .long (lz a) :: rest)) := by
  refine W.lcmp hx hb hd1 ?_
  rw [zcmp_lg ha hb2]
  have hz := zcmp_i a b
  exact z_if_eq hx hb hd2 ht (zcmp_r a b) (fun h => kt (by omega)) (fun h => kf (by omega))
theorem z_lif_ne (hx : p.tables.exec = Jvm.exec) (hb : c.code = cc) {a b off : Int} {tgt : Nat} (hd1 : decode cc pc = .ok (.lcmp, 1)) (hd2 : decode cc (pc + 1) = .ok (.ifCond .ne off, 3)) (ht : ((pc + 1 : Nat) : Int) + off = (tgt : Int)) (ha : lR a) (hb2 : lR b) (kt : a ≠ b → W p l e R s m args below meth c H locs cells slots Q (F0 m tgt ls (rest))) (kf : a = b → W p l e R s m args below meth c H locs cells slots Q (F0 m (pc + 1 + 3) ls (rest))) : W p l e R s m args below meth c H locs cells slots Q (F0 m pc ls (.long (lz b) :: .long (lz a) :: rest)) := by
  refine W.lcmp hx hb hd1 ?_
  rw [zcmp_lg ha hb2]
  have hz := zcmp_i a b
  exact z_if_ne hx hb hd2 ht (zcmp_r a b) (fun h => kt (by omega)) (fun h => kf (by omega))
theorem z_lif_lt (hx : p.tables.exec = Jvm.exec) (hb : c.code = cc) {a b off : Int} {tgt : Nat} (hd1 : decode cc pc = .ok (.lcmp, 1)) (hd2 : decode cc (pc + 1) = .ok (.ifCond .lt off, 3)) (ht : ((pc + 1 : Nat) : Int) + off = (tgt : Int)) (ha : lR a) (hb2 : lR b) (kt : a < b → W p l e R s m args below meth c H locs cells slots Q (F0 m tgt ls (rest))) (kf : b ≤ a → W p l e R s m args below meth c H locs cells slots Q (F0 m (pc + 1 + 3) ls (rest))) : W p l e R s m args below meth c H locs cells slots Q (F0 m pc ls (.long (lz b) :: .long (lz a) :: rest)) := by
  refine W.lcmp hx hb hd1 ?_
  rw [zcmp_lg ha hb2]
  have hz := zcmp_i a b
  exact z_if_lt hx hb hd2 ht (zcmp_r a b) (fun h => kt (by omega)) (fun h => kf (by omega))
theorem z_lif_ge (hx : p.tables.exec = Jvm.exec) (hb : c.code = cc) {a b off : Int} {tgt : Nat} (hd1 : decode cc pc = .ok (.lcmp, 1)) (hd2 : decode cc (pc + 1) = .ok (.ifCond .ge off, 3)) (ht : ((pc + 1 : Nat) : Int) + off = (tgt : Int)) (ha : lR a) (hb2 : lR b) (kt : b ≤ a → W p l e R s m args below meth c H locs cells slots Q (F0 m tgt ls (rest))) (kf : a < b → W p l e R s m args below meth c H locs cells slots Q (F0 m (pc + 1 + 3) ls (rest))) : W p l e R s m args below meth c H locs cells slots Q (F0 m pc ls (.long (lz b) :: .long (lz a) :: rest)) := by
  refine W.lcmp hx hb hd1 ?_
  rw [zcmp_lg ha hb2]
  have hz := zcmp_i a b
  exact z_if_ge hx hb hd2 ht (zcmp_r a b) (fun h => kt (by omega)) (fun h => kf (by omega))
theorem z_lif_gt (hx : p.tables.exec = Jvm.exec) (hb : c.code = cc) {a b off : Int} {tgt : Nat} (hd1 : decode cc pc = .ok (.lcmp, 1)) (hd2 : decode cc (pc + 1) = .ok (.ifCond .gt off, 3)) (ht : ((pc + 1 : Nat) : Int) + off = (tgt : Int)) (ha : lR a) (hb2 : lR b) (kt : b < a → W p l e R s m args below meth c H locs cells slots Q (F0 m tgt ls (rest))) (kf : a ≤ b → W p l e R s m args below meth c H locs cells slots Q (F0 m (pc + 1 + 3) ls (rest))) : W p l e R s m args below meth c H locs cells slots Q (F0 m pc ls (.long (lz b) :: .long (lz a) :: rest)) := by
  refine W.lcmp hx hb hd1 ?_
  rw [zcmp_lg ha hb2]
  have hz := zcmp_i a b
  exact z_if_gt hx hb hd2 ht (zcmp_r a b) (fun h => kt (by omega)) (fun h => kf (by omega))
theorem z_lif_le (hx : p.tables.exec = Jvm.exec) (hb : c.code = cc) {a b off : Int} {tgt : Nat} (hd1 : decode cc pc = .ok (.lcmp, 1)) (hd2 : decode cc (pc + 1) = .ok (.ifCond .le off, 3)) (ht : ((pc + 1 : Nat) : Int) + off = (tgt : Int)) (ha : lR a) (hb2 : lR b) (kt : a ≤ b → W p l e R s m args below meth c H locs cells slots Q (F0 m tgt ls (rest))) (kf : b < a → W p l e R s m args below meth c H locs cells slots Q (F0 m (pc + 1 + 3) ls (rest))) : W p l e R s m args below meth c H locs cells slots Q (F0 m pc ls (.long (lz b) :: .long (lz a) :: rest)) := by
  refine W.lcmp hx hb hd1 ?_
  rw [zcmp_lg ha hb2]
  have hz := zcmp_i a b
  exact z_if_le hx hb hd2 ht (zcmp_r a b) (fun h => kt (by omega)) (fun h => kf (by omega))
theorem z_iald (hx : p.tables.exec = Jvm.exec) (hb : c.code = cc) (hK : va_K D cl tys s) (hP : va_P D cl ws H) (q0 t0 : Nat) {ad : Nat} {cA : ClassId} {n : Nat} {f : Int → Int} (ha : ws[q0]? = some (ad, .inl (cA, n, .inl (az f)))) (ht : tys[t0]? = some (cA, .int)) {i : Int} (h0 : 0 ≤ i) (h1 : i < (n : Int)) (hn : (n : Int) ≤ 2147483647) (hdg : decode cc pc = .ok (.iaload, 1)) (kk : W p l e R s m args below meth c H locs cells slots Q (F0 m (pc + 1) ls (.int (iz (f i)) :: rest))) : W p l e R s m args below meth c H locs cells slots Q (F0 m pc ls (.int (iz i) :: .ref ad :: rest)) := by
  rw [← az_at f h0, ← iz_cl h0 (by omega)] at kk
  exact va_iald hx hb hK hP q0 t0 ha ht (iz_in h0 h1 hn) hdg kk
theorem z_bald (hx : p.tables.exec = Jvm.exec) (hb : c.code = cc) (hK : va_K D cl tys s) (hP : va_P D cl ws H) (q0 t0 : Nat) {ad : Nat} {cA : ClassId} {n : Nat} {f : Int → Int} (ha : ws[q0]? = some (ad, .inl (cA, n, .inl (az f)))) (ht : tys[t0]? = some (cA, .byte)) {i : Int} (h0 : 0 ≤ i) (h1 : i < (n : Int)) (hn : (n : Int) ≤ 2147483647) (hdg : decode cc pc = .ok (.baload, 1)) (kk : W p l e R s m args below meth c H locs cells slots Q (F0 m (pc + 1) ls (.int (iz (f i)) :: rest))) : W p l e R s m args below meth c H locs cells slots Q (F0 m pc ls (.int (iz i) :: .ref ad :: rest)) := by
  rw [← az_at f h0, ← iz_cl h0 (by omega)] at kk
  exact va_bald hx hb hK hP q0 t0 ha ht (iz_in h0 h1 hn) hdg kk
theorem z_lald (hx : p.tables.exec = Jvm.exec) (hb : c.code = cc) (hK : va_K D cl tys s) (hP : va_P D cl ws H) (q0 t0 : Nat) {ad : Nat} {cA : ClassId} {n : Nat} {f : Int → Int} (ha : ws[q0]? = some (ad, .inl (cA, n, .inr (.inl (azl f))))) (ht : tys[t0]? = some (cA, .long)) {i : Int} (h0 : 0 ≤ i) (h1 : i < (n : Int)) (hn : (n : Int) ≤ 2147483647) (hdg : decode cc pc = .ok (.laload, 1)) (kk : W p l e R s m args below meth c H locs cells slots Q (F0 m (pc + 1) ls (.long (lz (f i)) :: rest))) : W p l e R s m args below meth c H locs cells slots Q (F0 m pc ls (.int (iz i) :: .ref ad :: rest)) := by
  rw [← azl_at f h0, ← iz_cl h0 (by omega)] at kk
  exact va_lald hx hb hK hP q0 t0 ha ht (iz_in h0 h1 hn) hdg kk
theorem z_iast (hx : p.tables.exec = Jvm.exec) (hb : c.code = cc) (hK : va_K D cl tys s) (hP : va_P D cl ws H) (hD : va_D A ws) (hS : va_S A H0 H locs) (q0 t0 : Nat) {ad : Nat} {cA : ClassId} {n : Nat} {f : Int → Int} (ha : ws[q0]? = some (ad, .inl (cA, n, .inl (az f)))) (ht : tys[t0]? = some (cA, .int)) {i x : Int} (h0 : 0 ≤ i) (h1 : i < (n : Int)) (hn : (n : Int) ≤ 2147483647) (hdg : decode cc pc = .ok (.iastore, 1)) (kk : ∀ (H1 : Heap) (locs1 : List Loc), va_P D cl (ws.set q0 (ad, .inl (cA, n, .inl (az (up f i x))))) H1 → va_D A (ws.set q0 (ad, .inl (cA, n, .inl (az (up f i x))))) → va_S A H0 H1 locs1 → W p l e R s m args below meth c H1 locs1 cells slots Q (F0 m (pc + 1) ls (rest))) : W p l e R s m args below meth c H locs cells slots Q (F0 m pc ls (.int (iz x) :: .int (iz i) :: .ref ad :: rest)) := by
  rw [← az_up f h0 x, ← iz_cl h0 (by omega)] at kk
  exact va_iast hx hb hK hP hD hS q0 t0 ha ht (iz_in h0 h1 hn) hdg kk
theorem z_bast (hx : p.tables.exec = Jvm.exec) (hb : c.code = cc) (hK : va_K D cl tys s) (hP : va_P D cl ws H) (hD : va_D A ws) (hS : va_S A H0 H locs) (q0 t0 : Nat) {ad : Nat} {cA : ClassId} {n : Nat} {f : Int → Int} (ha : ws[q0]? = some (ad, .inl (cA, n, .inl (az f)))) (ht : tys[t0]? = some (cA, .byte)) {i x : Int} (h0 : 0 ≤ i) (h1 : i < (n : Int)) (hn : (n : Int) ≤ 2147483647) (hx2 : -128 ≤ x ∧ x ≤ 127) (hdg : decode cc pc = .ok (.bastore, 1)) (kk : ∀ (H1 : Heap) (locs1 : List Loc), va_P D cl (ws.set q0 (ad, .inl (cA, n, .inl (az (up f i x))))) H1 → va_D A (ws.set q0 (ad, .inl (cA, n, .inl (az (up f i x))))) → va_S A H0 H1 locs1 → W p l e R s m args below meth c H1 locs1 cells slots Q (F0 m (pc + 1) ls (rest))) : W p l e R s m args below meth c H locs cells slots Q (F0 m pc ls (.int (iz x) :: .int (iz i) :: .ref ad :: rest)) := by
  rw [← az_up f h0 x, ← iz_cl h0 (by omega), ← z_narb hx2] at kk
  exact va_bast hx hb hK hP hD hS q0 t0 ha ht (iz_in h0 h1 hn) hdg (by rw [z_narb hx2] at kk ⊢; exact kk)
theorem z_last (hx : p.tables.exec = Jvm.exec) (hb : c.code = cc) (hK : va_K D cl tys s) (hP : va_P D cl ws H) (hD : va_D A ws) (hS : va_S A H0 H locs) (q0 t0 : Nat) {ad : Nat} {cA : ClassId} {n : Nat} {f : Int → Int} (ha : ws[q0]? = some (ad, .inl (cA, n, .inr (.inl (azl f))))) (ht : tys[t0]? = some (cA, .long)) {i x : Int} (h0 : 0 ≤ i) (h1 : i < (n : Int)) (hn : (n : Int) ≤ 2147483647) (hdg : decode cc pc = .ok (.lastore, 1)) (kk : ∀ (H1 : Heap) (locs1 : List Loc), va_P D cl (ws.set q0 (ad, .inl (cA, n, .inr (.inl (azl (up f i x)))))) H1 → va_D A (ws.set q0 (ad, .inl (cA, n, .inr (.inl (azl (up f i x)))))) → va_S A H0 H1 locs1 → W p l e R s m args below meth c H1 locs1 cells slots Q (F0 m (pc + 1) ls (rest))) : W p l e R s m args below meth c H locs cells slots Q (F0 m pc ls (.long (lz x) :: .int (iz i) :: .ref ad :: rest)) := by
  rw [← azl_up f h0 x, ← iz_cl h0 (by omega)] at kk
  exact va_last hx hb hK hP hD hS q0 t0 ha ht (iz_in h0 h1 hn) hdg kk
theorem z_alen (hx : p.tables.exec = Jvm.exec) (hb : c.code = cc) (hK : va_K D cl tys s) (hP : va_P D cl ws H) (q0 t0 : Nat) {ad : Nat} {cA : ClassId} {x : vp_A} {ty : FieldType} (v : Int) (ha : ws[q0]? = some (ad, .inl (cA, x))) (ht : tys[t0]? = some (cA, ty)) (hv : (x.1 : Int) = v) (hdg : decode cc pc = .ok (.arraylength, 1)) (kk : W p l e R s m args below meth c H locs cells slots Q (F0 m (pc + 1) ls (.int (iz v) :: rest))) : W p l e R s m args below meth c H locs cells slots Q (F0 m pc ls (.ref ad :: rest)) := va_alen hx hb hK hP q0 t0 ha ht (by rw [← hv]; exact (Int32.ofInt_eq_ofNat).symm) hdg kk
end ZRows
end
section
def y_EN_init : MethodName := ⟨"ExactNotation", "<init>", "()V"⟩
abbrev b_EN_init : ByteArray := prog_1_method_1_code
def y_java_lang_Object_init : MethodName := ⟨"java/lang/Object", "<init>", "()V"⟩
abbrev b_java_lang_Object_init : ByteArray := object_method_1_code
def y_Dc_init : MethodName := ⟨"ExactNotation$Decimal", "<init>", "()V"⟩
abbrev b_Dc_init : ByteArray := prog_2_method_1_code
def y_Tx_init : MethodName := ⟨"ExactNotation$Text", "<init>", "()V"⟩
abbrev b_Tx_init : ByteArray := prog_4_method_1_code
def y_Lw_show : MethodName := ⟨"ExactNotationLaw", "show", "(LExactNotation;IIZZJ[J)I"⟩
abbrev b_Lw_show : ByteArray := method_3_code
def y_EN_show : MethodName := ⟨"ExactNotation", "show", "(IIZZJ)I"⟩
abbrev b_EN_show : ByteArray := prog_1_method_2_code
def y_EN_refuseOutOfRange : MethodName := ⟨"ExactNotation", "refuseOutOfRange", "(II)V"⟩
abbrev b_EN_refuseOutOfRange : ByteArray := prog_1_method_5_code
def y_java_lang_Throwable_init : MethodName := ⟨"java/lang/Throwable", "<init>", "()V"⟩
abbrev b_java_lang_Throwable_init : ByteArray := prog_17_method_1_code
def y_java_lang_Throwable_fillInStackTrace : MethodName := ⟨"java/lang/Throwable", "fillInStackTrace", "()Ljava/lang/Throwable;"⟩
abbrev b_java_lang_Throwable_fillInStackTrace : ByteArray := prog_17_method_18_code
def y_java_lang_IllegalArgumentException_initS : MethodName := ⟨"java/lang/IllegalArgumentException", "<init>", "(Ljava/lang/String;)V"⟩
abbrev b_java_lang_IllegalArgumentException_initS : ByteArray := prog_10_method_2_code
def y_java_lang_RuntimeException_initS : MethodName := ⟨"java/lang/RuntimeException", "<init>", "(Ljava/lang/String;)V"⟩
abbrev b_java_lang_RuntimeException_initS : ByteArray := prog_13_method_2_code
def y_java_lang_Exception_initS : MethodName := ⟨"java/lang/Exception", "<init>", "(Ljava/lang/String;)V"⟩
abbrev b_java_lang_Exception_initS : ByteArray := prog_9_method_2_code
def y_java_lang_Throwable_initS : MethodName := ⟨"java/lang/Throwable", "<init>", "(Ljava/lang/String;)V"⟩
abbrev b_java_lang_Throwable_initS : ByteArray := prog_17_method_2_code
def y_EN_present : MethodName := ⟨"ExactNotation", "present", "(IIZZJLExactNotation$Format;)I"⟩
abbrev b_EN_present : ByteArray := prog_1_method_6_code
def y_Tx_clear : MethodName := ⟨"ExactNotation$Text", "clear", "()V"⟩
abbrev b_Tx_clear : ByteArray := prog_4_method_3_code
def y_Fm_isFinite : MethodName := ⟨"ExactNotation$Format", "isFinite", "(J)Z"⟩
abbrev b_Fm_isFinite : ByteArray := prog_3_method_4_code
def y_Fm_exponent : MethodName := ⟨"ExactNotation$Format", "exponent", "(J)I"⟩
abbrev b_Fm_exponent : ByteArray := prog_3_method_8_code
def y_Fm_isInfinity : MethodName := ⟨"ExactNotation$Format", "isInfinity", "(J)Z"⟩
abbrev b_Fm_isInfinity : ByteArray := prog_3_method_5_code
def y_Fm_fraction : MethodName := ⟨"ExactNotation$Format", "fraction", "(J)J"⟩
abbrev b_Fm_fraction : ByteArray := prog_3_method_9_code
def y_Tx_addAll : MethodName := ⟨"ExactNotation$Text", "addAll", "(Ljava/lang/String;)V"⟩
abbrev b_Tx_addAll : ByteArray := prog_4_method_5_code
def y_St_length : MethodName := ⟨"java/lang/String", "length", "()I"⟩
abbrev b_St_length : ByteArray := prog_14_method_54_code
def y_St_coder : MethodName := ⟨"java/lang/String", "coder", "()B"⟩
abbrev b_St_coder : ByteArray := prog_14_method_152_code
def y_St_charAt : MethodName := ⟨"java/lang/String", "charAt", "(I)C"⟩
abbrev b_St_charAt : ByteArray := prog_14_method_56_code
def y_St_isLatin1 : MethodName := ⟨"java/lang/String", "isLatin1", "()Z"⟩
abbrev b_St_isLatin1 : ByteArray := prog_14_method_154_code
def y_Sl_charAt : MethodName := ⟨"java/lang/StringLatin1", "charAt", "([BI)C"⟩
abbrev b_Sl_charAt : ByteArray := prog_15_method_2_code
def y_St_checkIndex : MethodName := ⟨"java/lang/String", "checkIndex", "(II)V"⟩
abbrev b_St_checkIndex : ByteArray := prog_14_method_155_code
def y_jdk_internal_util_Preconditions_checkIndex : MethodName := ⟨"jdk/internal/util/Preconditions", "checkIndex", "(IILjava/util/function/BiFunction;)I"⟩
abbrev b_jdk_internal_util_Preconditions_checkIndex : ByteArray := prog_19_method_11_code
def y_java_lang_StringUTF16_charAt : MethodName := ⟨"java/lang/StringUTF16", "charAt", "([BI)C"⟩
abbrev b_java_lang_StringUTF16_charAt : ByteArray := prog_16_method_83_code
def y_java_lang_StringUTF16_checkIndex : MethodName := ⟨"java/lang/StringUTF16", "checkIndex", "(I[B)V"⟩
abbrev b_java_lang_StringUTF16_checkIndex : ByteArray := prog_16_method_91_code
def y_java_lang_StringUTF16_length : MethodName := ⟨"java/lang/StringUTF16", "length", "([B)I"⟩
abbrev b_java_lang_StringUTF16_length : ByteArray := prog_16_method_6_code
def y_java_lang_StringUTF16_getChar : MethodName := ⟨"java/lang/StringUTF16", "getChar", "([BI)C"⟩
abbrev b_java_lang_StringUTF16_getChar : ByteArray := prog_16_method_5_code
def y_Tx_add : MethodName := ⟨"ExactNotation$Text", "add", "(C)V"⟩
abbrev b_Tx_add : ByteArray := prog_4_method_4_code
def y_Tx_length : MethodName := ⟨"ExactNotation$Text", "length", "()I"⟩
abbrev b_Tx_length : ByteArray := prog_4_method_2_code
def y_Fm_coefficient : MethodName := ⟨"ExactNotation$Format", "coefficient", "(J)J"⟩
abbrev b_Fm_coefficient : ByteArray := prog_3_method_6_code
def y_Fm_power : MethodName := ⟨"ExactNotation$Format", "power", "(J)I"⟩
abbrev b_Fm_power : ByteArray := prog_3_method_7_code
def y_Ma_max : MethodName := ⟨"java/lang/Math", "max", "(II)I"⟩
abbrev b_Ma_max : ByteArray := prog_12_method_65_code
def y_Dc_assign : MethodName := ⟨"ExactNotation$Decimal", "assign", "(JI)V"⟩
abbrev b_Dc_assign : ByteArray := prog_2_method_2_code
def y_Dc_assignWhole : MethodName := ⟨"ExactNotation$Decimal", "assignWhole", "(J)V"⟩
abbrev b_Dc_assignWhole : ByteArray := prog_2_method_4_code
def y_Ar_fill : MethodName := ⟨"java/util/Arrays", "fill", "([II)V"⟩
abbrev b_Ar_fill : ByteArray := prog_18_method_103_code
def y_Dc_scaleByPowerOfTwo : MethodName := ⟨"ExactNotation$Decimal", "scaleByPowerOfTwo", "(I)V"⟩
abbrev b_Dc_scaleByPowerOfTwo : ByteArray := prog_2_method_3_code
def y_Ma_min : MethodName := ⟨"java/lang/Math", "min", "(II)I"⟩
abbrev b_Ma_min : ByteArray := prog_12_method_69_code
def y_Dc_multiplyByPowerOfTwo : MethodName := ⟨"ExactNotation$Decimal", "multiplyByPowerOfTwo", "(I)V"⟩
abbrev b_Dc_multiplyByPowerOfTwo : ByteArray := prog_2_method_5_code
def y_Dc_divideByPowerOfTwo : MethodName := ⟨"ExactNotation$Decimal", "divideByPowerOfTwo", "(I)V"⟩
abbrev b_Dc_divideByPowerOfTwo : ByteArray := prog_2_method_6_code
def y_Dc_leadingPlace : MethodName := ⟨"ExactNotation$Decimal", "leadingPlace", "()I"⟩
abbrev b_Dc_leadingPlace : ByteArray := prog_2_method_7_code
def y_Dc_roundAt : MethodName := ⟨"ExactNotation$Decimal", "roundAt", "(I)V"⟩
abbrev b_Dc_roundAt : ByteArray := prog_2_method_9_code
def y_Dc_digitAt : MethodName := ⟨"ExactNotation$Decimal", "digitAt", "(I)I"⟩
abbrev b_Dc_digitAt : ByteArray := prog_2_method_8_code
def y_Dc_limbOf : MethodName := ⟨"ExactNotation$Decimal", "limbOf", "(I)I"⟩
abbrev b_Dc_limbOf : ByteArray := prog_2_method_11_code
def y_Ma_floorDiv : MethodName := ⟨"java/lang/Math", "floorDiv", "(II)I"⟩
abbrev b_Ma_floorDiv : ByteArray := prog_12_method_47_code
def y_Dc_placeInLimb : MethodName := ⟨"ExactNotation$Decimal", "placeInLimb", "(I)I"⟩
abbrev b_Dc_placeInLimb : ByteArray := prog_2_method_12_code
def y_Ma_floorMod : MethodName := ⟨"java/lang/Math", "floorMod", "(II)I"⟩
abbrev b_Ma_floorMod : ByteArray := prog_12_method_50_code
def y_Dc_addOneAt : MethodName := ⟨"ExactNotation$Decimal", "addOneAt", "(I)V"⟩
abbrev b_Dc_addOneAt : ByteArray := prog_2_method_10_code
def y_EN_writeScientific : MethodName := ⟨"ExactNotation", "writeScientific", "(IZ)V"⟩
abbrev b_EN_writeScientific : ByteArray := prog_1_method_9_code
def y_EN_writeDigit : MethodName := ⟨"ExactNotation", "writeDigit", "(I)V"⟩
abbrev b_EN_writeDigit : ByteArray := prog_1_method_12_code
def y_EN_writeBehindPoint : MethodName := ⟨"ExactNotation", "writeBehindPoint", "(IIZ)V"⟩
abbrev b_EN_writeBehindPoint : ByteArray := prog_1_method_10_code
def y_EN_writeExponent : MethodName := ⟨"ExactNotation", "writeExponent", "(I)V"⟩
abbrev b_EN_writeExponent : ByteArray := prog_1_method_11_code
def y_Ma_abs : MethodName := ⟨"java/lang/Math", "abs", "(I)I"⟩
abbrev b_Ma_abs : ByteArray := prog_12_method_59_code
def y_EN_writeFixed : MethodName := ⟨"ExactNotation", "writeFixed", "(IZZ)V"⟩
abbrev b_EN_writeFixed : ByteArray := prog_1_method_8_code
def y_EN_writeShorter : MethodName := ⟨"ExactNotation", "writeShorter", "(IZ)V"⟩
abbrev b_EN_writeShorter : ByteArray := prog_1_method_7_code
def y_Lw_showFloat : MethodName := ⟨"ExactNotationLaw", "showFloat", "(LExactNotation;IIZZI[J)I"⟩
abbrev b_Lw_showFloat : ByteArray := method_4_code
def y_EN_showFloat : MethodName := ⟨"ExactNotation", "showFloat", "(IIZZI)I"⟩
abbrev b_EN_showFloat : ByteArray := prog_1_method_3_code
def y_Lw_word : MethodName := ⟨"ExactNotationLaw", "word", "(LExactNotation;I[J)I"⟩
abbrev b_Lw_word : ByteArray := method_5_code
def y_EN_word : MethodName := ⟨"ExactNotation", "word", "(I)J"⟩
abbrev b_EN_word : ByteArray := prog_1_method_4_code
def y_java_lang_IndexOutOfBoundsException_initS : MethodName := ⟨"java/lang/IndexOutOfBoundsException", "<init>", "(Ljava/lang/String;)V"⟩
abbrev b_java_lang_IndexOutOfBoundsException_initS : ByteArray := prog_11_method_2_code
def y_Tx_eightFrom : MethodName := ⟨"ExactNotation$Text", "eightFrom", "(I)J"⟩
abbrev b_Tx_eightFrom : ByteArray := prog_4_method_6_code
def y_Mo_init : MethodName := ⟨"ExactNotationModel", "<init>", "()V"⟩
abbrev b_Mo_init : ByteArray := prog_6_method_1_code
def y_Rw_init : MethodName := ⟨"ExactNotationModel$Row", "<init>", "()V"⟩
abbrev b_Rw_init : ByteArray := prog_7_method_1_code
def y_Mo_thrown : MethodName := ⟨"ExactNotationModel", "thrown", "()I"⟩
abbrev b_Mo_thrown : ByteArray := prog_6_method_2_code
def y_Mo_word : MethodName := ⟨"ExactNotationModel", "word", "(I)J"⟩
abbrev b_Mo_word : ByteArray := prog_6_method_4_code
def y_Mo_good : MethodName := ⟨"ExactNotationModel", "good", "(ZI)Z"⟩
abbrev b_Mo_good : ByteArray := prog_6_method_3_code
def y_Mo_show : MethodName := ⟨"ExactNotationModel", "show", "(IIZZJ)I"⟩
abbrev b_Mo_show : ByteArray := prog_6_method_24_code
def y_Mo_kind : MethodName := ⟨"ExactNotationModel", "kind", "(Z)V"⟩
abbrev b_Mo_kind : ByteArray := prog_6_method_5_code
def y_Mo_shown : MethodName := ⟨"ExactNotationModel", "shown", "(IIZZJ)I"⟩
abbrev b_Mo_shown : ByteArray := prog_6_method_23_code
def y_Mo_sign : MethodName := ⟨"ExactNotationModel", "sign", "()J"⟩
abbrev b_Mo_sign : ByteArray := prog_6_method_8_code
def y_Mo_infinity : MethodName := ⟨"ExactNotationModel", "infinity", "()J"⟩
abbrev b_Mo_infinity : ByteArray := prog_6_method_6_code
def y_Mo_isNone : MethodName := ⟨"ExactNotationModel", "isNone", "(J)Z"⟩
abbrev b_Mo_isNone : ByteArray := prog_6_method_9_code
def y_Mo_add : MethodName := ⟨"ExactNotationModel", "add", "(I)V"⟩
abbrev b_Mo_add : ByteArray := prog_6_method_18_code
def y_Mo_c : MethodName := ⟨"ExactNotationModel", "c", "(J)J"⟩
abbrev b_Mo_c : ByteArray := prog_6_method_11_code
def y_Mo_fraction : MethodName := ⟨"ExactNotationModel", "fraction", "()J"⟩
abbrev b_Mo_fraction : ByteArray := prog_6_method_7_code
def y_Mo_q : MethodName := ⟨"ExactNotationModel", "q", "(J)I"⟩
abbrev b_Mo_q : ByteArray := prog_6_method_12_code
def y_Mo_row : MethodName := ⟨"ExactNotationModel", "row", "(JILExactNotationModel$Row;)V"⟩
abbrev b_Mo_row : ByteArray := prog_6_method_14_code
def y_Mo_times : MethodName := ⟨"ExactNotationModel", "times", "(J)V"⟩
abbrev b_Mo_times : ByteArray := prog_6_method_13_code
def y_Mo_scientific : MethodName := ⟨"ExactNotationModel", "scientific", "(LExactNotationModel$Row;IZ)V"⟩
abbrev b_Mo_scientific : ByteArray := prog_6_method_20_code
def y_Mo_rounded : MethodName := ⟨"ExactNotationModel", "rounded", "(LExactNotationModel$Row;I)V"⟩
abbrev b_Mo_rounded : ByteArray := prog_6_method_19_code
def y_Mo_more : MethodName := ⟨"ExactNotationModel", "more", "(LExactNotationModel$Row;)V"⟩
abbrev b_Mo_more : ByteArray := prog_6_method_16_code
def y_Mo_digit : MethodName := ⟨"ExactNotationModel", "digit", "(LExactNotationModel$Row;I)I"⟩
abbrev b_Mo_digit : ByteArray := prog_6_method_17_code
def y_Mo_fixed : MethodName := ⟨"ExactNotationModel", "fixed", "(LExactNotationModel$Row;IZZ)V"⟩
abbrev b_Mo_fixed : ByteArray := prog_6_method_21_code
def y_Mo_general : MethodName := ⟨"ExactNotationModel", "general", "(LExactNotationModel$Row;IZ)V"⟩
abbrev b_Mo_general : ByteArray := prog_6_method_22_code
def y_Mo_showFloat : MethodName := ⟨"ExactNotationModel", "showFloat", "(IIZZI)I"⟩
abbrev b_Mo_showFloat : ByteArray := prog_6_method_25_code
def y_java_lang_RuntimeException_init : MethodName := ⟨"java/lang/RuntimeException", "<init>", "()V"⟩
def y_java_lang_Exception_init : MethodName := ⟨"java/lang/Exception", "<init>", "()V"⟩
def y_java_lang_Throwable_fillInStackTraceI : MethodName := ⟨"java/lang/Throwable", "fillInStackTrace", "(I)Ljava/lang/Throwable;"⟩
def R_0 : String := "ExactNotation"
def T_0 : u_T := fun k => match k with
  | 0 => ("ExactNotation", "value", "LExactNotation$Decimal;", true)
  | _ => ("ExactNotation", "result", "LExactNotation$Text;", true)
def ty_0 : Nat → FieldType := fun k => match k with
  | 0 => (.object "ExactNotation$Decimal")
  | _ => (.object "ExactNotation$Text")
theorem nm_0 : ∀ a, a < 2 → ∀ b, b < 2 → a ≠ b → (T_0 a).2.1 ≠ (T_0 b).2.1 := by decide +kernel
theorem tyok_0 : ∀ k, k < 2 → parseFieldDescriptor (T_0 k).2.2.1 = some (ty_0 k) := by decide +kernel
def R_1 : String := "ExactNotation$Decimal"
def T_1 : u_T := fun k => match k with
  | 0 => ("ExactNotation$Decimal", "limbs", "[I", true)
  | 1 => ("ExactNotation$Decimal", "first", "I", false)
  | _ => ("ExactNotation$Decimal", "last", "I", false)
def ty_1 : Nat → FieldType := fun k => match k with
  | 0 => (.array .int)
  | 1 => .int
  | _ => .int
theorem nm_1 : ∀ a, a < 3 → ∀ b, b < 3 → a ≠ b → (T_1 a).2.1 ≠ (T_1 b).2.1 := by decide +kernel
theorem tyok_1 : ∀ k, k < 3 → parseFieldDescriptor (T_1 k).2.2.1 = some (ty_1 k) := by decide +kernel
def R_2 : String := "ExactNotation$Text"
def T_2 : u_T := fun k => match k with
  | 0 => ("ExactNotation$Text", "bytes", "[B", true)
  | _ => ("ExactNotation$Text", "length", "I", false)
def ty_2 : Nat → FieldType := fun k => match k with
  | 0 => (.array .byte)
  | _ => .int
theorem nm_2 : ∀ a, a < 2 → ∀ b, b < 2 → a ≠ b → (T_2 a).2.1 ≠ (T_2 b).2.1 := by decide +kernel
theorem tyok_2 : ∀ k, k < 2 → parseFieldDescriptor (T_2 k).2.2.1 = some (ty_2 k) := by decide +kernel
def R_3 : String := "ExactNotationModel"
def T_3 : u_T := fun k => match k with
  | 0 => ("ExactNotationModel", "result", "[B", true)
  | 1 => ("ExactNotationModel", "length", "I", false)
  | 2 => ("ExactNotationModel", "code", "I", false)
  | 3 => ("ExactNotationModel", "exact", "LExactNotationModel$Row;", true)
  | 4 => ("ExactNotationModel", "bits", "I", false)
  | 5 => ("ExactNotationModel", "least", "I", false)
  | 6 => ("ExactNotationModel", "limbs", "[J", true)
  | 7 => ("ExactNotationModel", "used", "I", false)
  | 8 => ("ExactNotationModel", "body", "[B", true)
  | 9 => ("ExactNotationModel", "bodyLength", "I", false)
  | _ => ("ExactNotationModel", "cutRow", "LExactNotationModel$Row;", true)
def ty_3 : Nat → FieldType := fun k => match k with
  | 0 => (.array .byte)
  | 1 => .int
  | 2 => .int
  | 3 => (.object "ExactNotationModel$Row")
  | 4 => .int
  | 5 => .int
  | 6 => (.array .long)
  | 7 => .int
  | 8 => (.array .byte)
  | 9 => .int
  | _ => (.object "ExactNotationModel$Row")
theorem nm_3 : ∀ a, a < 11 → ∀ b, b < 11 → a ≠ b → (T_3 a).2.1 ≠ (T_3 b).2.1 := by decide +kernel
theorem tyok_3 : ∀ k, k < 11 → parseFieldDescriptor (T_3 k).2.2.1 = some (ty_3 k) := by decide +kernel
def R_4 : String := "ExactNotationModel$Row"
def T_4 : u_T := fun k => match k with
  | 0 => ("ExactNotationModel$Row", "d", "[B", true)
  | 1 => ("ExactNotationModel$Row", "n", "I", false)
  | _ => ("ExactNotationModel$Row", "p", "I", false)
def ty_4 : Nat → FieldType := fun k => match k with
  | 0 => (.array .byte)
  | 1 => .int
  | _ => .int
theorem nm_4 : ∀ a, a < 3 → ∀ b, b < 3 → a ≠ b → (T_4 a).2.1 ≠ (T_4 b).2.1 := by decide +kernel
theorem tyok_4 : ∀ k, k < 3 → parseFieldDescriptor (T_4 k).2.2.1 = some (ty_4 k) := by decide +kernel
abbrev vwCl : List vw_C := [(R_0, T_0, 2), (R_1, T_1, 3), (R_2, T_2, 2), (R_3, T_3, 11), (R_4, T_4, 3)]
def TBL : List Cond := lw_tbl.filter goodWord
theorem tbl_t {w : Cond} {i : Nat} (h : tables_1[i]? = some w) (hg : goodWord w = true) : w ∈ TBL := List.mem_filter.mpr ⟨List.mem_append_right _ (List.mem_of_getElem? h), hg⟩
theorem tbl_s {w : Cond} {i : Nat} (h : (k2_sels lw_privs)[i]? = some w) (hg : goodWord w = true) : w ∈ TBL := List.mem_filter.mpr ⟨List.mem_append_left _ (List.mem_of_getElem? h), hg⟩
end
section
theorem tw_0 : Cond.initialized "ExactNotationLaw" ∈ TBL := tbl_t (i := 0) (by decide +kernel) rfl
theorem tw_1 : Cond.initialized "ExactNotation" ∈ TBL := tbl_t (i := 1) (by decide +kernel) rfl
theorem tw_2 : Cond.initialized "ExactNotation$Decimal" ∈ TBL := tbl_t (i := 2) (by decide +kernel) rfl
theorem tw_3 : Cond.initialized "ExactNotation$Text" ∈ TBL := tbl_t (i := 3) (by decide +kernel) rfl
theorem tw_4 : Cond.initialized "ExactNotationModel" ∈ TBL := tbl_t (i := 4) (by decide +kernel) rfl
theorem tw_5 : Cond.initialized "ExactNotationModel$Row" ∈ TBL := tbl_t (i := 5) (by decide +kernel) rfl
theorem tw_6 : Cond.initialized "java/lang/Throwable" ∈ TBL := tbl_t (i := 6) (by decide +kernel) rfl
theorem tw_7 : Cond.initialized "java/lang/Exception" ∈ TBL := tbl_t (i := 7) (by decide +kernel) rfl
theorem tw_8 : Cond.initialized "java/lang/RuntimeException" ∈ TBL := tbl_t (i := 8) (by decide +kernel) rfl
theorem tw_9 : Cond.initialized "java/lang/IllegalArgumentException" ∈ TBL := tbl_t (i := 9) (by decide +kernel) rfl
theorem tw_10 : Cond.initialized "java/lang/Enum" ∈ TBL := tbl_t (i := 10) (by decide +kernel) rfl
theorem tw_11 : Cond.initialized "ExactNotation$Format" ∈ TBL := tbl_t (i := 11) (by decide +kernel) rfl
theorem tw_12 : Cond.initialized "java/lang/String" ∈ TBL := tbl_t (i := 12) (by decide +kernel) rfl
theorem tw_13 : Cond.initialized "java/lang/StringLatin1" ∈ TBL := tbl_t (i := 13) (by decide +kernel) rfl
theorem tw_14 : Cond.initialized "jdk/internal/util/Preconditions" ∈ TBL := tbl_t (i := 14) (by decide +kernel) rfl
theorem tw_15 : Cond.initialized "java/lang/StringUTF16" ∈ TBL := tbl_t (i := 15) (by decide +kernel) rfl
theorem tw_16 : Cond.initialized "java/lang/Math" ∈ TBL := tbl_t (i := 16) (by decide +kernel) rfl
theorem tw_17 : Cond.initialized "java/util/Arrays" ∈ TBL := tbl_t (i := 17) (by decide +kernel) rfl
theorem tw_18 : Cond.initialized "java/lang/IndexOutOfBoundsException" ∈ TBL := tbl_t (i := 18) (by decide +kernel) rfl
theorem tw_19 : Cond.classLink "ExactNotationLaw" 8 "ExactNotation" ∈ TBL := tbl_t (i := 19) (by decide +kernel) rfl
theorem tw_20 : Cond.instantiable "ExactNotation" 2 ∈ TBL := tbl_t (i := 20) (by decide +kernel) rfl
theorem tw_21 : Cond.methodLink "ExactNotationLaw" 25 y_EN_init ∈ TBL := tbl_t (i := 21) (by decide +kernel) rfl
theorem tw_22 : Cond.instanceMethod y_EN_init ∈ TBL := tbl_t (i := 22) (by decide +kernel) rfl
theorem tw_23 : Cond.code y_EN_init prog_1_method_1_code 1 none ∈ TBL := tbl_t (i := 23) (by decide +kernel) rfl
theorem tw_24 : Cond.methodLink "ExactNotation" 1 y_java_lang_Object_init ∈ TBL := tbl_t (i := 24) (by decide +kernel) rfl
theorem tw_25 : Cond.instanceMethod y_java_lang_Object_init ∈ TBL := tbl_t (i := 25) (by decide +kernel) rfl
theorem tw_26 : Cond.code y_java_lang_Object_init object_method_1_code 1 none ∈ TBL := tbl_t (i := 26) (by decide +kernel) rfl
theorem tw_27 : Cond.classLink "ExactNotation" 7 "ExactNotation$Decimal" ∈ TBL := tbl_t (i := 27) (by decide +kernel) rfl
theorem tw_28 : Cond.instantiable "ExactNotation$Decimal" 3 ∈ TBL := tbl_t (i := 28) (by decide +kernel) rfl
theorem tw_29 : Cond.methodLink "ExactNotation" 9 y_Dc_init ∈ TBL := tbl_t (i := 29) (by decide +kernel) rfl
theorem tw_30 : Cond.instanceMethod y_Dc_init ∈ TBL := tbl_t (i := 30) (by decide +kernel) rfl
theorem tw_31 : Cond.code y_Dc_init prog_2_method_1_code 1 none ∈ TBL := tbl_t (i := 31) (by decide +kernel) rfl
theorem tw_32 : Cond.methodLink "ExactNotation$Decimal" 3 y_java_lang_Object_init ∈ TBL := tbl_t (i := 32) (by decide +kernel) rfl
theorem tw_33 : Cond.fieldLink "ExactNotation$Decimal" 9 "ExactNotation$Decimal" "limbs" "[I" ∈ TBL := tbl_t (i := 33) (by decide +kernel) rfl
theorem tw_34 : Cond.fieldLink "ExactNotation$Decimal" 13 "ExactNotation$Decimal" "first" "I" ∈ TBL := tbl_t (i := 34) (by decide +kernel) rfl
theorem tw_35 : Cond.fieldLink "ExactNotation$Decimal" 17 "ExactNotation$Decimal" "last" "I" ∈ TBL := tbl_t (i := 35) (by decide +kernel) rfl
theorem tw_36 : Cond.laysFinal "ExactNotation$Decimal" "ExactNotation$Decimal" "limbs" "[I" ∈ TBL := tbl_t (i := 36) (by decide +kernel) rfl
theorem tw_38 : Cond.lays "ExactNotation$Decimal" "ExactNotation$Decimal" "first" "I" ∈ TBL := tbl_t (i := 38) (by decide +kernel) rfl
theorem tw_40 : Cond.lays "ExactNotation$Decimal" "ExactNotation$Decimal" "last" "I" ∈ TBL := tbl_t (i := 40) (by decide +kernel) rfl
theorem tw_43 : Cond.arrayClass .int ∈ TBL := tbl_t (i := 43) (by decide +kernel) rfl
theorem tw_44 : Cond.classLink "ExactNotation" 16 "ExactNotation$Text" ∈ TBL := tbl_t (i := 44) (by decide +kernel) rfl
theorem tw_45 : Cond.instantiable "ExactNotation$Text" 2 ∈ TBL := tbl_t (i := 45) (by decide +kernel) rfl
theorem tw_46 : Cond.methodLink "ExactNotation" 18 y_Tx_init ∈ TBL := tbl_t (i := 46) (by decide +kernel) rfl
theorem tw_47 : Cond.instanceMethod y_Tx_init ∈ TBL := tbl_t (i := 47) (by decide +kernel) rfl
theorem tw_48 : Cond.code y_Tx_init prog_4_method_1_code 1 none ∈ TBL := tbl_t (i := 48) (by decide +kernel) rfl
theorem tw_49 : Cond.methodLink "ExactNotation$Text" 3 y_java_lang_Object_init ∈ TBL := tbl_t (i := 49) (by decide +kernel) rfl
theorem tw_50 : Cond.fieldLink "ExactNotation$Text" 11 "ExactNotation$Text" "bytes" "[B" ∈ TBL := tbl_t (i := 50) (by decide +kernel) rfl
theorem tw_51 : Cond.fieldLink "ExactNotation$Text" 15 "ExactNotation$Text" "length" "I" ∈ TBL := tbl_t (i := 51) (by decide +kernel) rfl
theorem tw_52 : Cond.laysFinal "ExactNotation$Text" "ExactNotation$Text" "bytes" "[B" ∈ TBL := tbl_t (i := 52) (by decide +kernel) rfl
theorem tw_54 : Cond.lays "ExactNotation$Text" "ExactNotation$Text" "length" "I" ∈ TBL := tbl_t (i := 54) (by decide +kernel) rfl
theorem tw_57 : Cond.arrayClass .byte ∈ TBL := tbl_t (i := 57) (by decide +kernel) rfl
theorem tw_58 : Cond.fieldLink "ExactNotation" 10 "ExactNotation" "value" "LExactNotation$Decimal;" ∈ TBL := tbl_t (i := 58) (by decide +kernel) rfl
theorem tw_59 : Cond.fieldLink "ExactNotation" 19 "ExactNotation" "result" "LExactNotation$Text;" ∈ TBL := tbl_t (i := 59) (by decide +kernel) rfl
theorem tw_60 : Cond.laysFinal "ExactNotation" "ExactNotation" "value" "LExactNotation$Decimal;" ∈ TBL := tbl_t (i := 60) (by decide +kernel) rfl
theorem tw_62 : Cond.laysFinal "ExactNotation" "ExactNotation" "result" "LExactNotation$Text;" ∈ TBL := tbl_t (i := 62) (by decide +kernel) rfl
theorem tw_65 : Cond.methodLink "ExactNotationLaw" 31 y_Lw_show ∈ TBL := tbl_t (i := 65) (by decide +kernel) rfl
theorem tw_66 : Cond.static y_Lw_show ∈ TBL := tbl_t (i := 66) (by decide +kernel) rfl
theorem tw_67 : Cond.codeWith y_Lw_show method_3_code 9 (some .int) [(0, 16, 19, 13)] ∈ TBL := tbl_t (i := 67) (by decide +kernel) rfl
theorem tw_68 : Cond.classLink "ExactNotationLaw" 13 "java/lang/IllegalArgumentException" ∈ TBL := tbl_t (i := 68) (by decide +kernel) rfl
theorem tw_69 : Cond.methodLink "ExactNotationLaw" 7 y_EN_show ∈ TBL := tbl_t (i := 69) (by decide +kernel) rfl
theorem tw_70 : Cond.instanceMethod y_EN_show ∈ TBL := tbl_t (i := 70) (by decide +kernel) rfl
theorem tw_71 : Cond.selects "ExactNotation" y_EN_show y_EN_show ∈ TBL := tbl_t (i := 71) (by decide +kernel) rfl
theorem tw_72 : Cond.code y_EN_show prog_1_method_2_code 7 (some .int) ∈ TBL := tbl_t (i := 72) (by decide +kernel) rfl
theorem tw_73 : Cond.methodLink "ExactNotation" 23 y_EN_refuseOutOfRange ∈ TBL := tbl_t (i := 73) (by decide +kernel) rfl
theorem tw_74 : Cond.static y_EN_refuseOutOfRange ∈ TBL := tbl_t (i := 74) (by decide +kernel) rfl
theorem tw_75 : Cond.code y_EN_refuseOutOfRange prog_1_method_5_code 2 none ∈ TBL := tbl_t (i := 75) (by decide +kernel) rfl
theorem tw_76 : Cond.classLink "ExactNotation" 55 "java/lang/IllegalArgumentException" ∈ TBL := tbl_t (i := 76) (by decide +kernel) rfl
theorem tw_77 : Cond.instantiable "java/lang/IllegalArgumentException" 6 ∈ TBL := tbl_t (i := 77) (by decide +kernel) rfl
theorem tw_85 : Cond.selects "java/lang/IllegalArgumentException" y_java_lang_Throwable_fillInStackTraceI y_java_lang_Throwable_fillInStackTraceI ∈ TBL := tbl_t (i := 85) (by decide +kernel) rfl
theorem tw_86 : Cond.selects "java/lang/IllegalArgumentException" y_java_lang_Throwable_fillInStackTrace y_java_lang_Throwable_fillInStackTrace ∈ TBL := tbl_t (i := 86) (by decide +kernel) rfl
theorem tw_87 : Cond.lays "java/lang/IllegalArgumentException" "java/lang/Throwable" "cause" "Ljava/lang/Throwable;" ∈ TBL := tbl_t (i := 87) (by decide +kernel) rfl
theorem tw_88 : Cond.lays "java/lang/Throwable" "java/lang/Throwable" "cause" "Ljava/lang/Throwable;" ∈ TBL := tbl_t (i := 88) (by decide +kernel) rfl
theorem tw_89 : Cond.lays "java/lang/IllegalArgumentException" "java/lang/Throwable" "stackTrace" "[Ljava/lang/StackTraceElement;" ∈ TBL := tbl_t (i := 89) (by decide +kernel) rfl
theorem tw_90 : Cond.lays "java/lang/Throwable" "java/lang/Throwable" "stackTrace" "[Ljava/lang/StackTraceElement;" ∈ TBL := tbl_t (i := 90) (by decide +kernel) rfl
theorem tw_91 : Cond.lays "java/lang/IllegalArgumentException" "java/lang/Throwable" "suppressedExceptions" "Ljava/util/List;" ∈ TBL := tbl_t (i := 91) (by decide +kernel) rfl
theorem tw_92 : Cond.lays "java/lang/Throwable" "java/lang/Throwable" "suppressedExceptions" "Ljava/util/List;" ∈ TBL := tbl_t (i := 92) (by decide +kernel) rfl
theorem tw_93 : Cond.lays "java/lang/IllegalArgumentException" "java/lang/Throwable" "detailMessage" "Ljava/lang/String;" ∈ TBL := tbl_t (i := 93) (by decide +kernel) rfl
theorem tw_94 : Cond.lays "java/lang/Throwable" "java/lang/Throwable" "detailMessage" "Ljava/lang/String;" ∈ TBL := tbl_t (i := 94) (by decide +kernel) rfl
theorem tw_95 : Cond.lays "java/lang/IllegalArgumentException" "java/lang/Throwable" "backtrace" "Ljava/lang/Object;" ∈ TBL := tbl_t (i := 95) (by decide +kernel) rfl
theorem tw_96 : Cond.lays "java/lang/Throwable" "java/lang/Throwable" "backtrace" "Ljava/lang/Object;" ∈ TBL := tbl_t (i := 96) (by decide +kernel) rfl
theorem tw_97 : Cond.fieldLink "java/lang/Throwable" 198 "java/lang/Throwable" "backtrace" "Ljava/lang/Object;" ∈ TBL := tbl_t (i := 97) (by decide +kernel) rfl
theorem tw_99 : Cond.instanceMethod y_java_lang_Throwable_init ∈ TBL := tbl_t (i := 99) (by decide +kernel) rfl
theorem tw_100 : Cond.code y_java_lang_Throwable_init prog_17_method_1_code 1 none ∈ TBL := tbl_t (i := 100) (by decide +kernel) rfl
theorem tw_101 : Cond.methodLink "java/lang/Throwable" 1 y_java_lang_Object_init ∈ TBL := tbl_t (i := 101) (by decide +kernel) rfl
theorem tw_102 : Cond.fieldLink "java/lang/Throwable" 13 "java/lang/Throwable" "UNASSIGNED_STACK" "[Ljava/lang/StackTraceElement;" ∈ TBL := tbl_t (i := 102) (by decide +kernel) rfl
theorem tw_104 : Cond.fieldLink "java/lang/Throwable" 20 "java/lang/Throwable" "SUPPRESSED_SENTINEL" "Ljava/util/List;" ∈ TBL := tbl_t (i := 104) (by decide +kernel) rfl
theorem tw_106 : Cond.methodLink "java/lang/Throwable" 27 y_java_lang_Throwable_fillInStackTrace ∈ TBL := tbl_t (i := 106) (by decide +kernel) rfl
theorem tw_107 : Cond.instanceMethod y_java_lang_Throwable_fillInStackTrace ∈ TBL := tbl_t (i := 107) (by decide +kernel) rfl
theorem tw_109 : Cond.selects "java/lang/IndexOutOfBoundsException" y_java_lang_Throwable_fillInStackTrace y_java_lang_Throwable_fillInStackTrace ∈ TBL := tbl_t (i := 109) (by decide +kernel) rfl
theorem tw_110 : Cond.codeSync y_java_lang_Throwable_fillInStackTrace prog_17_method_18_code 1 (some (.object "java/lang/Throwable")) ∈ TBL := tbl_t (i := 110) (by decide +kernel) rfl
theorem tw_111 : Cond.methodLink "java/lang/Throwable" 202 y_java_lang_Throwable_fillInStackTraceI ∈ TBL := tbl_t (i := 111) (by decide +kernel) rfl
theorem tw_113 : Cond.instanceMethod y_java_lang_Throwable_fillInStackTraceI ∈ TBL := tbl_t (i := 113) (by decide +kernel) rfl
theorem tw_114 : Cond.instantiable "java/lang/Throwable" 6 ∈ TBL := tbl_t (i := 114) (by decide +kernel) rfl
theorem tw_115 : Cond.native y_java_lang_Throwable_fillInStackTraceI ∈ TBL := tbl_t (i := 115) (by decide +kernel) rfl
theorem tw_117 : Cond.methodLink "ExactNotation" 59 y_java_lang_IllegalArgumentException_initS ∈ TBL := tbl_t (i := 117) (by decide +kernel) rfl
theorem tw_118 : Cond.instanceMethod y_java_lang_IllegalArgumentException_initS ∈ TBL := tbl_t (i := 118) (by decide +kernel) rfl
theorem tw_119 : Cond.code y_java_lang_IllegalArgumentException_initS prog_10_method_2_code 2 none ∈ TBL := tbl_t (i := 119) (by decide +kernel) rfl
theorem tw_120 : Cond.methodLink "java/lang/IllegalArgumentException" 7 y_java_lang_RuntimeException_initS ∈ TBL := tbl_t (i := 120) (by decide +kernel) rfl
theorem tw_121 : Cond.instanceMethod y_java_lang_RuntimeException_initS ∈ TBL := tbl_t (i := 121) (by decide +kernel) rfl
theorem tw_122 : Cond.code y_java_lang_RuntimeException_initS prog_13_method_2_code 2 none ∈ TBL := tbl_t (i := 122) (by decide +kernel) rfl
theorem tw_123 : Cond.methodLink "java/lang/RuntimeException" 7 y_java_lang_Exception_initS ∈ TBL := tbl_t (i := 123) (by decide +kernel) rfl
theorem tw_124 : Cond.instanceMethod y_java_lang_Exception_initS ∈ TBL := tbl_t (i := 124) (by decide +kernel) rfl
theorem tw_125 : Cond.code y_java_lang_Exception_initS prog_9_method_2_code 2 none ∈ TBL := tbl_t (i := 125) (by decide +kernel) rfl
theorem tw_126 : Cond.methodLink "java/lang/Exception" 7 y_java_lang_Throwable_initS ∈ TBL := tbl_t (i := 126) (by decide +kernel) rfl
theorem tw_127 : Cond.instanceMethod y_java_lang_Throwable_initS ∈ TBL := tbl_t (i := 127) (by decide +kernel) rfl
theorem tw_128 : Cond.code y_java_lang_Throwable_initS prog_17_method_2_code 2 none ∈ TBL := tbl_t (i := 128) (by decide +kernel) rfl
theorem tw_130 : Cond.fieldLink "java/lang/Throwable" 31 "java/lang/Throwable" "detailMessage" "Ljava/lang/String;" ∈ TBL := tbl_t (i := 130) (by decide +kernel) rfl
theorem tw_131 : Cond.fieldLink "java/lang/Throwable" 7 "java/lang/Throwable" "cause" "Ljava/lang/Throwable;" ∈ TBL := tbl_t (i := 131) (by decide +kernel) rfl
theorem tw_132 : Cond.fieldLink "java/lang/Throwable" 17 "java/lang/Throwable" "stackTrace" "[Ljava/lang/StackTraceElement;" ∈ TBL := tbl_t (i := 132) (by decide +kernel) rfl
theorem tw_133 : Cond.fieldLink "java/lang/Throwable" 24 "java/lang/Throwable" "suppressedExceptions" "Ljava/util/List;" ∈ TBL := tbl_t (i := 133) (by decide +kernel) rfl
theorem tw_138 : Cond.lays "java/lang/IllegalArgumentException" "java/lang/Throwable" "depth" "I" ∈ TBL := tbl_t (i := 138) (by decide +kernel) rfl
theorem tw_143 : Cond.fieldLink "ExactNotation" 27 "ExactNotation$Format" "DOUBLE" "LExactNotation$Format;" ∈ TBL := tbl_t (i := 143) (by decide +kernel) rfl
theorem tw_145 : Cond.methodLink "ExactNotation" 33 y_EN_present ∈ TBL := tbl_t (i := 145) (by decide +kernel) rfl
theorem tw_147 : Cond.instanceMethod y_EN_present ∈ TBL := tbl_t (i := 147) (by decide +kernel) rfl
theorem tw_148 : Cond.code y_EN_present prog_1_method_6_code 8 (some .int) ∈ TBL := tbl_t (i := 148) (by decide +kernel) rfl
theorem tw_149 : Cond.methodLink "ExactNotation" 62 y_Tx_clear ∈ TBL := tbl_t (i := 149) (by decide +kernel) rfl
theorem tw_150 : Cond.instanceMethod y_Tx_clear ∈ TBL := tbl_t (i := 150) (by decide +kernel) rfl
theorem tw_151 : Cond.selects "ExactNotation$Text" y_Tx_clear y_Tx_clear ∈ TBL := tbl_t (i := 151) (by decide +kernel) rfl
theorem tw_152 : Cond.code y_Tx_clear prog_4_method_3_code 1 none ∈ TBL := tbl_t (i := 152) (by decide +kernel) rfl
theorem tw_153 : Cond.methodLink "ExactNotation" 65 y_Fm_isFinite ∈ TBL := tbl_t (i := 153) (by decide +kernel) rfl
end
section
theorem tw_154 : Cond.instanceMethod y_Fm_isFinite ∈ TBL := tbl_t (i := 154) (by decide +kernel) rfl
theorem tw_155 : Cond.selects "ExactNotation$Format" y_Fm_isFinite y_Fm_isFinite ∈ TBL := tbl_t (i := 155) (by decide +kernel) rfl
theorem tw_156 : Cond.code y_Fm_isFinite prog_3_method_4_code 3 (some .boolean) ∈ TBL := tbl_t (i := 156) (by decide +kernel) rfl
theorem tw_157 : Cond.methodLink "ExactNotation$Format" 39 y_Fm_exponent ∈ TBL := tbl_t (i := 157) (by decide +kernel) rfl
theorem tw_159 : Cond.instanceMethod y_Fm_exponent ∈ TBL := tbl_t (i := 159) (by decide +kernel) rfl
theorem tw_160 : Cond.instantiable "ExactNotation$Format" 6 ∈ TBL := tbl_t (i := 160) (by decide +kernel) rfl
theorem tw_161 : Cond.code y_Fm_exponent prog_3_method_8_code 3 (some .int) ∈ TBL := tbl_t (i := 161) (by decide +kernel) rfl
theorem tw_162 : Cond.methodLink "ExactNotation" 69 y_Fm_isInfinity ∈ TBL := tbl_t (i := 162) (by decide +kernel) rfl
theorem tw_163 : Cond.instanceMethod y_Fm_isInfinity ∈ TBL := tbl_t (i := 163) (by decide +kernel) rfl
theorem tw_164 : Cond.selects "ExactNotation$Format" y_Fm_isInfinity y_Fm_isInfinity ∈ TBL := tbl_t (i := 164) (by decide +kernel) rfl
theorem tw_165 : Cond.code y_Fm_isInfinity prog_3_method_5_code 3 (some .boolean) ∈ TBL := tbl_t (i := 165) (by decide +kernel) rfl
theorem tw_166 : Cond.methodLink "ExactNotation$Format" 43 y_Fm_isFinite ∈ TBL := tbl_t (i := 166) (by decide +kernel) rfl
theorem tw_167 : Cond.methodLink "ExactNotation$Format" 47 y_Fm_fraction ∈ TBL := tbl_t (i := 167) (by decide +kernel) rfl
theorem tw_169 : Cond.instanceMethod y_Fm_fraction ∈ TBL := tbl_t (i := 169) (by decide +kernel) rfl
theorem tw_170 : Cond.code y_Fm_fraction prog_3_method_9_code 3 (some .long) ∈ TBL := tbl_t (i := 170) (by decide +kernel) rfl
theorem tw_173 : Cond.methodLink "ExactNotation" 76 y_Tx_addAll ∈ TBL := tbl_t (i := 173) (by decide +kernel) rfl
theorem tw_174 : Cond.instanceMethod y_Tx_addAll ∈ TBL := tbl_t (i := 174) (by decide +kernel) rfl
theorem tw_175 : Cond.selects "ExactNotation$Text" y_Tx_addAll y_Tx_addAll ∈ TBL := tbl_t (i := 175) (by decide +kernel) rfl
theorem tw_176 : Cond.code y_Tx_addAll prog_4_method_5_code 3 none ∈ TBL := tbl_t (i := 176) (by decide +kernel) rfl
theorem tw_177 : Cond.methodLink "ExactNotation$Text" 19 y_St_length ∈ TBL := tbl_t (i := 177) (by decide +kernel) rfl
theorem tw_178 : Cond.instanceMethod y_St_length ∈ TBL := tbl_t (i := 178) (by decide +kernel) rfl
theorem tw_179 : Cond.selects "java/lang/String" y_St_length y_St_length ∈ TBL := tbl_t (i := 179) (by decide +kernel) rfl
theorem tw_180 : Cond.code y_St_length prog_14_method_54_code 1 (some .int) ∈ TBL := tbl_t (i := 180) (by decide +kernel) rfl
theorem tw_181 : Cond.methodLink "java/lang/String" 335 y_St_coder ∈ TBL := tbl_t (i := 181) (by decide +kernel) rfl
theorem tw_182 : Cond.instanceMethod y_St_coder ∈ TBL := tbl_t (i := 182) (by decide +kernel) rfl
theorem tw_183 : Cond.selects "java/lang/String" y_St_coder y_St_coder ∈ TBL := tbl_t (i := 183) (by decide +kernel) rfl
theorem tw_184 : Cond.code y_St_coder prog_14_method_152_code 1 (some .byte) ∈ TBL := tbl_t (i := 184) (by decide +kernel) rfl
theorem tw_185 : Cond.fieldLink "java/lang/String" 38 "java/lang/String" "COMPACT_STRINGS" "Z" ∈ TBL := tbl_t (i := 185) (by decide +kernel) rfl
theorem tw_187 : Cond.methodLink "ExactNotation$Text" 24 y_St_charAt ∈ TBL := tbl_t (i := 187) (by decide +kernel) rfl
theorem tw_188 : Cond.instanceMethod y_St_charAt ∈ TBL := tbl_t (i := 188) (by decide +kernel) rfl
theorem tw_189 : Cond.selects "java/lang/String" y_St_charAt y_St_charAt ∈ TBL := tbl_t (i := 189) (by decide +kernel) rfl
theorem tw_190 : Cond.code y_St_charAt prog_14_method_56_code 2 (some .char) ∈ TBL := tbl_t (i := 190) (by decide +kernel) rfl
theorem tw_191 : Cond.methodLink "java/lang/String" 492 y_St_isLatin1 ∈ TBL := tbl_t (i := 191) (by decide +kernel) rfl
theorem tw_192 : Cond.instanceMethod y_St_isLatin1 ∈ TBL := tbl_t (i := 192) (by decide +kernel) rfl
theorem tw_193 : Cond.selects "java/lang/String" y_St_isLatin1 y_St_isLatin1 ∈ TBL := tbl_t (i := 193) (by decide +kernel) rfl
theorem tw_194 : Cond.code y_St_isLatin1 prog_14_method_154_code 1 (some .boolean) ∈ TBL := tbl_t (i := 194) (by decide +kernel) rfl
theorem tw_195 : Cond.methodLink "java/lang/String" 495 y_Sl_charAt ∈ TBL := tbl_t (i := 195) (by decide +kernel) rfl
theorem tw_196 : Cond.static y_Sl_charAt ∈ TBL := tbl_t (i := 196) (by decide +kernel) rfl
theorem tw_197 : Cond.code y_Sl_charAt prog_15_method_2_code 2 (some .char) ∈ TBL := tbl_t (i := 197) (by decide +kernel) rfl
theorem tw_198 : Cond.methodLink "java/lang/StringLatin1" 9 y_St_checkIndex ∈ TBL := tbl_t (i := 198) (by decide +kernel) rfl
theorem tw_199 : Cond.static y_St_checkIndex ∈ TBL := tbl_t (i := 199) (by decide +kernel) rfl
theorem tw_200 : Cond.code y_St_checkIndex prog_14_method_155_code 2 none ∈ TBL := tbl_t (i := 200) (by decide +kernel) rfl
theorem tw_201 : Cond.fieldLink "java/lang/String" 1053 "jdk/internal/util/Preconditions" "SIOOBE_FORMATTER" "Ljava/util/function/BiFunction;" ∈ TBL := tbl_t (i := 201) (by decide +kernel) rfl
theorem tw_203 : Cond.methodLink "java/lang/String" 1059 y_jdk_internal_util_Preconditions_checkIndex ∈ TBL := tbl_t (i := 203) (by decide +kernel) rfl
theorem tw_204 : Cond.static y_jdk_internal_util_Preconditions_checkIndex ∈ TBL := tbl_t (i := 204) (by decide +kernel) rfl
theorem tw_205 : Cond.code y_jdk_internal_util_Preconditions_checkIndex prog_19_method_11_code 3 (some .int) ∈ TBL := tbl_t (i := 205) (by decide +kernel) rfl
theorem tw_206 : Cond.methodLink "java/lang/String" 498 y_java_lang_StringUTF16_charAt ∈ TBL := tbl_t (i := 206) (by decide +kernel) rfl
theorem tw_207 : Cond.static y_java_lang_StringUTF16_charAt ∈ TBL := tbl_t (i := 207) (by decide +kernel) rfl
theorem tw_208 : Cond.code y_java_lang_StringUTF16_charAt prog_16_method_83_code 2 (some .char) ∈ TBL := tbl_t (i := 208) (by decide +kernel) rfl
theorem tw_209 : Cond.methodLink "java/lang/StringUTF16" 67 y_java_lang_StringUTF16_checkIndex ∈ TBL := tbl_t (i := 209) (by decide +kernel) rfl
theorem tw_210 : Cond.static y_java_lang_StringUTF16_checkIndex ∈ TBL := tbl_t (i := 210) (by decide +kernel) rfl
theorem tw_211 : Cond.code y_java_lang_StringUTF16_checkIndex prog_16_method_91_code 2 none ∈ TBL := tbl_t (i := 211) (by decide +kernel) rfl
theorem tw_212 : Cond.methodLink "java/lang/StringUTF16" 48 y_java_lang_StringUTF16_length ∈ TBL := tbl_t (i := 212) (by decide +kernel) rfl
theorem tw_213 : Cond.static y_java_lang_StringUTF16_length ∈ TBL := tbl_t (i := 213) (by decide +kernel) rfl
theorem tw_214 : Cond.code y_java_lang_StringUTF16_length prog_16_method_6_code 1 (some .int) ∈ TBL := tbl_t (i := 214) (by decide +kernel) rfl
theorem tw_215 : Cond.methodLink "java/lang/StringUTF16" 414 y_St_checkIndex ∈ TBL := tbl_t (i := 215) (by decide +kernel) rfl
theorem tw_216 : Cond.methodLink "java/lang/StringUTF16" 71 y_java_lang_StringUTF16_getChar ∈ TBL := tbl_t (i := 216) (by decide +kernel) rfl
theorem tw_217 : Cond.static y_java_lang_StringUTF16_getChar ∈ TBL := tbl_t (i := 217) (by decide +kernel) rfl
theorem tw_218 : Cond.code y_java_lang_StringUTF16_getChar prog_16_method_5_code 2 (some .char) ∈ TBL := tbl_t (i := 218) (by decide +kernel) rfl
theorem tw_219 : Cond.fieldLink "java/lang/StringUTF16" 44 "java/lang/StringUTF16" "$assertionsDisabled" "Z" ∈ TBL := tbl_t (i := 219) (by decide +kernel) rfl
theorem tw_221 : Cond.fieldLink "java/lang/StringUTF16" 59 "java/lang/StringUTF16" "HI_BYTE_SHIFT" "I" ∈ TBL := tbl_t (i := 221) (by decide +kernel) rfl
theorem tw_223 : Cond.fieldLink "java/lang/StringUTF16" 63 "java/lang/StringUTF16" "LO_BYTE_SHIFT" "I" ∈ TBL := tbl_t (i := 223) (by decide +kernel) rfl
theorem tw_225 : Cond.methodLink "ExactNotation$Text" 28 y_Tx_add ∈ TBL := tbl_t (i := 225) (by decide +kernel) rfl
theorem tw_226 : Cond.instanceMethod y_Tx_add ∈ TBL := tbl_t (i := 226) (by decide +kernel) rfl
theorem tw_227 : Cond.selects "ExactNotation$Text" y_Tx_add y_Tx_add ∈ TBL := tbl_t (i := 227) (by decide +kernel) rfl
theorem tw_228 : Cond.code y_Tx_add prog_4_method_4_code 2 none ∈ TBL := tbl_t (i := 228) (by decide +kernel) rfl
theorem tw_229 : Cond.methodLink "ExactNotation" 40 y_Tx_length ∈ TBL := tbl_t (i := 229) (by decide +kernel) rfl
theorem tw_230 : Cond.instanceMethod y_Tx_length ∈ TBL := tbl_t (i := 230) (by decide +kernel) rfl
theorem tw_231 : Cond.selects "ExactNotation$Text" y_Tx_length y_Tx_length ∈ TBL := tbl_t (i := 231) (by decide +kernel) rfl
theorem tw_232 : Cond.code y_Tx_length prog_4_method_2_code 1 (some .int) ∈ TBL := tbl_t (i := 232) (by decide +kernel) rfl
theorem tw_233 : Cond.methodLink "ExactNotation" 79 y_Fm_coefficient ∈ TBL := tbl_t (i := 233) (by decide +kernel) rfl
theorem tw_234 : Cond.instanceMethod y_Fm_coefficient ∈ TBL := tbl_t (i := 234) (by decide +kernel) rfl
theorem tw_235 : Cond.selects "ExactNotation$Format" y_Fm_coefficient y_Fm_coefficient ∈ TBL := tbl_t (i := 235) (by decide +kernel) rfl
theorem tw_236 : Cond.code y_Fm_coefficient prog_3_method_6_code 5 (some .long) ∈ TBL := tbl_t (i := 236) (by decide +kernel) rfl
theorem tw_237 : Cond.methodLink "ExactNotation" 83 y_Fm_power ∈ TBL := tbl_t (i := 237) (by decide +kernel) rfl
theorem tw_238 : Cond.instanceMethod y_Fm_power ∈ TBL := tbl_t (i := 238) (by decide +kernel) rfl
theorem tw_239 : Cond.selects "ExactNotation$Format" y_Fm_power y_Fm_power ∈ TBL := tbl_t (i := 239) (by decide +kernel) rfl
theorem tw_240 : Cond.code y_Fm_power prog_3_method_7_code 3 (some .int) ∈ TBL := tbl_t (i := 240) (by decide +kernel) rfl
theorem tw_241 : Cond.methodLink "ExactNotation$Format" 51 y_Ma_max ∈ TBL := tbl_t (i := 241) (by decide +kernel) rfl
theorem tw_242 : Cond.static y_Ma_max ∈ TBL := tbl_t (i := 242) (by decide +kernel) rfl
theorem tw_243 : Cond.code y_Ma_max prog_12_method_65_code 2 (some .int) ∈ TBL := tbl_t (i := 243) (by decide +kernel) rfl
theorem tw_244 : Cond.methodLink "ExactNotation" 87 y_Dc_assign ∈ TBL := tbl_t (i := 244) (by decide +kernel) rfl
theorem tw_245 : Cond.instanceMethod y_Dc_assign ∈ TBL := tbl_t (i := 245) (by decide +kernel) rfl
theorem tw_246 : Cond.selects "ExactNotation$Decimal" y_Dc_assign y_Dc_assign ∈ TBL := tbl_t (i := 246) (by decide +kernel) rfl
theorem tw_247 : Cond.code y_Dc_assign prog_2_method_2_code 4 none ∈ TBL := tbl_t (i := 247) (by decide +kernel) rfl
theorem tw_248 : Cond.methodLink "ExactNotation$Decimal" 20 y_Dc_assignWhole ∈ TBL := tbl_t (i := 248) (by decide +kernel) rfl
theorem tw_250 : Cond.instanceMethod y_Dc_assignWhole ∈ TBL := tbl_t (i := 250) (by decide +kernel) rfl
theorem tw_251 : Cond.code y_Dc_assignWhole prog_2_method_4_code 3 none ∈ TBL := tbl_t (i := 251) (by decide +kernel) rfl
theorem tw_252 : Cond.methodLink "ExactNotation$Decimal" 40 y_Ar_fill ∈ TBL := tbl_t (i := 252) (by decide +kernel) rfl
theorem tw_253 : Cond.static y_Ar_fill ∈ TBL := tbl_t (i := 253) (by decide +kernel) rfl
theorem tw_254 : Cond.code y_Ar_fill prog_18_method_103_code 4 none ∈ TBL := tbl_t (i := 254) (by decide +kernel) rfl
theorem tw_255 : Cond.constantLong "ExactNotation$Decimal" 46 1000000000 ∈ TBL := tbl_t (i := 255) (by decide +kernel) rfl
theorem tw_256 : Cond.methodLink "ExactNotation$Decimal" 24 y_Dc_scaleByPowerOfTwo ∈ TBL := tbl_t (i := 256) (by decide +kernel) rfl
theorem tw_258 : Cond.instanceMethod y_Dc_scaleByPowerOfTwo ∈ TBL := tbl_t (i := 258) (by decide +kernel) rfl
theorem tw_259 : Cond.code y_Dc_scaleByPowerOfTwo prog_2_method_3_code 3 none ∈ TBL := tbl_t (i := 259) (by decide +kernel) rfl
theorem tw_260 : Cond.methodLink "ExactNotation$Decimal" 28 y_Ma_min ∈ TBL := tbl_t (i := 260) (by decide +kernel) rfl
theorem tw_261 : Cond.static y_Ma_min ∈ TBL := tbl_t (i := 261) (by decide +kernel) rfl
theorem tw_262 : Cond.code y_Ma_min prog_12_method_69_code 2 (some .int) ∈ TBL := tbl_t (i := 262) (by decide +kernel) rfl
theorem tw_263 : Cond.methodLink "ExactNotation$Decimal" 34 y_Dc_multiplyByPowerOfTwo ∈ TBL := tbl_t (i := 263) (by decide +kernel) rfl
theorem tw_265 : Cond.instanceMethod y_Dc_multiplyByPowerOfTwo ∈ TBL := tbl_t (i := 265) (by decide +kernel) rfl
theorem tw_266 : Cond.code y_Dc_multiplyByPowerOfTwo prog_2_method_5_code 7 none ∈ TBL := tbl_t (i := 266) (by decide +kernel) rfl
theorem tw_267 : Cond.methodLink "ExactNotation$Decimal" 37 y_Dc_divideByPowerOfTwo ∈ TBL := tbl_t (i := 267) (by decide +kernel) rfl
theorem tw_269 : Cond.instanceMethod y_Dc_divideByPowerOfTwo ∈ TBL := tbl_t (i := 269) (by decide +kernel) rfl
theorem tw_270 : Cond.code y_Dc_divideByPowerOfTwo prog_2_method_6_code 10 none ∈ TBL := tbl_t (i := 270) (by decide +kernel) rfl
theorem tw_271 : Cond.methodLink "ExactNotation" 91 y_Dc_leadingPlace ∈ TBL := tbl_t (i := 271) (by decide +kernel) rfl
theorem tw_272 : Cond.instanceMethod y_Dc_leadingPlace ∈ TBL := tbl_t (i := 272) (by decide +kernel) rfl
theorem tw_273 : Cond.selects "ExactNotation$Decimal" y_Dc_leadingPlace y_Dc_leadingPlace ∈ TBL := tbl_t (i := 273) (by decide +kernel) rfl
theorem tw_274 : Cond.code y_Dc_leadingPlace prog_2_method_7_code 3 (some .int) ∈ TBL := tbl_t (i := 274) (by decide +kernel) rfl
theorem tw_275 : Cond.fieldLink "ExactNotation$Decimal" 48 "ExactNotation$Decimal" "TEN_TO" "[I" ∈ TBL := tbl_t (i := 275) (by decide +kernel) rfl
theorem tw_277 : Cond.methodLink "ExactNotation" 94 y_Dc_roundAt ∈ TBL := tbl_t (i := 277) (by decide +kernel) rfl
theorem tw_278 : Cond.instanceMethod y_Dc_roundAt ∈ TBL := tbl_t (i := 278) (by decide +kernel) rfl
theorem tw_279 : Cond.selects "ExactNotation$Decimal" y_Dc_roundAt y_Dc_roundAt ∈ TBL := tbl_t (i := 279) (by decide +kernel) rfl
theorem tw_280 : Cond.code y_Dc_roundAt prog_2_method_9_code 2 none ∈ TBL := tbl_t (i := 280) (by decide +kernel) rfl
theorem tw_281 : Cond.methodLink "ExactNotation$Decimal" 58 y_Dc_digitAt ∈ TBL := tbl_t (i := 281) (by decide +kernel) rfl
theorem tw_282 : Cond.instanceMethod y_Dc_digitAt ∈ TBL := tbl_t (i := 282) (by decide +kernel) rfl
theorem tw_283 : Cond.selects "ExactNotation$Decimal" y_Dc_digitAt y_Dc_digitAt ∈ TBL := tbl_t (i := 283) (by decide +kernel) rfl
theorem tw_284 : Cond.code y_Dc_digitAt prog_2_method_8_code 3 (some .int) ∈ TBL := tbl_t (i := 284) (by decide +kernel) rfl
theorem tw_285 : Cond.methodLink "ExactNotation$Decimal" 51 y_Dc_limbOf ∈ TBL := tbl_t (i := 285) (by decide +kernel) rfl
theorem tw_286 : Cond.static y_Dc_limbOf ∈ TBL := tbl_t (i := 286) (by decide +kernel) rfl
theorem tw_287 : Cond.code y_Dc_limbOf prog_2_method_11_code 1 (some .int) ∈ TBL := tbl_t (i := 287) (by decide +kernel) rfl
end
section
theorem tw_288 : Cond.methodLink "ExactNotation$Decimal" 65 y_Ma_floorDiv ∈ TBL := tbl_t (i := 288) (by decide +kernel) rfl
theorem tw_289 : Cond.static y_Ma_floorDiv ∈ TBL := tbl_t (i := 289) (by decide +kernel) rfl
theorem tw_290 : Cond.code y_Ma_floorDiv prog_12_method_47_code 3 (some .int) ∈ TBL := tbl_t (i := 290) (by decide +kernel) rfl
theorem tw_291 : Cond.methodLink "ExactNotation$Decimal" 55 y_Dc_placeInLimb ∈ TBL := tbl_t (i := 291) (by decide +kernel) rfl
theorem tw_292 : Cond.static y_Dc_placeInLimb ∈ TBL := tbl_t (i := 292) (by decide +kernel) rfl
theorem tw_293 : Cond.code y_Dc_placeInLimb prog_2_method_12_code 1 (some .int) ∈ TBL := tbl_t (i := 293) (by decide +kernel) rfl
theorem tw_294 : Cond.methodLink "ExactNotation$Decimal" 68 y_Ma_floorMod ∈ TBL := tbl_t (i := 294) (by decide +kernel) rfl
theorem tw_295 : Cond.static y_Ma_floorMod ∈ TBL := tbl_t (i := 295) (by decide +kernel) rfl
theorem tw_296 : Cond.code y_Ma_floorMod prog_12_method_50_code 3 (some .int) ∈ TBL := tbl_t (i := 296) (by decide +kernel) rfl
theorem tw_297 : Cond.methodLink "ExactNotation$Decimal" 61 y_Dc_addOneAt ∈ TBL := tbl_t (i := 297) (by decide +kernel) rfl
theorem tw_299 : Cond.instanceMethod y_Dc_addOneAt ∈ TBL := tbl_t (i := 299) (by decide +kernel) rfl
theorem tw_300 : Cond.code y_Dc_addOneAt prog_2_method_10_code 6 none ∈ TBL := tbl_t (i := 300) (by decide +kernel) rfl
theorem tw_301 : Cond.constant "ExactNotation$Decimal" 64 1000000000 ∈ TBL := tbl_t (i := 301) (by decide +kernel) rfl
theorem tw_302 : Cond.methodLink "ExactNotation" 98 y_EN_writeScientific ∈ TBL := tbl_t (i := 302) (by decide +kernel) rfl
theorem tw_304 : Cond.instanceMethod y_EN_writeScientific ∈ TBL := tbl_t (i := 304) (by decide +kernel) rfl
theorem tw_305 : Cond.code y_EN_writeScientific prog_1_method_9_code 4 none ∈ TBL := tbl_t (i := 305) (by decide +kernel) rfl
theorem tw_306 : Cond.methodLink "ExactNotation" 115 y_Dc_digitAt ∈ TBL := tbl_t (i := 306) (by decide +kernel) rfl
theorem tw_307 : Cond.methodLink "ExactNotation" 119 y_EN_writeDigit ∈ TBL := tbl_t (i := 307) (by decide +kernel) rfl
theorem tw_309 : Cond.instanceMethod y_EN_writeDigit ∈ TBL := tbl_t (i := 309) (by decide +kernel) rfl
theorem tw_310 : Cond.code y_EN_writeDigit prog_1_method_12_code 2 none ∈ TBL := tbl_t (i := 310) (by decide +kernel) rfl
theorem tw_311 : Cond.methodLink "ExactNotation" 122 y_Tx_add ∈ TBL := tbl_t (i := 311) (by decide +kernel) rfl
theorem tw_312 : Cond.methodLink "ExactNotation" 126 y_EN_writeBehindPoint ∈ TBL := tbl_t (i := 312) (by decide +kernel) rfl
theorem tw_314 : Cond.instanceMethod y_EN_writeBehindPoint ∈ TBL := tbl_t (i := 314) (by decide +kernel) rfl
theorem tw_315 : Cond.code y_EN_writeBehindPoint prog_1_method_10_code 5 none ∈ TBL := tbl_t (i := 315) (by decide +kernel) rfl
theorem tw_316 : Cond.methodLink "ExactNotation" 130 y_EN_writeExponent ∈ TBL := tbl_t (i := 316) (by decide +kernel) rfl
theorem tw_318 : Cond.instanceMethod y_EN_writeExponent ∈ TBL := tbl_t (i := 318) (by decide +kernel) rfl
theorem tw_319 : Cond.code y_EN_writeExponent prog_1_method_11_code 3 none ∈ TBL := tbl_t (i := 319) (by decide +kernel) rfl
theorem tw_320 : Cond.methodLink "ExactNotation" 133 y_Ma_abs ∈ TBL := tbl_t (i := 320) (by decide +kernel) rfl
theorem tw_321 : Cond.static y_Ma_abs ∈ TBL := tbl_t (i := 321) (by decide +kernel) rfl
theorem tw_322 : Cond.code y_Ma_abs prog_12_method_59_code 1 (some .int) ∈ TBL := tbl_t (i := 322) (by decide +kernel) rfl
theorem tw_323 : Cond.methodLink "ExactNotation" 102 y_EN_writeFixed ∈ TBL := tbl_t (i := 323) (by decide +kernel) rfl
theorem tw_325 : Cond.instanceMethod y_EN_writeFixed ∈ TBL := tbl_t (i := 325) (by decide +kernel) rfl
theorem tw_326 : Cond.code y_EN_writeFixed prog_1_method_8_code 5 none ∈ TBL := tbl_t (i := 326) (by decide +kernel) rfl
theorem tw_327 : Cond.methodLink "ExactNotation" 106 y_Ma_max ∈ TBL := tbl_t (i := 327) (by decide +kernel) rfl
theorem tw_328 : Cond.methodLink "ExactNotation" 112 y_EN_writeShorter ∈ TBL := tbl_t (i := 328) (by decide +kernel) rfl
theorem tw_330 : Cond.instanceMethod y_EN_writeShorter ∈ TBL := tbl_t (i := 330) (by decide +kernel) rfl
theorem tw_331 : Cond.code y_EN_writeShorter prog_1_method_7_code 4 none ∈ TBL := tbl_t (i := 331) (by decide +kernel) rfl
theorem tw_332 : Cond.methodLink "ExactNotationLaw" 41 y_Lw_showFloat ∈ TBL := tbl_t (i := 332) (by decide +kernel) rfl
theorem tw_333 : Cond.static y_Lw_showFloat ∈ TBL := tbl_t (i := 333) (by decide +kernel) rfl
theorem tw_334 : Cond.codeWith y_Lw_showFloat method_4_code 8 (some .int) [(0, 16, 19, 13)] ∈ TBL := tbl_t (i := 334) (by decide +kernel) rfl
theorem tw_335 : Cond.methodLink "ExactNotationLaw" 15 y_EN_showFloat ∈ TBL := tbl_t (i := 335) (by decide +kernel) rfl
theorem tw_336 : Cond.instanceMethod y_EN_showFloat ∈ TBL := tbl_t (i := 336) (by decide +kernel) rfl
theorem tw_337 : Cond.selects "ExactNotation" y_EN_showFloat y_EN_showFloat ∈ TBL := tbl_t (i := 337) (by decide +kernel) rfl
theorem tw_338 : Cond.code y_EN_showFloat prog_1_method_3_code 6 (some .int) ∈ TBL := tbl_t (i := 338) (by decide +kernel) rfl
theorem tw_339 : Cond.fieldLink "ExactNotation" 37 "ExactNotation$Format" "FLOAT" "LExactNotation$Format;" ∈ TBL := tbl_t (i := 339) (by decide +kernel) rfl
theorem tw_341 : Cond.methodLink "ExactNotationLaw" 45 y_Lw_word ∈ TBL := tbl_t (i := 341) (by decide +kernel) rfl
theorem tw_342 : Cond.static y_Lw_word ∈ TBL := tbl_t (i := 342) (by decide +kernel) rfl
theorem tw_343 : Cond.codeWith y_Lw_word method_5_code 4 (some .int) [(0, 8, 11, 23)] ∈ TBL := tbl_t (i := 343) (by decide +kernel) rfl
theorem tw_344 : Cond.classLink "ExactNotationLaw" 23 "java/lang/IndexOutOfBoundsException" ∈ TBL := tbl_t (i := 344) (by decide +kernel) rfl
theorem tw_345 : Cond.methodLink "ExactNotationLaw" 19 y_EN_word ∈ TBL := tbl_t (i := 345) (by decide +kernel) rfl
theorem tw_346 : Cond.instanceMethod y_EN_word ∈ TBL := tbl_t (i := 346) (by decide +kernel) rfl
theorem tw_347 : Cond.selects "ExactNotation" y_EN_word y_EN_word ∈ TBL := tbl_t (i := 347) (by decide +kernel) rfl
theorem tw_348 : Cond.code y_EN_word prog_1_method_4_code 2 (some .long) ∈ TBL := tbl_t (i := 348) (by decide +kernel) rfl
theorem tw_349 : Cond.classLink "ExactNotation" 44 "java/lang/IndexOutOfBoundsException" ∈ TBL := tbl_t (i := 349) (by decide +kernel) rfl
theorem tw_350 : Cond.instantiable "java/lang/IndexOutOfBoundsException" 6 ∈ TBL := tbl_t (i := 350) (by decide +kernel) rfl
theorem tw_352 : Cond.selects "java/lang/IndexOutOfBoundsException" y_java_lang_Throwable_fillInStackTraceI y_java_lang_Throwable_fillInStackTraceI ∈ TBL := tbl_t (i := 352) (by decide +kernel) rfl
theorem tw_353 : Cond.lays "java/lang/IndexOutOfBoundsException" "java/lang/Throwable" "cause" "Ljava/lang/Throwable;" ∈ TBL := tbl_t (i := 353) (by decide +kernel) rfl
theorem tw_354 : Cond.lays "java/lang/IndexOutOfBoundsException" "java/lang/Throwable" "stackTrace" "[Ljava/lang/StackTraceElement;" ∈ TBL := tbl_t (i := 354) (by decide +kernel) rfl
theorem tw_355 : Cond.lays "java/lang/IndexOutOfBoundsException" "java/lang/Throwable" "suppressedExceptions" "Ljava/util/List;" ∈ TBL := tbl_t (i := 355) (by decide +kernel) rfl
theorem tw_356 : Cond.lays "java/lang/IndexOutOfBoundsException" "java/lang/Throwable" "detailMessage" "Ljava/lang/String;" ∈ TBL := tbl_t (i := 356) (by decide +kernel) rfl
theorem tw_357 : Cond.lays "java/lang/IndexOutOfBoundsException" "java/lang/Throwable" "backtrace" "Ljava/lang/Object;" ∈ TBL := tbl_t (i := 357) (by decide +kernel) rfl
theorem tw_359 : Cond.methodLink "ExactNotation" 48 y_java_lang_IndexOutOfBoundsException_initS ∈ TBL := tbl_t (i := 359) (by decide +kernel) rfl
theorem tw_360 : Cond.instanceMethod y_java_lang_IndexOutOfBoundsException_initS ∈ TBL := tbl_t (i := 360) (by decide +kernel) rfl
theorem tw_361 : Cond.code y_java_lang_IndexOutOfBoundsException_initS prog_11_method_2_code 2 none ∈ TBL := tbl_t (i := 361) (by decide +kernel) rfl
theorem tw_362 : Cond.methodLink "java/lang/IndexOutOfBoundsException" 7 y_java_lang_RuntimeException_initS ∈ TBL := tbl_t (i := 362) (by decide +kernel) rfl
theorem tw_363 : Cond.lays "java/lang/IndexOutOfBoundsException" "java/lang/Throwable" "depth" "I" ∈ TBL := tbl_t (i := 363) (by decide +kernel) rfl
theorem tw_365 : Cond.methodLink "ExactNotation" 51 y_Tx_eightFrom ∈ TBL := tbl_t (i := 365) (by decide +kernel) rfl
theorem tw_366 : Cond.instanceMethod y_Tx_eightFrom ∈ TBL := tbl_t (i := 366) (by decide +kernel) rfl
theorem tw_367 : Cond.selects "ExactNotation$Text" y_Tx_eightFrom y_Tx_eightFrom ∈ TBL := tbl_t (i := 367) (by decide +kernel) rfl
theorem tw_368 : Cond.code y_Tx_eightFrom prog_4_method_6_code 6 (some .long) ∈ TBL := tbl_t (i := 368) (by decide +kernel) rfl
theorem tw_369 : Cond.classLink "ExactNotationLaw" 26 "ExactNotationModel" ∈ TBL := tbl_t (i := 369) (by decide +kernel) rfl
theorem tw_370 : Cond.instantiable "ExactNotationModel" 11 ∈ TBL := tbl_t (i := 370) (by decide +kernel) rfl
theorem tw_371 : Cond.methodLink "ExactNotationLaw" 28 y_Mo_init ∈ TBL := tbl_t (i := 371) (by decide +kernel) rfl
theorem tw_372 : Cond.instanceMethod y_Mo_init ∈ TBL := tbl_t (i := 372) (by decide +kernel) rfl
theorem tw_373 : Cond.code y_Mo_init prog_6_method_1_code 1 none ∈ TBL := tbl_t (i := 373) (by decide +kernel) rfl
theorem tw_374 : Cond.methodLink "ExactNotationModel" 1 y_java_lang_Object_init ∈ TBL := tbl_t (i := 374) (by decide +kernel) rfl
theorem tw_375 : Cond.classLink "ExactNotationModel" 13 "ExactNotationModel$Row" ∈ TBL := tbl_t (i := 375) (by decide +kernel) rfl
theorem tw_376 : Cond.instantiable "ExactNotationModel$Row" 3 ∈ TBL := tbl_t (i := 376) (by decide +kernel) rfl
theorem tw_378 : Cond.instanceMethod y_Rw_init ∈ TBL := tbl_t (i := 378) (by decide +kernel) rfl
theorem tw_379 : Cond.code y_Rw_init prog_7_method_1_code 1 none ∈ TBL := tbl_t (i := 379) (by decide +kernel) rfl
theorem tw_380 : Cond.methodLink "ExactNotationModel$Row" 1 y_java_lang_Object_init ∈ TBL := tbl_t (i := 380) (by decide +kernel) rfl
theorem tw_381 : Cond.fieldLink "ExactNotationModel$Row" 7 "ExactNotationModel$Row" "d" "[B" ∈ TBL := tbl_t (i := 381) (by decide +kernel) rfl
theorem tw_382 : Cond.fieldLink "ExactNotationModel" 86 "ExactNotationModel$Row" "d" "[B" ∈ TBL := tbl_t (i := 382) (by decide +kernel) rfl
theorem tw_383 : Cond.fieldLink "ExactNotationModel" 79 "ExactNotationModel$Row" "n" "I" ∈ TBL := tbl_t (i := 383) (by decide +kernel) rfl
theorem tw_384 : Cond.fieldLink "ExactNotationModel" 89 "ExactNotationModel$Row" "p" "I" ∈ TBL := tbl_t (i := 384) (by decide +kernel) rfl
theorem tw_385 : Cond.laysFinal "ExactNotationModel$Row" "ExactNotationModel$Row" "d" "[B" ∈ TBL := tbl_t (i := 385) (by decide +kernel) rfl
theorem tw_387 : Cond.lays "ExactNotationModel$Row" "ExactNotationModel$Row" "n" "I" ∈ TBL := tbl_t (i := 387) (by decide +kernel) rfl
theorem tw_389 : Cond.lays "ExactNotationModel$Row" "ExactNotationModel$Row" "p" "I" ∈ TBL := tbl_t (i := 389) (by decide +kernel) rfl
theorem tw_392 : Cond.fieldLink "ExactNotationModel" 7 "ExactNotationModel" "result" "[B" ∈ TBL := tbl_t (i := 392) (by decide +kernel) rfl
theorem tw_393 : Cond.fieldLink "ExactNotationModel" 34 "ExactNotationModel" "length" "I" ∈ TBL := tbl_t (i := 393) (by decide +kernel) rfl
theorem tw_394 : Cond.fieldLink "ExactNotationModel" 30 "ExactNotationModel" "code" "I" ∈ TBL := tbl_t (i := 394) (by decide +kernel) rfl
theorem tw_395 : Cond.fieldLink "ExactNotationModel" 16 "ExactNotationModel" "exact" "LExactNotationModel$Row;" ∈ TBL := tbl_t (i := 395) (by decide +kernel) rfl
theorem tw_396 : Cond.fieldLink "ExactNotationModel" 43 "ExactNotationModel" "bits" "I" ∈ TBL := tbl_t (i := 396) (by decide +kernel) rfl
theorem tw_397 : Cond.fieldLink "ExactNotationModel" 46 "ExactNotationModel" "least" "I" ∈ TBL := tbl_t (i := 397) (by decide +kernel) rfl
theorem tw_398 : Cond.fieldLink "ExactNotationModel" 20 "ExactNotationModel" "limbs" "[J" ∈ TBL := tbl_t (i := 398) (by decide +kernel) rfl
theorem tw_399 : Cond.fieldLink "ExactNotationModel" 64 "ExactNotationModel" "used" "I" ∈ TBL := tbl_t (i := 399) (by decide +kernel) rfl
theorem tw_400 : Cond.fieldLink "ExactNotationModel" 24 "ExactNotationModel" "body" "[B" ∈ TBL := tbl_t (i := 400) (by decide +kernel) rfl
theorem tw_401 : Cond.fieldLink "ExactNotationModel" 92 "ExactNotationModel" "bodyLength" "I" ∈ TBL := tbl_t (i := 401) (by decide +kernel) rfl
theorem tw_402 : Cond.fieldLink "ExactNotationModel" 27 "ExactNotationModel" "cutRow" "LExactNotationModel$Row;" ∈ TBL := tbl_t (i := 402) (by decide +kernel) rfl
theorem tw_403 : Cond.laysFinal "ExactNotationModel" "ExactNotationModel" "result" "[B" ∈ TBL := tbl_t (i := 403) (by decide +kernel) rfl
theorem tw_405 : Cond.lays "ExactNotationModel" "ExactNotationModel" "length" "I" ∈ TBL := tbl_t (i := 405) (by decide +kernel) rfl
theorem tw_407 : Cond.lays "ExactNotationModel" "ExactNotationModel" "code" "I" ∈ TBL := tbl_t (i := 407) (by decide +kernel) rfl
theorem tw_409 : Cond.laysFinal "ExactNotationModel" "ExactNotationModel" "exact" "LExactNotationModel$Row;" ∈ TBL := tbl_t (i := 409) (by decide +kernel) rfl
theorem tw_411 : Cond.lays "ExactNotationModel" "ExactNotationModel" "bits" "I" ∈ TBL := tbl_t (i := 411) (by decide +kernel) rfl
theorem tw_413 : Cond.lays "ExactNotationModel" "ExactNotationModel" "least" "I" ∈ TBL := tbl_t (i := 413) (by decide +kernel) rfl
theorem tw_415 : Cond.laysFinal "ExactNotationModel" "ExactNotationModel" "limbs" "[J" ∈ TBL := tbl_t (i := 415) (by decide +kernel) rfl
theorem tw_417 : Cond.lays "ExactNotationModel" "ExactNotationModel" "used" "I" ∈ TBL := tbl_t (i := 417) (by decide +kernel) rfl
theorem tw_419 : Cond.laysFinal "ExactNotationModel" "ExactNotationModel" "body" "[B" ∈ TBL := tbl_t (i := 419) (by decide +kernel) rfl
theorem tw_421 : Cond.lays "ExactNotationModel" "ExactNotationModel" "bodyLength" "I" ∈ TBL := tbl_t (i := 421) (by decide +kernel) rfl
theorem tw_423 : Cond.laysFinal "ExactNotationModel" "ExactNotationModel" "cutRow" "LExactNotationModel$Row;" ∈ TBL := tbl_t (i := 423) (by decide +kernel) rfl
theorem tw_426 : Cond.arrayClass .long ∈ TBL := tbl_t (i := 426) (by decide +kernel) rfl
theorem tw_427 : Cond.methodLink "ExactNotationLaw" 37 y_Mo_thrown ∈ TBL := tbl_t (i := 427) (by decide +kernel) rfl
theorem tw_428 : Cond.instanceMethod y_Mo_thrown ∈ TBL := tbl_t (i := 428) (by decide +kernel) rfl
theorem tw_429 : Cond.selects "ExactNotationModel" y_Mo_thrown y_Mo_thrown ∈ TBL := tbl_t (i := 429) (by decide +kernel) rfl
theorem tw_430 : Cond.code y_Mo_thrown prog_6_method_2_code 1 (some .int) ∈ TBL := tbl_t (i := 430) (by decide +kernel) rfl
theorem tw_431 : Cond.methodLink "ExactNotationLaw" 48 y_Mo_word ∈ TBL := tbl_t (i := 431) (by decide +kernel) rfl
theorem tw_432 : Cond.instanceMethod y_Mo_word ∈ TBL := tbl_t (i := 432) (by decide +kernel) rfl
theorem tw_433 : Cond.selects "ExactNotationModel" y_Mo_word y_Mo_word ∈ TBL := tbl_t (i := 433) (by decide +kernel) rfl
theorem tw_434 : Cond.code y_Mo_word prog_6_method_4_code 5 (some .long) ∈ TBL := tbl_t (i := 434) (by decide +kernel) rfl
theorem tw_435 : Cond.methodLink "ExactNotationModel" 37 y_Mo_good ∈ TBL := tbl_t (i := 435) (by decide +kernel) rfl
end
section
theorem tw_437 : Cond.instanceMethod y_Mo_good ∈ TBL := tbl_t (i := 437) (by decide +kernel) rfl
theorem tw_438 : Cond.code y_Mo_good prog_6_method_3_code 3 (some .boolean) ∈ TBL := tbl_t (i := 438) (by decide +kernel) rfl
theorem tw_439 : Cond.constantLong "ExactNotationModel" 41 255 ∈ TBL := tbl_t (i := 439) (by decide +kernel) rfl
theorem tw_440 : Cond.methodLink "ExactNotationLaw" 36 y_Mo_show ∈ TBL := tbl_t (i := 440) (by decide +kernel) rfl
theorem tw_441 : Cond.instanceMethod y_Mo_show ∈ TBL := tbl_t (i := 441) (by decide +kernel) rfl
theorem tw_442 : Cond.selects "ExactNotationModel" y_Mo_show y_Mo_show ∈ TBL := tbl_t (i := 442) (by decide +kernel) rfl
theorem tw_443 : Cond.code y_Mo_show prog_6_method_24_code 7 (some .int) ∈ TBL := tbl_t (i := 443) (by decide +kernel) rfl
theorem tw_444 : Cond.methodLink "ExactNotationModel" 158 y_Mo_kind ∈ TBL := tbl_t (i := 444) (by decide +kernel) rfl
theorem tw_446 : Cond.instanceMethod y_Mo_kind ∈ TBL := tbl_t (i := 446) (by decide +kernel) rfl
theorem tw_447 : Cond.code y_Mo_kind prog_6_method_5_code 2 none ∈ TBL := tbl_t (i := 447) (by decide +kernel) rfl
theorem tw_448 : Cond.methodLink "ExactNotationModel" 162 y_Mo_shown ∈ TBL := tbl_t (i := 448) (by decide +kernel) rfl
theorem tw_450 : Cond.instanceMethod y_Mo_shown ∈ TBL := tbl_t (i := 450) (by decide +kernel) rfl
theorem tw_451 : Cond.code y_Mo_shown prog_6_method_23_code 11 (some .int) ∈ TBL := tbl_t (i := 451) (by decide +kernel) rfl
theorem tw_452 : Cond.methodLink "ExactNotationModel" 119 y_Mo_sign ∈ TBL := tbl_t (i := 452) (by decide +kernel) rfl
theorem tw_454 : Cond.instanceMethod y_Mo_sign ∈ TBL := tbl_t (i := 454) (by decide +kernel) rfl
theorem tw_455 : Cond.code y_Mo_sign prog_6_method_8_code 1 (some .long) ∈ TBL := tbl_t (i := 455) (by decide +kernel) rfl
theorem tw_456 : Cond.constantLong "ExactNotationModel" 53 (-9223372036854775808) ∈ TBL := tbl_t (i := 456) (by decide +kernel) rfl
theorem tw_457 : Cond.constantLong "ExactNotationModel" 55 2147483648 ∈ TBL := tbl_t (i := 457) (by decide +kernel) rfl
theorem tw_458 : Cond.constantLong "ExactNotationModel" 122 (-1) ∈ TBL := tbl_t (i := 458) (by decide +kernel) rfl
theorem tw_459 : Cond.constantLong "ExactNotationModel" 124 4294967295 ∈ TBL := tbl_t (i := 459) (by decide +kernel) rfl
theorem tw_460 : Cond.methodLink "ExactNotationModel" 57 y_Mo_infinity ∈ TBL := tbl_t (i := 460) (by decide +kernel) rfl
theorem tw_462 : Cond.instanceMethod y_Mo_infinity ∈ TBL := tbl_t (i := 462) (by decide +kernel) rfl
theorem tw_463 : Cond.code y_Mo_infinity prog_6_method_6_code 1 (some .long) ∈ TBL := tbl_t (i := 463) (by decide +kernel) rfl
theorem tw_464 : Cond.constantLong "ExactNotationModel" 49 9218868437227405312 ∈ TBL := tbl_t (i := 464) (by decide +kernel) rfl
theorem tw_465 : Cond.constantLong "ExactNotationModel" 51 2139095040 ∈ TBL := tbl_t (i := 465) (by decide +kernel) rfl
theorem tw_466 : Cond.methodLink "ExactNotationModel" 126 y_Mo_isNone ∈ TBL := tbl_t (i := 466) (by decide +kernel) rfl
theorem tw_468 : Cond.instanceMethod y_Mo_isNone ∈ TBL := tbl_t (i := 468) (by decide +kernel) rfl
theorem tw_469 : Cond.code y_Mo_isNone prog_6_method_9_code 3 (some .boolean) ∈ TBL := tbl_t (i := 469) (by decide +kernel) rfl
theorem tw_472 : Cond.methodLink "ExactNotationModel" 134 y_St_length ∈ TBL := tbl_t (i := 472) (by decide +kernel) rfl
theorem tw_473 : Cond.methodLink "ExactNotationModel" 139 y_St_charAt ∈ TBL := tbl_t (i := 473) (by decide +kernel) rfl
theorem tw_474 : Cond.methodLink "ExactNotationModel" 107 y_Mo_add ∈ TBL := tbl_t (i := 474) (by decide +kernel) rfl
theorem tw_476 : Cond.instanceMethod y_Mo_add ∈ TBL := tbl_t (i := 476) (by decide +kernel) rfl
theorem tw_477 : Cond.code y_Mo_add prog_6_method_18_code 2 none ∈ TBL := tbl_t (i := 477) (by decide +kernel) rfl
theorem tw_478 : Cond.methodLink "ExactNotationModel" 143 y_Mo_c ∈ TBL := tbl_t (i := 478) (by decide +kernel) rfl
theorem tw_480 : Cond.instanceMethod y_Mo_c ∈ TBL := tbl_t (i := 480) (by decide +kernel) rfl
theorem tw_481 : Cond.code y_Mo_c prog_6_method_11_code 5 (some .long) ∈ TBL := tbl_t (i := 481) (by decide +kernel) rfl
theorem tw_482 : Cond.methodLink "ExactNotationModel" 61 y_Mo_fraction ∈ TBL := tbl_t (i := 482) (by decide +kernel) rfl
theorem tw_484 : Cond.instanceMethod y_Mo_fraction ∈ TBL := tbl_t (i := 484) (by decide +kernel) rfl
theorem tw_485 : Cond.code y_Mo_fraction prog_6_method_7_code 1 (some .long) ∈ TBL := tbl_t (i := 485) (by decide +kernel) rfl
theorem tw_486 : Cond.methodLink "ExactNotationModel" 147 y_Mo_q ∈ TBL := tbl_t (i := 486) (by decide +kernel) rfl
theorem tw_488 : Cond.instanceMethod y_Mo_q ∈ TBL := tbl_t (i := 488) (by decide +kernel) rfl
theorem tw_489 : Cond.code y_Mo_q prog_6_method_12_code 5 (some .int) ∈ TBL := tbl_t (i := 489) (by decide +kernel) rfl
theorem tw_490 : Cond.methodLink "ExactNotationModel" 151 y_Mo_row ∈ TBL := tbl_t (i := 490) (by decide +kernel) rfl
theorem tw_492 : Cond.instanceMethod y_Mo_row ∈ TBL := tbl_t (i := 492) (by decide +kernel) rfl
theorem tw_493 : Cond.code y_Mo_row prog_6_method_14_code 9 none ∈ TBL := tbl_t (i := 493) (by decide +kernel) rfl
theorem tw_494 : Cond.constantLong "ExactNotationModel" 67 1000000000 ∈ TBL := tbl_t (i := 494) (by decide +kernel) rfl
theorem tw_495 : Cond.constantLong "ExactNotationModel" 69 536870912 ∈ TBL := tbl_t (i := 495) (by decide +kernel) rfl
theorem tw_496 : Cond.methodLink "ExactNotationModel" 71 y_Mo_times ∈ TBL := tbl_t (i := 496) (by decide +kernel) rfl
theorem tw_498 : Cond.instanceMethod y_Mo_times ∈ TBL := tbl_t (i := 498) (by decide +kernel) rfl
theorem tw_499 : Cond.code y_Mo_times prog_6_method_13_code 6 none ∈ TBL := tbl_t (i := 499) (by decide +kernel) rfl
theorem tw_500 : Cond.constantLong "ExactNotationModel" 75 244140625 ∈ TBL := tbl_t (i := 500) (by decide +kernel) rfl
theorem tw_501 : Cond.constantLong "ExactNotationModel" 77 5 ∈ TBL := tbl_t (i := 501) (by decide +kernel) rfl
theorem tw_502 : Cond.constantLong "ExactNotationModel" 82 100000000 ∈ TBL := tbl_t (i := 502) (by decide +kernel) rfl
theorem tw_503 : Cond.constantLong "ExactNotationModel" 84 10 ∈ TBL := tbl_t (i := 503) (by decide +kernel) rfl
theorem tw_504 : Cond.methodLink "ExactNotationModel" 115 y_Mo_scientific ∈ TBL := tbl_t (i := 504) (by decide +kernel) rfl
theorem tw_506 : Cond.instanceMethod y_Mo_scientific ∈ TBL := tbl_t (i := 506) (by decide +kernel) rfl
theorem tw_507 : Cond.code y_Mo_scientific prog_6_method_20_code 6 none ∈ TBL := tbl_t (i := 507) (by decide +kernel) rfl
theorem tw_508 : Cond.methodLink "ExactNotationModel" 99 y_Mo_rounded ∈ TBL := tbl_t (i := 508) (by decide +kernel) rfl
theorem tw_510 : Cond.instanceMethod y_Mo_rounded ∈ TBL := tbl_t (i := 510) (by decide +kernel) rfl
theorem tw_511 : Cond.code y_Mo_rounded prog_6_method_19_code 5 none ∈ TBL := tbl_t (i := 511) (by decide +kernel) rfl
theorem tw_512 : Cond.methodLink "ExactNotationModel" 95 y_Mo_more ∈ TBL := tbl_t (i := 512) (by decide +kernel) rfl
theorem tw_513 : Cond.static y_Mo_more ∈ TBL := tbl_t (i := 513) (by decide +kernel) rfl
theorem tw_514 : Cond.code y_Mo_more prog_6_method_16_code 3 none ∈ TBL := tbl_t (i := 514) (by decide +kernel) rfl
theorem tw_515 : Cond.methodLink "ExactNotationModel" 103 y_Mo_digit ∈ TBL := tbl_t (i := 515) (by decide +kernel) rfl
theorem tw_516 : Cond.static y_Mo_digit ∈ TBL := tbl_t (i := 516) (by decide +kernel) rfl
theorem tw_517 : Cond.code y_Mo_digit prog_6_method_17_code 2 (some .int) ∈ TBL := tbl_t (i := 517) (by decide +kernel) rfl
theorem tw_518 : Cond.methodLink "ExactNotationModel" 111 y_Mo_fixed ∈ TBL := tbl_t (i := 518) (by decide +kernel) rfl
theorem tw_520 : Cond.instanceMethod y_Mo_fixed ∈ TBL := tbl_t (i := 520) (by decide +kernel) rfl
theorem tw_521 : Cond.code y_Mo_fixed prog_6_method_21_code 10 none ∈ TBL := tbl_t (i := 521) (by decide +kernel) rfl
theorem tw_522 : Cond.methodLink "ExactNotationModel" 155 y_Mo_general ∈ TBL := tbl_t (i := 522) (by decide +kernel) rfl
theorem tw_524 : Cond.instanceMethod y_Mo_general ∈ TBL := tbl_t (i := 524) (by decide +kernel) rfl
theorem tw_525 : Cond.code y_Mo_general prog_6_method_22_code 6 none ∈ TBL := tbl_t (i := 525) (by decide +kernel) rfl
theorem tw_526 : Cond.methodLink "ExactNotationLaw" 44 y_Mo_showFloat ∈ TBL := tbl_t (i := 526) (by decide +kernel) rfl
theorem tw_527 : Cond.instanceMethod y_Mo_showFloat ∈ TBL := tbl_t (i := 527) (by decide +kernel) rfl
theorem tw_528 : Cond.selects "ExactNotationModel" y_Mo_showFloat y_Mo_showFloat ∈ TBL := tbl_t (i := 528) (by decide +kernel) rfl
theorem tw_529 : Cond.code y_Mo_showFloat prog_6_method_25_code 6 (some .int) ∈ TBL := tbl_t (i := 529) (by decide +kernel) rfl
theorem tw_530 : Cond.constantLong "ExactNotationLaw" 29 4294967295 ∈ TBL := tbl_t (i := 530) (by decide +kernel) rfl
theorem tw_532 : Cond.fieldLink "ExactNotation$Format" 29 "ExactNotation$Format" "fractionBits" "I" ∈ TBL := tbl_t (i := 532) (by decide +kernel) rfl
theorem tw_533 : Cond.fieldLink "ExactNotation$Format" 33 "ExactNotation$Format" "exponentOnes" "I" ∈ TBL := tbl_t (i := 533) (by decide +kernel) rfl
theorem tw_534 : Cond.fieldLink "java/lang/String" 9 "java/lang/String" "value" "[B" ∈ TBL := tbl_t (i := 534) (by decide +kernel) rfl
theorem tw_535 : Cond.fieldLink "java/lang/String" 15 "java/lang/String" "coder" "B" ∈ TBL := tbl_t (i := 535) (by decide +kernel) rfl
theorem tw_536 : Cond.fieldLink "ExactNotation$Format" 36 "ExactNotation$Format" "leastPower" "I" ∈ TBL := tbl_t (i := 536) (by decide +kernel) rfl
end
section
theorem tws_0 : Cond.selects "java/lang/Throwable" y_java_lang_Throwable_fillInStackTraceI y_java_lang_Throwable_fillInStackTraceI ∈ TBL := tbl_s (i := 0) (by decide +kernel) rfl
theorem tws_1 : Cond.selects "ExactNotation" y_EN_present y_EN_present ∈ TBL := tbl_s (i := 1) (by decide +kernel) rfl
theorem tws_2 : Cond.selects "ExactNotation$Format" y_Fm_exponent y_Fm_exponent ∈ TBL := tbl_s (i := 2) (by decide +kernel) rfl
theorem tws_3 : Cond.selects "ExactNotation$Format" y_Fm_fraction y_Fm_fraction ∈ TBL := tbl_s (i := 3) (by decide +kernel) rfl
theorem tws_4 : Cond.selects "ExactNotation$Decimal" y_Dc_assignWhole y_Dc_assignWhole ∈ TBL := tbl_s (i := 4) (by decide +kernel) rfl
theorem tws_5 : Cond.selects "ExactNotation$Decimal" y_Dc_scaleByPowerOfTwo y_Dc_scaleByPowerOfTwo ∈ TBL := tbl_s (i := 5) (by decide +kernel) rfl
theorem tws_6 : Cond.selects "ExactNotation$Decimal" y_Dc_multiplyByPowerOfTwo y_Dc_multiplyByPowerOfTwo ∈ TBL := tbl_s (i := 6) (by decide +kernel) rfl
theorem tws_7 : Cond.selects "ExactNotation$Decimal" y_Dc_divideByPowerOfTwo y_Dc_divideByPowerOfTwo ∈ TBL := tbl_s (i := 7) (by decide +kernel) rfl
theorem tws_8 : Cond.selects "ExactNotation$Decimal" y_Dc_addOneAt y_Dc_addOneAt ∈ TBL := tbl_s (i := 8) (by decide +kernel) rfl
theorem tws_9 : Cond.selects "ExactNotation" y_EN_writeScientific y_EN_writeScientific ∈ TBL := tbl_s (i := 9) (by decide +kernel) rfl
theorem tws_10 : Cond.selects "ExactNotation" y_EN_writeDigit y_EN_writeDigit ∈ TBL := tbl_s (i := 10) (by decide +kernel) rfl
theorem tws_11 : Cond.selects "ExactNotation" y_EN_writeBehindPoint y_EN_writeBehindPoint ∈ TBL := tbl_s (i := 11) (by decide +kernel) rfl
theorem tws_12 : Cond.selects "ExactNotation" y_EN_writeExponent y_EN_writeExponent ∈ TBL := tbl_s (i := 12) (by decide +kernel) rfl
theorem tws_13 : Cond.selects "ExactNotation" y_EN_writeFixed y_EN_writeFixed ∈ TBL := tbl_s (i := 13) (by decide +kernel) rfl
theorem tws_14 : Cond.selects "ExactNotation" y_EN_writeShorter y_EN_writeShorter ∈ TBL := tbl_s (i := 14) (by decide +kernel) rfl
theorem tws_15 : Cond.selects "ExactNotationModel" y_Mo_good y_Mo_good ∈ TBL := tbl_s (i := 15) (by decide +kernel) rfl
theorem tws_16 : Cond.selects "ExactNotationModel" y_Mo_kind y_Mo_kind ∈ TBL := tbl_s (i := 16) (by decide +kernel) rfl
theorem tws_17 : Cond.selects "ExactNotationModel" y_Mo_shown y_Mo_shown ∈ TBL := tbl_s (i := 17) (by decide +kernel) rfl
theorem tws_18 : Cond.selects "ExactNotationModel" y_Mo_sign y_Mo_sign ∈ TBL := tbl_s (i := 18) (by decide +kernel) rfl
theorem tws_19 : Cond.selects "ExactNotationModel" y_Mo_infinity y_Mo_infinity ∈ TBL := tbl_s (i := 19) (by decide +kernel) rfl
theorem tws_20 : Cond.selects "ExactNotationModel" y_Mo_isNone y_Mo_isNone ∈ TBL := tbl_s (i := 20) (by decide +kernel) rfl
theorem tws_21 : Cond.selects "ExactNotationModel" y_Mo_add y_Mo_add ∈ TBL := tbl_s (i := 21) (by decide +kernel) rfl
theorem tws_22 : Cond.selects "ExactNotationModel" y_Mo_c y_Mo_c ∈ TBL := tbl_s (i := 22) (by decide +kernel) rfl
theorem tws_23 : Cond.selects "ExactNotationModel" y_Mo_fraction y_Mo_fraction ∈ TBL := tbl_s (i := 23) (by decide +kernel) rfl
theorem tws_24 : Cond.selects "ExactNotationModel" y_Mo_q y_Mo_q ∈ TBL := tbl_s (i := 24) (by decide +kernel) rfl
theorem tws_25 : Cond.selects "ExactNotationModel" y_Mo_row y_Mo_row ∈ TBL := tbl_s (i := 25) (by decide +kernel) rfl
theorem tws_26 : Cond.selects "ExactNotationModel" y_Mo_times y_Mo_times ∈ TBL := tbl_s (i := 26) (by decide +kernel) rfl
theorem tws_27 : Cond.selects "ExactNotationModel" y_Mo_scientific y_Mo_scientific ∈ TBL := tbl_s (i := 27) (by decide +kernel) rfl
theorem tws_28 : Cond.selects "ExactNotationModel" y_Mo_rounded y_Mo_rounded ∈ TBL := tbl_s (i := 28) (by decide +kernel) rfl
theorem tws_29 : Cond.selects "ExactNotationModel" y_Mo_fixed y_Mo_fixed ∈ TBL := tbl_s (i := 29) (by decide +kernel) rfl
theorem tws_30 : Cond.selects "ExactNotationModel" y_Mo_general y_Mo_general ∈ TBL := tbl_s (i := 30) (by decide +kernel) rfl
theorem twm_min : Cond.code Lib.Math.min.name Lib.Math.min.code 2 (some .int) ∈ TBL := tbl_t (i := 262) (by decide +kernel) rfl
theorem twm_max : Cond.code Lib.Math.max.name Lib.Math.max.code 2 (some .int) ∈ TBL := tbl_t (i := 243) (by decide +kernel) rfl
theorem twm_abs : Cond.code Lib.Math.abs.name Lib.Math.abs.code 1 (some .int) ∈ TBL := tbl_t (i := 322) (by decide +kernel) rfl
theorem in_0 : ∀ w ∈ u_ws R_0 T_0 2, w ∈ TBL := List.forall_mem_cons.mpr ⟨tw_60, List.forall_mem_cons.mpr ⟨tw_62, fun _ h => absurd h List.not_mem_nil⟩⟩
theorem in_1 : ∀ w ∈ u_ws R_1 T_1 3, w ∈ TBL := List.forall_mem_cons.mpr ⟨tw_36, List.forall_mem_cons.mpr ⟨tw_38, List.forall_mem_cons.mpr ⟨tw_40, fun _ h => absurd h List.not_mem_nil⟩⟩⟩
theorem in_2 : ∀ w ∈ u_ws R_2 T_2 2, w ∈ TBL := List.forall_mem_cons.mpr ⟨tw_52, List.forall_mem_cons.mpr ⟨tw_54, fun _ h => absurd h List.not_mem_nil⟩⟩
theorem in_3 : ∀ w ∈ u_ws R_3 T_3 11, w ∈ TBL := List.forall_mem_cons.mpr ⟨tw_403, List.forall_mem_cons.mpr ⟨tw_405, List.forall_mem_cons.mpr ⟨tw_407, List.forall_mem_cons.mpr ⟨tw_409, List.forall_mem_cons.mpr ⟨tw_411, List.forall_mem_cons.mpr ⟨tw_413, List.forall_mem_cons.mpr ⟨tw_415, List.forall_mem_cons.mpr ⟨tw_417, List.forall_mem_cons.mpr ⟨tw_419, List.forall_mem_cons.mpr ⟨tw_421, List.forall_mem_cons.mpr ⟨tw_423, fun _ h => absurd h List.not_mem_nil⟩⟩⟩⟩⟩⟩⟩⟩⟩⟩⟩
theorem in_4 : ∀ w ∈ u_ws R_4 T_4 3, w ∈ TBL := List.forall_mem_cons.mpr ⟨tw_385, List.forall_mem_cons.mpr ⟨tw_387, List.forall_mem_cons.mpr ⟨tw_389, fun _ h => absurd h List.not_mem_nil⟩⟩⟩
end
section
/-! contracts of methods that make no cell -/
def zrm (k : Nat) : Room := { frames := k, cells := 0, slots := 0, locals := 32 * k + 16 }
def zQ (A : Nat → Prop) (Post : Option Value → State → Heap → Prop) : Array Value → State → Outcome → State → Prop := fun _ st oc t => (∃ v, oc = .returned v ∧ Post v t t.heap) ∧ va_F A st t
def zPc (av : List Value) (Pre : State → Heap → Prop) : Array Value → State → Prop := fun v U => v = av.toArray ∧ Pre U U.heap
/-- a fact of the tables and the heap that warmer tables keep; one that like tables keep -/
def zSt (P : State → Heap → Prop) : Prop := ∀ (u U : State) (H : Heap), u.WarmedH U.vm → P u H → P U H
def zSa (P : State → Heap → Prop) : Prop := ∀ (u U : State) (H : Heap), u.vm.Alike U.vm → P u H → P U H
theorem zSt_of {P : State → Heap → Prop} (h : zSa P) : zSt P := fun u U H hw => h u U H hw.alike
def Ct (l : Launch) (y : MethodName) (ws : List Cond) (k : Nat) (A : Nat → Prop) (av : List Value) (Pre : State → Heap → Prop) (Post : Option Value → State → Heap → Prop) : Prop :=
  zSt Pre ∧ Met l y ws (zrm k) (zPc av Pre) (zQ A Post) 0 0 A
theorem z_blind {av : List Value} {Pre : State → Heap → Prop} (h : zSt Pre) : FrameBlind (zPc av Pre) := fun a U g mk q => ⟨q.1, h U (U.calling g mk a) U.heap (State.WarmedH.refl U) q.2⟩
theorem z_preS {s : State} {H : Heap} {av : List Value} {Pre : State → Heap → Prop} (h : zSt Pre) (hp : Pre s H) : PreS s H (zPc av Pre) av :=
  ⟨z_blind h, fun U hU hW => ⟨rfl, by rw [hU]; exact h s U H hW hp⟩⟩
theorem z_preV {s : State} {H : Heap} {C : String} {b : Addr} {av : List Value} {Pre : State → Heap → Prop} (h : zSt Pre) (hr : ∃ cellB : Cell, H[b]? = some cellB ∧ cellB.vm.isStatics = false ∧ s.vm.findClass C = some cellB.cls) (hp : Pre s H) : PreV s H C b (zPc (.ref b :: av) Pre) av :=
  ⟨z_blind h, hr, fun U hU hW => ⟨rfl, by rw [hU]; exact h s U H hW hp⟩⟩
theorem z_body {l : Launch} {y : MethodName} {ws ws' : List Cond} {k : Nat} {A : Nat → Prop} {av : List Value} {Pre : State → Heap → Prop} {Post : Option Value → State → Heap → Prop} {cc : ByteArray} {maxL : Nat} {ret : Option FieldType}
    (hst : zSt Pre) (hy : plainFor y = true) (hw : ws = Cond.code y cc maxL ret :: ws') (hlen : (lg_sl av).length ≤ maxL)
    (body : ∀ (p : Program) (e : Env) (s : State) (m : MethodId) (args : Array Value) (below : List Frame) (meth : Method) (c : Code) (ls : Array Slot), p.tables.exec = Jvm.exec → c.code = cc → c.maxLocals = maxL → meth.sig.returnType = ret → meth.locks = false → (∀ w ∈ ws, w.before args s = true) → s.vm.findClass y.cls = some m.cls → Pre s s.heap → ∀ (H : Heap) (locs : List Loc), Pre s H → va_S A s.heap H locs → lv_has ls maxL (lv_args 0 av) →
      W p l e (zrm k) s m args below meth c H locs 0 0 (MQ below (zQ A Post) args s 0 0 A) (F0 m 0 ls [])) : Ct l y ws k A av Pre Post := by
  refine ⟨hst, va_MetF (cc := cc) (maxL := maxL) (ret := ret) hy hw ?_⟩
  intro p e s m args below meth c s₁ B hml hv
  obtain ⟨rfl, hp⟩ := hv
  have hl := lv_entry av (n := maxL) hlen
  rw [lg_entry_eq]
  exact body p e s m _ below meth c _ B.exec B.bytes hml B.returns B.notSynchronized (atoms_spec (ws := ws) B.pre) (findClass_of_methodNamed B.named) hp _ _ hp va_S.rf hl
section ZCalls
variable {p : Program} {l : Launch} {e : Env} {R : Room} {s : State} {m : MethodId} {args : Array Value} {below : List Frame} {meth : Method} {c : Code} {H H0 : Heap} {locs : List Loc} {cells slots : Nat} {Q : State → Prop} {cc : ByteArray} {pc : Nat} {ls : Array Slot} {rest st0 : List Value} {A A1 : Nat → Prop} {a : Array Value} {Post : Option Value → State → Heap → Prop}
theorem z_go (hr : va_Run p l e R s m args below meth c H locs cells slots 0 0 (F0 m pc ls st0) rest (zQ A1 Post a) A1) (hS : va_S A H0 H locs) (hA : ∀ q, A1 q → A q)
    (kk : ∀ (v : Option Value) (t : State) (H1 : Heap) (locs1 : List Loc), s.vm.Alike t.vm → Post v t H1 → H.size ≤ H1.size → (∀ q : Nat, q < H.size → ¬ A1 q → H1[q]? = H[q]?) → va_S A H0 H1 locs1 → W p l e R s m args below meth c H1 locs1 cells slots Q (F0 m (pc + 3) ls (v.toList ++ rest))) : W p l e R s m args below meth c H locs cells slots Q (F0 m pc ls st0) := by
  intro T hT X
  obtain ⟨v, st₀, t, T', L, h0, X', hL, e1, e2, ⟨⟨u, hv, hp⟩, hz, hk⟩, st⟩ := hr T hT X
  cases hv
  rw [h0] at hz hk
  obtain ⟨t2, a1, b1⟩ := kk v t T'.heap (locs ++ L) (by rw [← e2]; exact X'.warmed.alike) (by rw [e1]; exact hp) (by rw [e1]; exact hz) (fun q h1 h2 => by rw [e1]; exact hk q h1 h2)
    ⟨Nat.le_trans hS.1 (by rw [e1]; exact hz), fun q h1 h2 => by rw [e1, hk q (Nat.lt_of_lt_of_le h1 hS.1) (fun z => h2 (hA q z))]; exact hS.2.1 q h1 h2, fun q hq => by
      rcases List.mem_append.mp hq with h | h
      · exact hS.2.2 q h
      · exact hA _ (hL q h)⟩ T' rfl X'
  exact ⟨t2, st t2 a1, b1⟩
theorem z_iret {x : Int32} (hx : p.tables.exec = Jvm.exec) (hb : c.code = cc) (hr : meth.sig.returnType = some .int) (hlk : meth.locks = false) (hS : va_S A s.heap H locs) (hst : zSt (Post (some (.int x)))) (hp : Post (some (.int x)) s H) (hdg : decode cc pc = .ok (.ireturn, 1)) :
    W p l e R s m args below meth c H locs cells slots (MQ below (zQ A Post) args s cells slots A) (F0 m pc ls [.int x]) :=
  W.iret hx hb hr (fun t ht hW => ⟨⟨_, rfl, by rw [ht]; exact hst s t H hW hp⟩, hS.F ht⟩) hS.2.2 hdg hlk
theorem z_zret {x : Int32} {ty : FieldType} (hx : p.tables.exec = Jvm.exec) (hb : c.code = cc) (hr : meth.sig.returnType = some ty) (hn : narrow ty (.int x) = .int x) (hlk : meth.locks = false) (hS : va_S A s.heap H locs) (hst : zSt (Post (some (.int x)))) (hp : Post (some (.int x)) s H) (hdg : decode cc pc = .ok (.ireturn, 1)) :
    W p l e R s m args below meth c H locs cells slots (MQ below (zQ A Post) args s cells slots A) (F0 m pc ls [.int x]) :=
  W.zret hx hb hr hn (fun t ht hW => ⟨⟨_, rfl, by rw [ht]; exact hst s t H hW hp⟩, hS.F ht⟩) hS.2.2 hdg hlk
theorem z_lret {x : Int64} (hx : p.tables.exec = Jvm.exec) (hb : c.code = cc) (hr : meth.sig.returnType = some .long) (hlk : meth.locks = false) (hS : va_S A s.heap H locs) (hst : zSt (Post (some (.long x)))) (hp : Post (some (.long x)) s H) (hdg : decode cc pc = .ok (.lreturn, 1)) :
    W p l e R s m args below meth c H locs cells slots (MQ below (zQ A Post) args s cells slots A) (F0 m pc ls [.long x]) :=
  W.lret hx hb hr (fun t ht hW => ⟨⟨_, rfl, by rw [ht]; exact hst s t H hW hp⟩, hS.F ht⟩) hS.2.2 hdg hlk
theorem z_vret (hx : p.tables.exec = Jvm.exec) (hb : c.code = cc) (hr : meth.sig.returnType = none) (hlk : meth.locks = false) (hS : va_S A s.heap H locs) (hst : zSt (Post none)) (hp : Post none s H) (hdg : decode cc pc = .ok (.return_, 1)) :
    W p l e R s m args below meth c H locs cells slots (MQ below (zQ A Post) args s cells slots A) (F0 m pc ls []) :=
  W.vret hx hb hr (fun t ht hW => ⟨⟨_, rfl, by rw [ht]; exact hst s t H hW hp⟩, hS.F ht⟩) hS.2.2 hdg hlk
end ZCalls
/-- a world of cells, with the tables that it needs -/
def Wl (D : va_G) (cl : List vw_C) (tys : List (ClassId × FieldType)) (A : Nat → Prop) (ws : va_W) (U : State) (H : Heap) : Prop := va_K D cl tys U ∧ va_P D cl ws H ∧ va_D A ws
theorem Wl.moved {D : va_G} {cl : List vw_C} {tys : List (ClassId × FieldType)} {A : Nat → Prop} {ws : va_W} {u U : State} {H : Heap} (hv : u.vm.Alike U.vm) (h : Wl D cl tys A ws u H) : Wl D cl tys A ws U H := ⟨va_K.moved hv h.1, h.2⟩
theorem zSt_and {P Q : State → Heap → Prop} (h1 : zSt P) (h2 : zSt Q) : zSt (fun U H => P U H ∧ Q U H) := fun u U H hv h => ⟨h1 u U H hv h.1, h2 u U H hv h.2⟩
theorem zSt_ex {S : Type} {P : S → State → Heap → Prop} (h : ∀ x, zSt (P x)) : zSt (fun U H => ∃ x, P x U H) := fun u U H hv ⟨x, hx⟩ => ⟨x, h x u U H hv hx⟩
theorem zSt_c {P : Prop} : zSt (fun _ _ => P) := fun _ _ _ _ h => h
theorem zSt_Wl {D : va_G} {cl : List vw_C} {tys : List (ClassId × FieldType)} {A : Nat → Prop} {ws : va_W} : zSt (Wl D cl tys A ws) := fun _ _ _ hv h => Wl.moved hv.alike h
theorem zSa_Wl {D : va_G} {cl : List vw_C} {tys : List (ClassId × FieldType)} {A : Nat → Prop} {ws : va_W} : zSa (Wl D cl tys A ws) := fun _ _ _ hv h => Wl.moved hv h

def zwB (y : MethodName) (b : ByteArray) (maxL : Nat) (ret : Option FieldType) (n : Nat) : Prop := Cond.code y b maxL ret ∈ TBL ∧ Cond.initialized y.cls ∈ TBL ∧ (y.cls ≠ "java/lang/invoke/MethodHandle" ∧ y.cls ≠ "java/lang/invoke/VarHandle" ∧ (parseMethodDescriptor y.desc).map (fun d => d.parameters.length) = some n)
def zwV (y : MethodName) (b : ByteArray) (maxL : Nat) (ret : Option FieldType) (n : Nat) : Prop := zwB y b maxL ret n ∧ Cond.instanceMethod y ∈ TBL ∧ Cond.selects y.cls y y ∈ TBL
def zwS (y : MethodName) (b : ByteArray) (maxL : Nat) (ret : Option FieldType) (n : Nat) : Prop := zwB y b maxL ret n ∧ Cond.static y ∈ TBL
theorem tbl_good {c : Cond} (hc : c ∈ TBL) : GoodIn TBL (c :: TBL) := fun w h => by
  have hw : w ∈ TBL := by
    rcases List.mem_cons.mp h with h | h
    · rw [h]; exact hc
    · exact h
  exact ⟨hw, good_of_word (List.mem_filter.mp hw).2⟩
theorem z_cwB {R : Room} {s : State} {args : Array Value} {own : String} {index : Nat} {y : MethodName} {b : ByteArray} {maxL n k : Nat} {ret : Option FieldType} (ht : ∀ w ∈ TBL, w.before args s = true) (h : zwB y b maxL ret n) (hl : Cond.methodLink own index y ∈ TBL) (hR : k + 1 ≤ R.frames ∧ 8 + (maxL + 11) + (32 * k + 16) ≤ R.locals) : CallB R s args own index y b maxL ret (Cond.code y b maxL ret :: TBL) (zrm k) 0 0 n :=
  callB_of n ht (tbl_good h.1) rfl rfl rfl (ht _ h.2.1) (ht _ hl) h.2.2 hR
theorem z_cwV {R : Room} {s : State} {args : Array Value} {own : String} {index : Nat} {y : MethodName} {b : ByteArray} {maxL n k : Nat} {ret : Option FieldType} (ht : ∀ w ∈ TBL, w.before args s = true) (h : zwV y b maxL ret n) (hl : Cond.methodLink own index y ∈ TBL) (hR : k + 1 ≤ R.frames ∧ 8 + (maxL + 11) + (32 * k + 16) ≤ R.locals) : CallW R s args own y.cls index y b maxL ret (Cond.code y b maxL ret :: TBL) (zrm k) 0 0 n :=
  ⟨z_cwB ht h.1 hl hR, ht _ h.2.1, ht _ h.2.2⟩
theorem z_cwS {R : Room} {s : State} {args : Array Value} {own : String} {index : Nat} {y : MethodName} {b : ByteArray} {maxL n k : Nat} {ret : Option FieldType} (ht : ∀ w ∈ TBL, w.before args s = true) (h : zwS y b maxL ret n) (hl : Cond.methodLink own index y ∈ TBL) (hR : k + 1 ≤ R.frames ∧ 8 + (maxL + 11) + (32 * k + 16) ≤ R.locals) : CallB R s args own index y b maxL ret (Cond.code y b maxL ret :: TBL) (zrm k) 0 0 n ∧ (Cond.static y).before args s = true :=
  ⟨z_cwB ht h.1 hl hR, ht _ h.2⟩
end
section
abbrev ws_EN_init : List Cond := Cond.code y_EN_init b_EN_init 1 none :: TBL
theorem w_EN_init : zwB y_EN_init b_EN_init 1 none 0 ∧ Cond.instanceMethod y_EN_init ∈ TBL := ⟨⟨tw_23, tw_1, by decide +kernel⟩, tw_22⟩
abbrev ws_java_lang_Object_init : List Cond := Cond.code y_java_lang_Object_init b_java_lang_Object_init 1 none :: TBL
abbrev ws_Dc_init : List Cond := Cond.code y_Dc_init b_Dc_init 1 none :: TBL
theorem w_Dc_init : zwB y_Dc_init b_Dc_init 1 none 0 ∧ Cond.instanceMethod y_Dc_init ∈ TBL := ⟨⟨tw_31, tw_2, by decide +kernel⟩, tw_30⟩
abbrev ws_Tx_init : List Cond := Cond.code y_Tx_init b_Tx_init 1 none :: TBL
theorem w_Tx_init : zwB y_Tx_init b_Tx_init 1 none 0 ∧ Cond.instanceMethod y_Tx_init ∈ TBL := ⟨⟨tw_48, tw_3, by decide +kernel⟩, tw_47⟩
abbrev ws_EN_show : List Cond := Cond.code y_EN_show b_EN_show 7 (some .int) :: TBL
theorem w_EN_show : zwV y_EN_show b_EN_show 7 (some .int) 5 := ⟨⟨tw_72, tw_1, by decide +kernel⟩, tw_70, tw_71⟩
abbrev ws_EN_refuseOutOfRange : List Cond := Cond.code y_EN_refuseOutOfRange b_EN_refuseOutOfRange 2 none :: TBL
theorem w_EN_refuseOutOfRange : zwS y_EN_refuseOutOfRange b_EN_refuseOutOfRange 2 none 2 := ⟨⟨tw_75, tw_1, by decide +kernel⟩, tw_74⟩
abbrev ws_java_lang_Throwable_init : List Cond := Cond.code y_java_lang_Throwable_init b_java_lang_Throwable_init 1 none :: TBL
theorem w_java_lang_Throwable_init : zwB y_java_lang_Throwable_init b_java_lang_Throwable_init 1 none 0 ∧ Cond.instanceMethod y_java_lang_Throwable_init ∈ TBL := ⟨⟨tw_100, tw_6, by decide +kernel⟩, tw_99⟩
abbrev ws_java_lang_IllegalArgumentException_initS : List Cond := Cond.code y_java_lang_IllegalArgumentException_initS b_java_lang_IllegalArgumentException_initS 2 none :: TBL
theorem w_java_lang_IllegalArgumentException_initS : zwB y_java_lang_IllegalArgumentException_initS b_java_lang_IllegalArgumentException_initS 2 none 1 ∧ Cond.instanceMethod y_java_lang_IllegalArgumentException_initS ∈ TBL := ⟨⟨tw_119, tw_9, by decide +kernel⟩, tw_118⟩
abbrev ws_java_lang_RuntimeException_initS : List Cond := Cond.code y_java_lang_RuntimeException_initS b_java_lang_RuntimeException_initS 2 none :: TBL
theorem w_java_lang_RuntimeException_initS : zwB y_java_lang_RuntimeException_initS b_java_lang_RuntimeException_initS 2 none 1 ∧ Cond.instanceMethod y_java_lang_RuntimeException_initS ∈ TBL := ⟨⟨tw_122, tw_8, by decide +kernel⟩, tw_121⟩
abbrev ws_java_lang_Exception_initS : List Cond := Cond.code y_java_lang_Exception_initS b_java_lang_Exception_initS 2 none :: TBL
theorem w_java_lang_Exception_initS : zwB y_java_lang_Exception_initS b_java_lang_Exception_initS 2 none 1 ∧ Cond.instanceMethod y_java_lang_Exception_initS ∈ TBL := ⟨⟨tw_125, tw_7, by decide +kernel⟩, tw_124⟩
abbrev ws_java_lang_Throwable_initS : List Cond := Cond.code y_java_lang_Throwable_initS b_java_lang_Throwable_initS 2 none :: TBL
theorem w_java_lang_Throwable_initS : zwB y_java_lang_Throwable_initS b_java_lang_Throwable_initS 2 none 1 ∧ Cond.instanceMethod y_java_lang_Throwable_initS ∈ TBL := ⟨⟨tw_128, tw_6, by decide +kernel⟩, tw_127⟩
abbrev ws_EN_present : List Cond := Cond.code y_EN_present b_EN_present 8 (some .int) :: TBL
theorem w_EN_present : zwV y_EN_present b_EN_present 8 (some .int) 6 := ⟨⟨tw_148, tw_1, by decide +kernel⟩, tw_147, tws_1⟩
abbrev ws_Tx_clear : List Cond := Cond.code y_Tx_clear b_Tx_clear 1 none :: TBL
theorem w_Tx_clear : zwV y_Tx_clear b_Tx_clear 1 none 0 := ⟨⟨tw_152, tw_3, by decide +kernel⟩, tw_150, tw_151⟩
abbrev ws_Fm_isFinite : List Cond := Cond.code y_Fm_isFinite b_Fm_isFinite 3 (some .boolean) :: TBL
theorem w_Fm_isFinite : zwV y_Fm_isFinite b_Fm_isFinite 3 (some .boolean) 1 := ⟨⟨tw_156, tw_11, by decide +kernel⟩, tw_154, tw_155⟩
abbrev ws_Fm_exponent : List Cond := Cond.code y_Fm_exponent b_Fm_exponent 3 (some .int) :: TBL
theorem w_Fm_exponent : zwV y_Fm_exponent b_Fm_exponent 3 (some .int) 1 := ⟨⟨tw_161, tw_11, by decide +kernel⟩, tw_159, tws_2⟩
abbrev ws_Fm_isInfinity : List Cond := Cond.code y_Fm_isInfinity b_Fm_isInfinity 3 (some .boolean) :: TBL
theorem w_Fm_isInfinity : zwV y_Fm_isInfinity b_Fm_isInfinity 3 (some .boolean) 1 := ⟨⟨tw_165, tw_11, by decide +kernel⟩, tw_163, tw_164⟩
abbrev ws_Fm_fraction : List Cond := Cond.code y_Fm_fraction b_Fm_fraction 3 (some .long) :: TBL
theorem w_Fm_fraction : zwV y_Fm_fraction b_Fm_fraction 3 (some .long) 1 := ⟨⟨tw_170, tw_11, by decide +kernel⟩, tw_169, tws_3⟩
abbrev ws_Tx_addAll : List Cond := Cond.code y_Tx_addAll b_Tx_addAll 3 none :: TBL
theorem w_Tx_addAll : zwV y_Tx_addAll b_Tx_addAll 3 none 1 := ⟨⟨tw_176, tw_3, by decide +kernel⟩, tw_174, tw_175⟩
abbrev ws_St_length : List Cond := Cond.code y_St_length b_St_length 1 (some .int) :: TBL
theorem w_St_length : zwV y_St_length b_St_length 1 (some .int) 0 := ⟨⟨tw_180, tw_12, by decide +kernel⟩, tw_178, tw_179⟩
abbrev ws_St_coder : List Cond := Cond.code y_St_coder b_St_coder 1 (some .byte) :: TBL
theorem w_St_coder : zwV y_St_coder b_St_coder 1 (some .byte) 0 := ⟨⟨tw_184, tw_12, by decide +kernel⟩, tw_182, tw_183⟩
abbrev ws_St_charAt : List Cond := Cond.code y_St_charAt b_St_charAt 2 (some .char) :: TBL
theorem w_St_charAt : zwV y_St_charAt b_St_charAt 2 (some .char) 1 := ⟨⟨tw_190, tw_12, by decide +kernel⟩, tw_188, tw_189⟩
abbrev ws_St_isLatin1 : List Cond := Cond.code y_St_isLatin1 b_St_isLatin1 1 (some .boolean) :: TBL
theorem w_St_isLatin1 : zwV y_St_isLatin1 b_St_isLatin1 1 (some .boolean) 0 := ⟨⟨tw_194, tw_12, by decide +kernel⟩, tw_192, tw_193⟩
abbrev ws_Sl_charAt : List Cond := Cond.code y_Sl_charAt b_Sl_charAt 2 (some .char) :: TBL
theorem w_Sl_charAt : zwS y_Sl_charAt b_Sl_charAt 2 (some .char) 2 := ⟨⟨tw_197, tw_13, by decide +kernel⟩, tw_196⟩
abbrev ws_St_checkIndex : List Cond := Cond.code y_St_checkIndex b_St_checkIndex 2 none :: TBL
theorem w_St_checkIndex : zwS y_St_checkIndex b_St_checkIndex 2 none 2 := ⟨⟨tw_200, tw_12, by decide +kernel⟩, tw_199⟩
abbrev ws_jdk_internal_util_Preconditions_checkIndex : List Cond := Cond.code y_jdk_internal_util_Preconditions_checkIndex b_jdk_internal_util_Preconditions_checkIndex 3 (some .int) :: TBL
theorem w_jdk_internal_util_Preconditions_checkIndex : zwS y_jdk_internal_util_Preconditions_checkIndex b_jdk_internal_util_Preconditions_checkIndex 3 (some .int) 3 := ⟨⟨tw_205, tw_14, by decide +kernel⟩, tw_204⟩
abbrev ws_java_lang_StringUTF16_charAt : List Cond := Cond.code y_java_lang_StringUTF16_charAt b_java_lang_StringUTF16_charAt 2 (some .char) :: TBL
theorem w_java_lang_StringUTF16_charAt : zwS y_java_lang_StringUTF16_charAt b_java_lang_StringUTF16_charAt 2 (some .char) 2 := ⟨⟨tw_208, tw_15, by decide +kernel⟩, tw_207⟩
abbrev ws_java_lang_StringUTF16_checkIndex : List Cond := Cond.code y_java_lang_StringUTF16_checkIndex b_java_lang_StringUTF16_checkIndex 2 none :: TBL
theorem w_java_lang_StringUTF16_checkIndex : zwS y_java_lang_StringUTF16_checkIndex b_java_lang_StringUTF16_checkIndex 2 none 2 := ⟨⟨tw_211, tw_15, by decide +kernel⟩, tw_210⟩
abbrev ws_java_lang_StringUTF16_length : List Cond := Cond.code y_java_lang_StringUTF16_length b_java_lang_StringUTF16_length 1 (some .int) :: TBL
theorem w_java_lang_StringUTF16_length : zwS y_java_lang_StringUTF16_length b_java_lang_StringUTF16_length 1 (some .int) 1 := ⟨⟨tw_214, tw_15, by decide +kernel⟩, tw_213⟩
abbrev ws_java_lang_StringUTF16_getChar : List Cond := Cond.code y_java_lang_StringUTF16_getChar b_java_lang_StringUTF16_getChar 2 (some .char) :: TBL
theorem w_java_lang_StringUTF16_getChar : zwS y_java_lang_StringUTF16_getChar b_java_lang_StringUTF16_getChar 2 (some .char) 2 := ⟨⟨tw_218, tw_15, by decide +kernel⟩, tw_217⟩
abbrev ws_Tx_add : List Cond := Cond.code y_Tx_add b_Tx_add 2 none :: TBL
theorem w_Tx_add : zwV y_Tx_add b_Tx_add 2 none 1 := ⟨⟨tw_228, tw_3, by decide +kernel⟩, tw_226, tw_227⟩
abbrev ws_Tx_length : List Cond := Cond.code y_Tx_length b_Tx_length 1 (some .int) :: TBL
theorem w_Tx_length : zwV y_Tx_length b_Tx_length 1 (some .int) 0 := ⟨⟨tw_232, tw_3, by decide +kernel⟩, tw_230, tw_231⟩
abbrev ws_Fm_coefficient : List Cond := Cond.code y_Fm_coefficient b_Fm_coefficient 5 (some .long) :: TBL
theorem w_Fm_coefficient : zwV y_Fm_coefficient b_Fm_coefficient 5 (some .long) 1 := ⟨⟨tw_236, tw_11, by decide +kernel⟩, tw_234, tw_235⟩
abbrev ws_Fm_power : List Cond := Cond.code y_Fm_power b_Fm_power 3 (some .int) :: TBL
theorem w_Fm_power : zwV y_Fm_power b_Fm_power 3 (some .int) 1 := ⟨⟨tw_240, tw_11, by decide +kernel⟩, tw_238, tw_239⟩
abbrev ws_Ma_max : List Cond := Cond.code y_Ma_max b_Ma_max 2 (some .int) :: TBL
theorem w_Ma_max : zwS y_Ma_max b_Ma_max 2 (some .int) 2 := ⟨⟨tw_243, tw_16, by decide +kernel⟩, tw_242⟩
abbrev ws_Dc_assign : List Cond := Cond.code y_Dc_assign b_Dc_assign 4 none :: TBL
theorem w_Dc_assign : zwV y_Dc_assign b_Dc_assign 4 none 2 := ⟨⟨tw_247, tw_2, by decide +kernel⟩, tw_245, tw_246⟩
abbrev ws_Dc_assignWhole : List Cond := Cond.code y_Dc_assignWhole b_Dc_assignWhole 3 none :: TBL
theorem w_Dc_assignWhole : zwV y_Dc_assignWhole b_Dc_assignWhole 3 none 1 := ⟨⟨tw_251, tw_2, by decide +kernel⟩, tw_250, tws_4⟩
abbrev ws_Ar_fill : List Cond := Cond.code y_Ar_fill b_Ar_fill 4 none :: TBL
theorem w_Ar_fill : zwS y_Ar_fill b_Ar_fill 4 none 2 := ⟨⟨tw_254, tw_17, by decide +kernel⟩, tw_253⟩
abbrev ws_Dc_scaleByPowerOfTwo : List Cond := Cond.code y_Dc_scaleByPowerOfTwo b_Dc_scaleByPowerOfTwo 3 none :: TBL
theorem w_Dc_scaleByPowerOfTwo : zwV y_Dc_scaleByPowerOfTwo b_Dc_scaleByPowerOfTwo 3 none 1 := ⟨⟨tw_259, tw_2, by decide +kernel⟩, tw_258, tws_5⟩
abbrev ws_Ma_min : List Cond := Cond.code y_Ma_min b_Ma_min 2 (some .int) :: TBL
theorem w_Ma_min : zwS y_Ma_min b_Ma_min 2 (some .int) 2 := ⟨⟨tw_262, tw_16, by decide +kernel⟩, tw_261⟩
abbrev ws_Dc_multiplyByPowerOfTwo : List Cond := Cond.code y_Dc_multiplyByPowerOfTwo b_Dc_multiplyByPowerOfTwo 7 none :: TBL
theorem w_Dc_multiplyByPowerOfTwo : zwV y_Dc_multiplyByPowerOfTwo b_Dc_multiplyByPowerOfTwo 7 none 1 := ⟨⟨tw_266, tw_2, by decide +kernel⟩, tw_265, tws_6⟩
abbrev ws_Dc_divideByPowerOfTwo : List Cond := Cond.code y_Dc_divideByPowerOfTwo b_Dc_divideByPowerOfTwo 10 none :: TBL
theorem w_Dc_divideByPowerOfTwo : zwV y_Dc_divideByPowerOfTwo b_Dc_divideByPowerOfTwo 10 none 1 := ⟨⟨tw_270, tw_2, by decide +kernel⟩, tw_269, tws_7⟩
abbrev ws_Dc_leadingPlace : List Cond := Cond.code y_Dc_leadingPlace b_Dc_leadingPlace 3 (some .int) :: TBL
theorem w_Dc_leadingPlace : zwV y_Dc_leadingPlace b_Dc_leadingPlace 3 (some .int) 0 := ⟨⟨tw_274, tw_2, by decide +kernel⟩, tw_272, tw_273⟩
abbrev ws_Dc_roundAt : List Cond := Cond.code y_Dc_roundAt b_Dc_roundAt 2 none :: TBL
theorem w_Dc_roundAt : zwV y_Dc_roundAt b_Dc_roundAt 2 none 1 := ⟨⟨tw_280, tw_2, by decide +kernel⟩, tw_278, tw_279⟩
abbrev ws_Dc_digitAt : List Cond := Cond.code y_Dc_digitAt b_Dc_digitAt 3 (some .int) :: TBL
theorem w_Dc_digitAt : zwV y_Dc_digitAt b_Dc_digitAt 3 (some .int) 1 := ⟨⟨tw_284, tw_2, by decide +kernel⟩, tw_282, tw_283⟩
abbrev ws_Dc_limbOf : List Cond := Cond.code y_Dc_limbOf b_Dc_limbOf 1 (some .int) :: TBL
theorem w_Dc_limbOf : zwS y_Dc_limbOf b_Dc_limbOf 1 (some .int) 1 := ⟨⟨tw_287, tw_2, by decide +kernel⟩, tw_286⟩
abbrev ws_Ma_floorDiv : List Cond := Cond.code y_Ma_floorDiv b_Ma_floorDiv 3 (some .int) :: TBL
theorem w_Ma_floorDiv : zwS y_Ma_floorDiv b_Ma_floorDiv 3 (some .int) 2 := ⟨⟨tw_290, tw_16, by decide +kernel⟩, tw_289⟩
abbrev ws_Dc_placeInLimb : List Cond := Cond.code y_Dc_placeInLimb b_Dc_placeInLimb 1 (some .int) :: TBL
theorem w_Dc_placeInLimb : zwS y_Dc_placeInLimb b_Dc_placeInLimb 1 (some .int) 1 := ⟨⟨tw_293, tw_2, by decide +kernel⟩, tw_292⟩
abbrev ws_Ma_floorMod : List Cond := Cond.code y_Ma_floorMod b_Ma_floorMod 3 (some .int) :: TBL
theorem w_Ma_floorMod : zwS y_Ma_floorMod b_Ma_floorMod 3 (some .int) 2 := ⟨⟨tw_296, tw_16, by decide +kernel⟩, tw_295⟩
abbrev ws_Dc_addOneAt : List Cond := Cond.code y_Dc_addOneAt b_Dc_addOneAt 6 none :: TBL
theorem w_Dc_addOneAt : zwV y_Dc_addOneAt b_Dc_addOneAt 6 none 1 := ⟨⟨tw_300, tw_2, by decide +kernel⟩, tw_299, tws_8⟩
abbrev ws_EN_writeScientific : List Cond := Cond.code y_EN_writeScientific b_EN_writeScientific 4 none :: TBL
theorem w_EN_writeScientific : zwV y_EN_writeScientific b_EN_writeScientific 4 none 2 := ⟨⟨tw_305, tw_1, by decide +kernel⟩, tw_304, tws_9⟩
abbrev ws_EN_writeDigit : List Cond := Cond.code y_EN_writeDigit b_EN_writeDigit 2 none :: TBL
theorem w_EN_writeDigit : zwV y_EN_writeDigit b_EN_writeDigit 2 none 1 := ⟨⟨tw_310, tw_1, by decide +kernel⟩, tw_309, tws_10⟩
abbrev ws_EN_writeBehindPoint : List Cond := Cond.code y_EN_writeBehindPoint b_EN_writeBehindPoint 5 none :: TBL
theorem w_EN_writeBehindPoint : zwV y_EN_writeBehindPoint b_EN_writeBehindPoint 5 none 3 := ⟨⟨tw_315, tw_1, by decide +kernel⟩, tw_314, tws_11⟩
abbrev ws_EN_writeExponent : List Cond := Cond.code y_EN_writeExponent b_EN_writeExponent 3 none :: TBL
theorem w_EN_writeExponent : zwV y_EN_writeExponent b_EN_writeExponent 3 none 1 := ⟨⟨tw_319, tw_1, by decide +kernel⟩, tw_318, tws_12⟩
abbrev ws_Ma_abs : List Cond := Cond.code y_Ma_abs b_Ma_abs 1 (some .int) :: TBL
theorem w_Ma_abs : zwS y_Ma_abs b_Ma_abs 1 (some .int) 1 := ⟨⟨tw_322, tw_16, by decide +kernel⟩, tw_321⟩
abbrev ws_EN_writeFixed : List Cond := Cond.code y_EN_writeFixed b_EN_writeFixed 5 none :: TBL
theorem w_EN_writeFixed : zwV y_EN_writeFixed b_EN_writeFixed 5 none 3 := ⟨⟨tw_326, tw_1, by decide +kernel⟩, tw_325, tws_13⟩
abbrev ws_EN_writeShorter : List Cond := Cond.code y_EN_writeShorter b_EN_writeShorter 4 none :: TBL
theorem w_EN_writeShorter : zwV y_EN_writeShorter b_EN_writeShorter 4 none 2 := ⟨⟨tw_331, tw_1, by decide +kernel⟩, tw_330, tws_14⟩
abbrev ws_EN_showFloat : List Cond := Cond.code y_EN_showFloat b_EN_showFloat 6 (some .int) :: TBL
theorem w_EN_showFloat : zwV y_EN_showFloat b_EN_showFloat 6 (some .int) 5 := ⟨⟨tw_338, tw_1, by decide +kernel⟩, tw_336, tw_337⟩
abbrev ws_EN_word : List Cond := Cond.code y_EN_word b_EN_word 2 (some .long) :: TBL
theorem w_EN_word : zwV y_EN_word b_EN_word 2 (some .long) 1 := ⟨⟨tw_348, tw_1, by decide +kernel⟩, tw_346, tw_347⟩
abbrev ws_java_lang_IndexOutOfBoundsException_initS : List Cond := Cond.code y_java_lang_IndexOutOfBoundsException_initS b_java_lang_IndexOutOfBoundsException_initS 2 none :: TBL
theorem w_java_lang_IndexOutOfBoundsException_initS : zwB y_java_lang_IndexOutOfBoundsException_initS b_java_lang_IndexOutOfBoundsException_initS 2 none 1 ∧ Cond.instanceMethod y_java_lang_IndexOutOfBoundsException_initS ∈ TBL := ⟨⟨tw_361, tw_18, by decide +kernel⟩, tw_360⟩
abbrev ws_Tx_eightFrom : List Cond := Cond.code y_Tx_eightFrom b_Tx_eightFrom 6 (some .long) :: TBL
theorem w_Tx_eightFrom : zwV y_Tx_eightFrom b_Tx_eightFrom 6 (some .long) 1 := ⟨⟨tw_368, tw_3, by decide +kernel⟩, tw_366, tw_367⟩
abbrev ws_Mo_init : List Cond := Cond.code y_Mo_init b_Mo_init 1 none :: TBL
theorem w_Mo_init : zwB y_Mo_init b_Mo_init 1 none 0 ∧ Cond.instanceMethod y_Mo_init ∈ TBL := ⟨⟨tw_373, tw_4, by decide +kernel⟩, tw_372⟩
abbrev ws_Rw_init : List Cond := Cond.code y_Rw_init b_Rw_init 1 none :: TBL
theorem w_Rw_init : zwB y_Rw_init b_Rw_init 1 none 0 ∧ Cond.instanceMethod y_Rw_init ∈ TBL := ⟨⟨tw_379, tw_5, by decide +kernel⟩, tw_378⟩
abbrev ws_Mo_thrown : List Cond := Cond.code y_Mo_thrown b_Mo_thrown 1 (some .int) :: TBL
theorem w_Mo_thrown : zwV y_Mo_thrown b_Mo_thrown 1 (some .int) 0 := ⟨⟨tw_430, tw_4, by decide +kernel⟩, tw_428, tw_429⟩
abbrev ws_Mo_word : List Cond := Cond.code y_Mo_word b_Mo_word 5 (some .long) :: TBL
theorem w_Mo_word : zwV y_Mo_word b_Mo_word 5 (some .long) 1 := ⟨⟨tw_434, tw_4, by decide +kernel⟩, tw_432, tw_433⟩
abbrev ws_Mo_good : List Cond := Cond.code y_Mo_good b_Mo_good 3 (some .boolean) :: TBL
theorem w_Mo_good : zwV y_Mo_good b_Mo_good 3 (some .boolean) 2 := ⟨⟨tw_438, tw_4, by decide +kernel⟩, tw_437, tws_15⟩
abbrev ws_Mo_show : List Cond := Cond.code y_Mo_show b_Mo_show 7 (some .int) :: TBL
theorem w_Mo_show : zwV y_Mo_show b_Mo_show 7 (some .int) 5 := ⟨⟨tw_443, tw_4, by decide +kernel⟩, tw_441, tw_442⟩
abbrev ws_Mo_kind : List Cond := Cond.code y_Mo_kind b_Mo_kind 2 none :: TBL
theorem w_Mo_kind : zwV y_Mo_kind b_Mo_kind 2 none 1 := ⟨⟨tw_447, tw_4, by decide +kernel⟩, tw_446, tws_16⟩
abbrev ws_Mo_shown : List Cond := Cond.code y_Mo_shown b_Mo_shown 11 (some .int) :: TBL
theorem w_Mo_shown : zwV y_Mo_shown b_Mo_shown 11 (some .int) 5 := ⟨⟨tw_451, tw_4, by decide +kernel⟩, tw_450, tws_17⟩
abbrev ws_Mo_sign : List Cond := Cond.code y_Mo_sign b_Mo_sign 1 (some .long) :: TBL
theorem w_Mo_sign : zwV y_Mo_sign b_Mo_sign 1 (some .long) 0 := ⟨⟨tw_455, tw_4, by decide +kernel⟩, tw_454, tws_18⟩
abbrev ws_Mo_infinity : List Cond := Cond.code y_Mo_infinity b_Mo_infinity 1 (some .long) :: TBL
theorem w_Mo_infinity : zwV y_Mo_infinity b_Mo_infinity 1 (some .long) 0 := ⟨⟨tw_463, tw_4, by decide +kernel⟩, tw_462, tws_19⟩
abbrev ws_Mo_isNone : List Cond := Cond.code y_Mo_isNone b_Mo_isNone 3 (some .boolean) :: TBL
theorem w_Mo_isNone : zwV y_Mo_isNone b_Mo_isNone 3 (some .boolean) 1 := ⟨⟨tw_469, tw_4, by decide +kernel⟩, tw_468, tws_20⟩
abbrev ws_Mo_add : List Cond := Cond.code y_Mo_add b_Mo_add 2 none :: TBL
theorem w_Mo_add : zwV y_Mo_add b_Mo_add 2 none 1 := ⟨⟨tw_477, tw_4, by decide +kernel⟩, tw_476, tws_21⟩
abbrev ws_Mo_c : List Cond := Cond.code y_Mo_c b_Mo_c 5 (some .long) :: TBL
theorem w_Mo_c : zwV y_Mo_c b_Mo_c 5 (some .long) 1 := ⟨⟨tw_481, tw_4, by decide +kernel⟩, tw_480, tws_22⟩
abbrev ws_Mo_fraction : List Cond := Cond.code y_Mo_fraction b_Mo_fraction 1 (some .long) :: TBL
theorem w_Mo_fraction : zwV y_Mo_fraction b_Mo_fraction 1 (some .long) 0 := ⟨⟨tw_485, tw_4, by decide +kernel⟩, tw_484, tws_23⟩
abbrev ws_Mo_q : List Cond := Cond.code y_Mo_q b_Mo_q 5 (some .int) :: TBL
theorem w_Mo_q : zwV y_Mo_q b_Mo_q 5 (some .int) 1 := ⟨⟨tw_489, tw_4, by decide +kernel⟩, tw_488, tws_24⟩
abbrev ws_Mo_row : List Cond := Cond.code y_Mo_row b_Mo_row 9 none :: TBL
theorem w_Mo_row : zwV y_Mo_row b_Mo_row 9 none 3 := ⟨⟨tw_493, tw_4, by decide +kernel⟩, tw_492, tws_25⟩
abbrev ws_Mo_times : List Cond := Cond.code y_Mo_times b_Mo_times 6 none :: TBL
theorem w_Mo_times : zwV y_Mo_times b_Mo_times 6 none 1 := ⟨⟨tw_499, tw_4, by decide +kernel⟩, tw_498, tws_26⟩
abbrev ws_Mo_scientific : List Cond := Cond.code y_Mo_scientific b_Mo_scientific 6 none :: TBL
theorem w_Mo_scientific : zwV y_Mo_scientific b_Mo_scientific 6 none 3 := ⟨⟨tw_507, tw_4, by decide +kernel⟩, tw_506, tws_27⟩
abbrev ws_Mo_rounded : List Cond := Cond.code y_Mo_rounded b_Mo_rounded 5 none :: TBL
theorem w_Mo_rounded : zwV y_Mo_rounded b_Mo_rounded 5 none 2 := ⟨⟨tw_511, tw_4, by decide +kernel⟩, tw_510, tws_28⟩
abbrev ws_Mo_more : List Cond := Cond.code y_Mo_more b_Mo_more 3 none :: TBL
theorem w_Mo_more : zwS y_Mo_more b_Mo_more 3 none 1 := ⟨⟨tw_514, tw_4, by decide +kernel⟩, tw_513⟩
abbrev ws_Mo_digit : List Cond := Cond.code y_Mo_digit b_Mo_digit 2 (some .int) :: TBL
theorem w_Mo_digit : zwS y_Mo_digit b_Mo_digit 2 (some .int) 2 := ⟨⟨tw_517, tw_4, by decide +kernel⟩, tw_516⟩
abbrev ws_Mo_fixed : List Cond := Cond.code y_Mo_fixed b_Mo_fixed 10 none :: TBL
theorem w_Mo_fixed : zwV y_Mo_fixed b_Mo_fixed 10 none 4 := ⟨⟨tw_521, tw_4, by decide +kernel⟩, tw_520, tws_29⟩
abbrev ws_Mo_general : List Cond := Cond.code y_Mo_general b_Mo_general 6 none :: TBL
theorem w_Mo_general : zwV y_Mo_general b_Mo_general 6 none 3 := ⟨⟨tw_525, tw_4, by decide +kernel⟩, tw_524, tws_30⟩
abbrev ws_Mo_showFloat : List Cond := Cond.code y_Mo_showFloat b_Mo_showFloat 6 (some .int) :: TBL
theorem w_Mo_showFloat : zwV y_Mo_showFloat b_Mo_showFloat 6 (some .int) 5 := ⟨⟨tw_529, tw_4, by decide +kernel⟩, tw_527, tw_528⟩
end
section
/-! what a state of the class is: the value (scaled by 10^1080) and the text -/
/-- the value of the first n limbs, the highest first -/
def pv (f : Int → Int) : Nat → Int
  | 0 => 0
  | n + 1 => pv f n * 1000000000 + f (n : Int)
def DecOK (f : Int → Int) (fi lt V : Int) : Prop := (0 ≤ fi ∧ fi ≤ lt ∧ lt ≤ 154) ∧ (∀ j, 0 ≤ f j ∧ f j < 1000000000) ∧ (∀ j, j < fi ∨ lt < j → f j = 0) ∧ pv f 155 = V
def TxOK (g : Int → Int) (n : Int) (tx : List Int) : Prop := n = (tx.length : Int) ∧ tx.length ≤ 1612 ∧ (∀ i : Nat, i < tx.length → g (i : Int) = tx.getD i 0) ∧ ∀ ch ∈ tx, 0 ≤ ch ∧ ch < 128
def AX (x d la t ba : Nat) : Nat → Prop := fun q => q = x ∨ q = d ∨ q = la ∨ q = t ∨ q = ba
abbrev tysX (cI cB : ClassId) : List (ClassId × FieldType) := [(cI, .int), (cB, .byte)]
/-- the table of powers of ten, the constants of the enum -/
def nmF : List String := ["DOUBLE", "FLOAT"]
def flF : List (String × String × String × List Int32) := [("ExactNotation$Format", "fractionBits", "I", [52, 23]), ("ExactNotation$Format", "exponentOnes", "I", [2047, 255]), ("ExactNotation$Format", "leastPower", "I", [-1074, -149])]
def tenTo : Nat → Value := fun j => .int (iz (10 ^ j))
def STX (A : Nat → Prop) (tt : Nat) (ad : Nat → Nat) (U : State) (H : Heap) : Prop := va_Z "ExactNotation$Decimal" "TEN_TO" "[I" (.ref tt) A U H ∧ va_T .int tt 9 tenTo A U H ∧ va_En "ExactNotation$Format" "LExactNotation$Format;" nmF flF ad A U H
theorem STX.moved {A : Nat → Prop} {tt : Nat} {ad : Nat → Nat} {u U : State} {H : Heap} (hv : u.vm.Alike U.vm) (h : STX A tt ad u H) : STX A tt ad U H := ⟨va_Z.moved hv h.1, va_T.moved hv h.2.1, va_En.moved hv h.2.2⟩
theorem STX.kept {A : Nat → Prop} {tt : Nat} {ad : Nat → Nat} {U : State} {H H1 : Heap} (h : STX A tt ad U H) (hq : ∀ a : Nat, a < H.size → ¬ A a → H1[a]? = H[a]?) : STX A tt ad U H1 := ⟨h.1.kept hq, h.2.1.kept hq, h.2.2.kept hq⟩
def XL (D : va_G) (cI cB : ClassId) (x d la t ba tt : Nat) (ad : Nat → Nat) (V lt : Int) (tx : List Int) (U : State) (H : Heap) : Prop :=
  ∃ (f : Int → Int) (fi : Int) (g : Int → Int) (n : Int), Wl D vwCl (tysX cI cB) (AX x d la t ba) [(x, .inr (0, [.ref d, .ref t])), (d, .inr (1, [.ref la, .int (iz fi), .int (iz lt)])), (la, .inl (cI, 155, .inl (az f))), (t, .inr (2, [.ref ba, .int (iz n)])), (ba, .inl (cB, 1612, .inl (az g)))] U H ∧ DecOK f fi lt V ∧ TxOK g n tx ∧ STX (AX x d la t ba) tt ad U H
theorem XL.moved {D : va_G} {cI cB : ClassId} {x d la t ba tt : Nat} {ad : Nat → Nat} {V lt : Int} {tx : List Int} {u U : State} {H : Heap} (hv : u.vm.Alike U.vm) (h : XL D cI cB x d la t ba tt ad V lt tx u H) : XL D cI cB x d la t ba tt ad V lt tx U H := by
  obtain ⟨f, fi, g, n, h1, h2, h3, h4⟩ := h
  exact ⟨f, fi, g, n, Wl.moved hv h1, h2, h3, STX.moved hv h4⟩
theorem XL.st {D : va_G} {cI cB : ClassId} {x d la t ba tt : Nat} {ad : Nat → Nat} {V lt : Int} {tx : List Int} {U : State} {H : Heap} (h : XL D cI cB x d la t ba tt ad V lt tx U H) : STX (AX x d la t ba) tt ad U H := by
  obtain ⟨f, fi, g, n, h1, h2, h3, h4⟩ := h
  exact h4
theorem zSa_XL {D : va_G} {cI cB : ClassId} {x d la t ba tt : Nat} {ad : Nat → Nat} {V lt : Int} {tx : List Int} : zSa (XL D cI cB x d la t ba tt ad V lt tx) := fun _ _ _ hv h => XL.moved hv h
theorem zSt_XL {D : va_G} {cI cB : ClassId} {x d la t ba tt : Nat} {ad : Nat → Nat} {V lt : Int} {tx : List Int} : zSt (XL D cI cB x d la t ba tt ad V lt tx) := zSt_of zSa_XL
def XW (D : va_G) (cI cB : ClassId) (x d la t ba tt : Nat) (ad : Nat → Nat) (V : Int) (tx : List Int) (U : State) (H : Heap) : Prop := ∃ lt : Int, XL D cI cB x d la t ba tt ad V lt tx U H
theorem XW.moved {D : va_G} {cI cB : ClassId} {x d la t ba tt : Nat} {ad : Nat → Nat} {V : Int} {tx : List Int} {u U : State} {H : Heap} (hv : u.vm.Alike U.vm) (h : XW D cI cB x d la t ba tt ad V tx u H) : XW D cI cB x d la t ba tt ad V tx U H := ⟨h.choose, XL.moved hv h.choose_spec⟩
theorem XW.st {D : va_G} {cI cB : ClassId} {x d la t ba tt : Nat} {ad : Nat → Nat} {V : Int} {tx : List Int} {U : State} {H : Heap} (h : XW D cI cB x d la t ba tt ad V tx U H) : STX (AX x d la t ba) tt ad U H := h.choose_spec.st
theorem zSa_XW {D : va_G} {cI cB : ClassId} {x d la t ba tt : Nat} {ad : Nat → Nat} {V : Int} {tx : List Int} : zSa (XW D cI cB x d la t ba tt ad V tx) := fun _ _ _ hv h => XW.moved hv h
theorem zSt_XW {D : va_G} {cI cB : ClassId} {x d la t ba tt : Nat} {ad : Nat → Nat} {V : Int} {tx : List Int} : zSt (XW D cI cB x d la t ba tt ad V tx) := zSt_of zSa_XW
theorem XL.recv {D : va_G} {cI cB : ClassId} {x d la t ba tt : Nat} {ad : Nat → Nat} {V lt : Int} {tx : List Int} {U : State} {H : Heap} (h : XL D cI cB x d la t ba tt ad V lt tx U H) : ∃ cell : Cell, H[d]? = some cell ∧ cell.vm.isStatics = false ∧ U.vm.findClass "ExactNotation$Decimal" = some cell.cls := by
  obtain ⟨f, fi, g, n, ⟨hK, hP, hD⟩, h2, h3, h4⟩ := h
  exact va_recv hK hP (ci := 1) (q0 := 1) rfl rfl
/-! limbs -/
theorem pv_congr {f g : Int → Int} : ∀ {n : Nat}, (∀ j : Int, 0 ≤ j → j < (n : Int) → f j = g j) → pv f n = pv g n
  | 0, _ => rfl
  | n + 1, h => by
    show pv f n * 1000000000 + f (n : Int) = pv g n * 1000000000 + g (n : Int)
    rw [pv_congr (n := n) (fun j h0 h1 => h j h0 (by omega)), h (n : Int) (by omega) (by omega)]
theorem pv_up {f : Int → Int} {k : Nat} {x : Int} : ∀ (i : Nat), pv (up f (k : Int) x) (k + 1 + i) = pv f (k + 1 + i) + (x - f (k : Int)) * 1000000000 ^ i
  | 0 => by
    show pv (up f (k : Int) x) k * 1000000000 + up f (k : Int) x (k : Int) = pv f k * 1000000000 + f (k : Int) + (x - f (k : Int)) * 1000000000 ^ 0
    rw [up_s, pv_congr (f := up f (k : Int) x) (g := f) (fun j h0 h1 => up_n f x (by omega)), Int.pow_zero]
    omega
  | i + 1 => by
    show pv (up f (k : Int) x) (k + 1 + i) * 1000000000 + up f (k : Int) x ((k + 1 + i : Nat) : Int) = pv f (k + 1 + i) * 1000000000 + f ((k + 1 + i : Nat) : Int) + (x - f (k : Int)) * 1000000000 ^ (i + 1)
    rw [pv_up i, up_n f x (by omega), Int.pow_succ]
    generalize pv f (k + 1 + i) = a
    generalize f ((k + 1 + i : Nat) : Int) = b
    generalize (1000000000 : Int) ^ i = z
    generalize x - f (k : Int) = y
    rw [Int.add_mul, Int.mul_assoc]
    omega
/-- one limb of the 155 changed -/
theorem pv_up155 {f : Int → Int} {k : Nat} {x : Int} (hk : k < 155) : pv (up f (k : Int) x) 155 = pv f 155 + (x - f (k : Int)) * 1000000000 ^ (154 - k) := by
  have h := pv_up (f := f) (k := k) (x := x) (154 - k)
  rwa [show k + 1 + (154 - k) = 155 by omega] at h
theorem pv_nn {f : Int → Int} (h : ∀ j, 0 ≤ f j ∧ f j < 1000000000) : ∀ n, 0 ≤ pv f n ∧ pv f n < 1000000000 ^ n
  | 0 => ⟨Int.le_refl 0, by show (0 : Int) < 1; decide⟩
  | n + 1 => by
    show 0 ≤ pv f n * 1000000000 + f (n : Int) ∧ pv f n * 1000000000 + f (n : Int) < 1000000000 ^ (n + 1)
    have h1 := pv_nn h n
    have h2 := h (n : Int)
    rw [Int.pow_succ]
    generalize (1000000000 : Int) ^ n = z at h1 ⊢
    omega
theorem pv_zero {f : Int → Int} : ∀ {n : Nat}, (∀ j : Int, 0 ≤ j → j < (n : Int) → f j = 0) → pv f n = 0
  | 0, _ => rfl
  | n + 1, h => by
    show pv f n * 1000000000 + f (n : Int) = 0
    rw [pv_zero (n := n) (fun j h0 h1 => h j h0 (by omega)), h (n : Int) (by omega) (by omega)]
    rfl
theorem pv_tail {f : Int → Int} {k : Nat} : ∀ (i : Nat), (∀ j : Int, (k : Int) ≤ j → j < ((k + i : Nat) : Int) → f j = 0) → pv f (k + i) = pv f k * 1000000000 ^ i
  | 0, _ => by rw [Int.pow_zero, Int.mul_one]; rfl
  | i + 1, h => by
    show pv f (k + i) * 1000000000 + f ((k + i : Nat) : Int) = _
    rw [pv_tail i (fun j h0 h1 => h j h0 (by omega)), h _ (by omega) (by omega), Int.pow_succ, Int.add_zero, Int.mul_assoc]
/-- the first k limbs and the rest -/
theorem pv_split {f : Int → Int} (hf : ∀ j, 0 ≤ f j ∧ f j < 1000000000) {k : Nat} : ∀ (i : Nat), ∃ r, pv f (k + i) = pv f k * 1000000000 ^ i + r ∧ 0 ≤ r ∧ r < 1000000000 ^ i
  | 0 => ⟨0, by rw [Int.pow_zero, Int.mul_one, Int.add_zero]; rfl, Int.le_refl 0, by decide⟩
  | i + 1 => by
    obtain ⟨r, h1, h2, h3⟩ := pv_split hf (k := k) i
    have h4 := hf ((k + i : Nat) : Int)
    refine ⟨r * 1000000000 + f ((k + i : Nat) : Int), ?_, ?_, ?_⟩
    · show pv f (k + i) * 1000000000 + f ((k + i : Nat) : Int) = _
      rw [h1, Int.pow_succ, Int.add_mul, Int.mul_assoc, Int.add_assoc]
    · omega
    · rw [Int.pow_succ]
      generalize (1000000000 : Int) ^ i = z at h3 ⊢
      omega
theorem pow_pos10 (n : Nat) : (0 : Int) < 10 ^ n := Int.pow_pos (by decide)
theorem powB (n : Nat) : (1000000000 : Int) ^ n = 10 ^ (9 * n) := by
  rw [Int.pow_mul]
  rfl
/-! digits: the place k of V, that is scaled by 10^1080 -/
def dgt (V k : Int) : Int := if k < -1080 then 0 else V / 10 ^ (k + 1080).toNat % 10
def IsLead (V r : Int) : Prop := (V = 0 ∧ r = 0) ∨ (-1080 ≤ r ∧ 10 ^ (r + 1080).toNat ≤ V ∧ V < 10 ^ ((r + 1080).toNat + 1))
theorem dgt_r (V k : Int) : 0 ≤ dgt V k ∧ dgt V k ≤ 9 := by
  unfold dgt
  split
  · omega
  · omega
theorem pow10_le {a b : Nat} (h : a ≤ b) : (10 : Int) ^ a ≤ 10 ^ b := by
  have e : b = a + (b - a) := by omega
  rw [e, Int.pow_add]
  have h1 := pow_pos10 a
  have h2 := pow_pos10 (b - a)
  generalize (10 : Int) ^ a = u at *
  generalize (10 : Int) ^ (b - a) = w at *
  calc u = u * 1 := (Int.mul_one u).symm
    _ ≤ u * w := Int.mul_le_mul_of_nonneg_left h2 (Int.le_of_lt h1)
theorem IsLead.uniq {V r q : Int} (h1 : IsLead V r) (h2 : IsLead V q) : r = q := by
  rcases h1 with ⟨a, b⟩ | ⟨a, b, c⟩
  · rcases h2 with ⟨a2, b2⟩ | ⟨a2, b2, c2⟩
    · omega
    · have := pow_pos10 (q + 1080).toNat
      omega
  · rcases h2 with ⟨a2, b2⟩ | ⟨a2, b2, c2⟩
    · have := pow_pos10 (r + 1080).toNat
      omega
    · by_cases hlt : r < q
      · have := pow10_le (a := (r + 1080).toNat + 1) (b := (q + 1080).toNat) (by omega)
        omega
      · by_cases hgt : q < r
        · have := pow10_le (a := (q + 1080).toNat + 1) (b := (r + 1080).toNat) (by omega)
          omega
        · omega
theorem div_pow_lt {V : Int} {n : Nat} (h0 : 0 ≤ V) (h : V < 10 ^ n) : V / 10 ^ n = 0 := Int.ediv_eq_zero_of_lt h0 h
/-- a digit of a limb -/
theorem dgt_limb {f : Int → Int} (hf : ∀ j, 0 ≤ f j ∧ f j < 1000000000) {k w : Nat} (hk : k < 155) (hw : w < 9) : pv f 155 / 10 ^ (9 * (154 - k) + w) % 10 = f (k : Int) / 10 ^ w % 10 := by
  obtain ⟨r, h1, h2, h3⟩ := pv_split hf (k := k + 1) (154 - k)
  rw [show k + 1 + (154 - k) = 155 by omega] at h1
  rw [h1, Int.pow_add, ← powB]
  have h4 : (pv f (k + 1) * 1000000000 ^ (154 - k) + r) / (1000000000 ^ (154 - k) * 10 ^ w) = pv f (k + 1) / 10 ^ w := by
    have hp : (0 : Int) < 1000000000 ^ (154 - k) := Int.pow_pos (by decide)
    rw [← Int.ediv_ediv_of_nonneg (Int.le_of_lt hp), Int.add_comm, Int.add_mul_ediv_right _ _ (by omega), Int.ediv_eq_zero_of_lt h2 h3, Int.zero_add]
  rw [h4]
  show (pv f k * 1000000000 + f (k : Int)) / 10 ^ w % 10 = _
  have hw' : w = 0 ∨ w = 1 ∨ w = 2 ∨ w = 3 ∨ w = 4 ∨ w = 5 ∨ w = 6 ∨ w = 7 ∨ w = 8 := by omega
  generalize pv f k = a
  generalize f (k : Int) = b
  rcases hw' with h | h | h | h | h | h | h | h | h <;> subst h <;> omega
end
section
section ZMore
variable {p : Program} {l : Launch} {e : Env} {R : Room} {s : State} {m : MethodId} {args : Array Value} {below : List Frame} {meth : Method} {c : Code} {H H0 : Heap} {locs : List Loc} {cells slots : Nat} {Q : State → Prop} {cc : ByteArray} {pc : Nat} {ls : Array Slot} {rest st0 : List Value} {A : Nat → Prop}
theorem z_mmin (hx : p.tables.exec = Jvm.exec) (hb : c.code = cc) (hml : c.maxLocals = ls.size) {own : String} {index : Nat} (hown : s.vm.findClass own = some m.cls) (hlink : (Cond.methodLink own index Lib.Math.min.name).before args s = true) (hstat : (Cond.static Lib.Math.min.name).before args s = true) (hini : (Cond.initialized "java/lang/Math").before args s = true) (hcode : (Cond.code Lib.Math.min.name Lib.Math.min.code 2 (some .int)).before args s = true)
    (hframes : 1 ≤ R.frames) (hlocals : (rest.map fun v => v.category).sum + 13 ≤ R.locals) (hc : cells ≤ R.cells) (hs : slots ≤ R.slots) {a b : Int} (ha : iR a) (hb2 : iR b) (hdg : decode cc pc = .ok (.invokestatic index, 3))
    (kk : W p l e R s m args below meth c H locs cells slots Q (F0 m (pc + 3) ls (.int (iz (min a b)) :: rest))) : W p l e R s m args below meth c H locs cells slots Q (F0 m pc ls (.int (iz b) :: .int (iz a) :: rest)) := by
  refine va_mmin hx hb hml hown hlink hstat hini hcode hframes hlocals hc hs hdg ?_
  rw [show (if iz b < iz a then iz b else iz a) = iz (min a b) by
    by_cases h : b < a
    · rw [if_pos ((iz_lt hb2 ha).mpr h), show min a b = b by omega]
    · rw [if_neg (fun h2 => h ((iz_lt hb2 ha).mp h2)), show min a b = a by omega]]
  exact kk
theorem z_mmax (hx : p.tables.exec = Jvm.exec) (hb : c.code = cc) (hml : c.maxLocals = ls.size) {own : String} {index : Nat} (hown : s.vm.findClass own = some m.cls) (hlink : (Cond.methodLink own index Lib.Math.max.name).before args s = true) (hstat : (Cond.static Lib.Math.max.name).before args s = true) (hini : (Cond.initialized "java/lang/Math").before args s = true) (hcode : (Cond.code Lib.Math.max.name Lib.Math.max.code 2 (some .int)).before args s = true)
    (hframes : 1 ≤ R.frames) (hlocals : (rest.map fun v => v.category).sum + 13 ≤ R.locals) (hc : cells ≤ R.cells) (hs : slots ≤ R.slots) {a b : Int} (ha : iR a) (hb2 : iR b) (hdg : decode cc pc = .ok (.invokestatic index, 3))
    (kk : W p l e R s m args below meth c H locs cells slots Q (F0 m (pc + 3) ls (.int (iz (max a b)) :: rest))) : W p l e R s m args below meth c H locs cells slots Q (F0 m pc ls (.int (iz b) :: .int (iz a) :: rest)) := by
  refine va_mmax hx hb hml hown hlink hstat hini hcode hframes hlocals hc hs hdg ?_
  rw [show (if iz a < iz b then iz b else iz a) = iz (max a b) by
    by_cases h : a < b
    · rw [if_pos ((iz_lt ha hb2).mpr h), show max a b = b by omega]
    · rw [if_neg (fun h2 => h ((iz_lt ha hb2).mp h2)), show max a b = a by omega]]
  exact kk
theorem z_mabs (hx : p.tables.exec = Jvm.exec) (hb : c.code = cc) (hml : c.maxLocals = ls.size) {own : String} {index : Nat} (hown : s.vm.findClass own = some m.cls) (hlink : (Cond.methodLink own index Lib.Math.abs.name).before args s = true) (hstat : (Cond.static Lib.Math.abs.name).before args s = true) (hini : (Cond.initialized "java/lang/Math").before args s = true) (hcode : (Cond.code Lib.Math.abs.name Lib.Math.abs.code 1 (some .int)).before args s = true)
    (hframes : 1 ≤ R.frames) (hlocals : (rest.map fun v => v.category).sum + 13 ≤ R.locals) (hc : cells ≤ R.cells) (hs : slots ≤ R.slots) {a : Int} (ha : iR a) (hdg : decode cc pc = .ok (.invokestatic index, 3))
    (kk : W p l e R s m args below meth c H locs cells slots Q (F0 m (pc + 3) ls (.int (iz (max a (-a))) :: rest))) : W p l e R s m args below meth c H locs cells slots Q (F0 m pc ls (.int (iz a) :: rest)) := by
  refine va_mabs hx hb hml hown hlink hstat hini hcode hframes hlocals hc hs hdg ?_
  rw [show (if 0 ≤ iz a then iz a else 0 - iz a) = iz (max a (-a)) by
    by_cases h : 0 ≤ a
    · rw [if_pos (by rw [← iz_0]; exact (iz_le ⟨by omega, by omega⟩ ha).mpr h), show max a (-a) = a by omega]
    · rw [if_neg (fun h2 => h (by rw [← iz_0] at h2; exact (iz_le ⟨by omega, by omega⟩ ha).mp h2)), show max a (-a) = 0 - a by omega, iz_sub, iz_0]]
  exact kk
theorem z_ten {tt : Nat} (hx : p.tables.exec = Jvm.exec) (hb : c.code = cc) (hT : va_T .int tt 9 tenTo A s s.heap) (hS : va_S A s.heap H locs) {i : Int} (h0 : 0 ≤ i) (h1 : i < 9) (hdg : decode cc pc = .ok (.iaload, 1))
    (kk : W p l e R s m args below meth c H locs cells slots Q (F0 m (pc + 1) ls (.int (iz (10 ^ i.toNat)) :: rest))) : W p l e R s m args below meth c H locs cells slots Q (F0 m pc ls (.int (iz i) :: .ref tt :: rest)) :=
  va_ti hx hb hT hS (iz_in h0 (by omega) (by decide)) (by rw [iz_cl h0 (by omega)]; rfl) hdg kk
end ZMore
/-- a result, and what holds behind the call -/
def zR (r : Option Value) (P : State → Heap → Prop) : Option Value → State → Heap → Prop := fun v U H => v = r ∧ P U H
theorem zR_st {r v : Option Value} {P : State → Heap → Prop} (h : zSt P) : zSt (zR r P v) := fun u U H hv q => ⟨q.1, h u U H hv q.2⟩
/-! the text -/
theorem TxOK_add {g : Int → Int} {n : Int} {tx : List Int} {ch : Int} (h : TxOK g n tx) (hl : tx.length < 1612) (hc : 0 ≤ ch ∧ ch < 128) : TxOK (up g n ch) (n + 1) (tx ++ [ch]) := by
  obtain ⟨h1, h2, h3, h4⟩ := h
  refine ⟨by rw [List.length_append, h1]; rfl, by rw [List.length_append]; show tx.length + 1 ≤ 1612; omega, fun i hi => ?_, fun c hm => ?_⟩
  · rw [List.length_append] at hi
    have hi : i < tx.length + 1 := hi
    by_cases hq : i = tx.length
    · subst hq
      rw [h1, up_s]
      simp [List.getD]
    · rw [up_n g ch (by omega), h3 i (by omega)]
      simp only [List.getD]
      rw [List.getElem?_append_left (by omega)]
  · rcases List.mem_append.mp hm with q | q
    · exact h4 c q
    · rw [List.mem_singleton] at q
      subst q
      exact hc
theorem TxOK_nil {g : Int → Int} : TxOK g 0 [] := ⟨rfl, by decide, fun i h => absurd h (Nat.not_lt_zero _), fun c h => by cases h⟩
/-- eight bytes -/
def w8 (tx : List Int) (st : Nat) : Nat → Int
  | 0 => 0
  | j + 1 => w8 tx st j * 2 ^ 8 + tx.getD (st + j) 0
theorem tx_getD {tx : List Int} (h : ∀ ch ∈ tx, 0 ≤ ch ∧ ch < 128) (i : Nat) : 0 ≤ tx.getD i 0 ∧ tx.getD i 0 < 128 := by
  simp only [List.getD]
  cases hq : tx[i]? with
  | none => exact ⟨by decide, by decide⟩
  | some y => exact h y (List.mem_of_getElem? hq)
theorem w8_b {tx : List Int} (h : ∀ ch ∈ tx, 0 ≤ ch ∧ ch < 128) (st : Nat) : ∀ j : Nat, 0 ≤ w8 tx st j ∧ (w8 tx st j = 0 ∨ 2 * w8 tx st j < 256 ^ j)
  | 0 => ⟨Int.le_refl 0, Or.inl rfl⟩
  | j + 1 => by
    show 0 ≤ w8 tx st j * 2 ^ 8 + tx.getD (st + j) 0 ∧ (_ ∨ 2 * (w8 tx st j * 2 ^ 8 + tx.getD (st + j) 0) < 256 ^ (j + 1))
    have h1 := w8_b h st j
    have h2 := tx_getD h (st + j)
    rw [Int.pow_succ 256 j]
    have h3 : (0 : Int) < 256 ^ j := Int.pow_pos (by decide)
    generalize (256 : Int) ^ j = z at h1 h3 ⊢
    refine ⟨by omega, Or.inr ?_⟩
    rcases h1.2 with h4 | h4
    · rw [h4]; omega
    · omega
theorem w8_le {tx : List Int} (h : ∀ ch ∈ tx, 0 ≤ ch ∧ ch < 128) (st : Nat) {j : Nat} (hj : j ≤ 7) : 0 ≤ w8 tx st j ∧ w8 tx st j < 36028797018963968 := by
  have h1 := w8_b h st j
  have h2 : (256 : Int) ^ j ≤ 256 ^ 7 := by
    have hj' : j = 0 ∨ j = 1 ∨ j = 2 ∨ j = 3 ∨ j = 4 ∨ j = 5 ∨ j = 6 ∨ j = 7 := by omega
    rcases hj' with h | h | h | h | h | h | h | h <;> subst h <;> decide
  have h3 : (256 : Int) ^ 7 = 72057594037927936 := by decide
  omega
/-! digits of the limbs -/
theorem dgt_pv {f : Int → Int} (hf : ∀ j, 0 ≤ f j ∧ f j < 1000000000) {pl : Int} (h0 : 0 ≤ 34 - pl / 9) (h1 : 34 - pl / 9 ≤ 154) : dgt (pv f 155) pl = f (34 - pl / 9) / 10 ^ (pl % 9).toNat % 10 := by
  obtain ⟨k, hk⟩ := Int.eq_ofNat_of_zero_le h0
  have h := dgt_limb hf (k := k) (w := (pl % 9).toNat) (by omega) (by omega)
  rw [hk, ← h]
  unfold dgt
  rw [if_neg (by omega), show (pl + 1080).toNat = 9 * (154 - k) + (pl % 9).toNat by omega]
theorem pow10_lt {a b : Nat} (h : a < b) : (10 : Int) ^ a < 10 ^ b := by
  have h1 := pow10_le (a := a + 1) (b := b) h
  have h2 := pow_pos10 a
  rw [Int.pow_succ] at h1
  omega
theorem dgt_hi {V pl : Int} {n : Nat} (h0 : 0 ≤ V) (hV : V < 10 ^ n) (hn : (n : Int) ≤ pl + 1080) : dgt V pl = 0 := by
  unfold dgt
  rw [if_neg (by omega)]
  have h1 := pow10_le (a := n) (b := (pl + 1080).toNat) (by omega)
  rw [Int.ediv_eq_zero_of_lt h0 (by omega)]
  rfl
theorem pv_lt155 {f : Int → Int} (hf : ∀ j, 0 ≤ f j ∧ f j < 1000000000) : 0 ≤ pv f 155 ∧ pv f 155 < 10 ^ 1395 := by
  have h := pv_nn hf 155
  rw [powB] at h
  exact h
theorem dgt_out {f : Int → Int} (hf : ∀ j, 0 ≤ f j ∧ f j < 1000000000) {fi lt pl : Int} (hz : ∀ j, j < fi ∨ lt < j → f j = 0) (h : 34 - pl / 9 < fi ∨ lt < 34 - pl / 9) : dgt (pv f 155) pl = 0 := by
  by_cases h0 : 34 - pl / 9 < 0
  · exact dgt_hi (n := 1395) (pv_lt155 hf).1 (pv_lt155 hf).2 (by omega)
  · by_cases h1 : 154 < 34 - pl / 9
    · unfold dgt
      rw [if_pos (by omega)]
    · rw [dgt_pv hf (by omega) (by omega), hz _ h, Int.zero_ediv]
      rfl
theorem lead_at {f : Int → Int} (hf : ∀ j, 0 ≤ f j ∧ f j < 1000000000) {i w : Int} (hi : 0 ≤ i ∧ i ≤ 154) (hw : 0 ≤ w ∧ w ≤ 8) (hz : ∀ j, j < i → f j = 0) (h1 : 10 ^ w.toNat ≤ f i) (h2 : f i < 10 ^ (w + 1).toNat) : IsLead (pv f 155) ((34 - i) * 9 + w) := by
  obtain ⟨k, rfl⟩ := Int.eq_ofNat_of_zero_le hi.1
  obtain ⟨u, rfl⟩ := Int.eq_ofNat_of_zero_le hw.1
  obtain ⟨r, e1, e2, e3⟩ := pv_split hf (k := k + 1) (154 - k)
  rw [show k + 1 + (154 - k) = 155 by omega] at e1
  have e4 : pv f (k + 1) = f (k : Int) := by
    show pv f k * 1000000000 + f (k : Int) = _
    rw [pv_zero (fun j _ hj => hz j hj)]
    omega
  rw [e4] at e1
  refine Or.inr ⟨by omega, ?_, ?_⟩
  · rw [show ((34 - (k : Int)) * 9 + (u : Int) + 1080).toNat = 9 * (154 - k) + u by omega, Int.pow_add, ← powB, e1]
    have hp : (0 : Int) < 1000000000 ^ (154 - k) := Int.pow_pos (by decide)
    rw [Int.toNat_natCast] at h1
    have := Int.mul_le_mul_of_nonneg_left h1 (Int.le_of_lt hp)
    rw [Int.mul_comm (f (k : Int))]
    omega
  · rw [show ((34 - (k : Int)) * 9 + (u : Int) + 1080).toNat + 1 = 9 * (154 - k) + (u + 1) by omega, Int.pow_add, ← powB, e1]
    have hp : (0 : Int) < 1000000000 ^ (154 - k) := Int.pow_pos (by decide)
    rw [show ((u : Int) + 1).toNat = u + 1 by omega] at h2
    have := Int.mul_le_mul_of_nonneg_left (show f (k : Int) + 1 ≤ 10 ^ (u + 1) by omega) (Int.le_of_lt hp)
    rw [Int.mul_comm (f (k : Int))]
    rw [Int.mul_add, Int.mul_one] at this
    omega
theorem lead_none {f : Int → Int} {fi lt : Int} (hlt : lt ≤ 154) (hz : ∀ j, j < fi ∨ lt < j → f j = 0) (h : ∀ j, fi ≤ j → j ≤ lt → f j = 0) : IsLead (pv f 155) 0 := Or.inl ⟨pv_zero (fun j _ _ => by
  by_cases h1 : j < fi
  · exact hz j (Or.inl h1)
  · by_cases h2 : lt < j
    · exact hz j (Or.inr h2)
    · exact h j (by omega) (by omega)), rfl⟩
end
section
/-! multiplication by a power of two, limb by limb from the last -/
def MulI (f g : Int → Int) (P V fi lt i cy : Int) : Prop := (fi - 1 ≤ i ∧ i ≤ lt) ∧ (0 ≤ cy ∧ cy < P) ∧ (∀ j, 0 ≤ g j ∧ g j < 1000000000) ∧ (∀ j, j ≤ i ∨ lt < j → g j = f j) ∧ pv g 155 + (cy + (P - 1) * pv f (i + 1).toNat) * 1000000000 ^ (154 - i).toNat = P * V
theorem MulI.start {f : Int → Int} {P V fi lt : Int} (h : DecOK f fi lt V) (hP : 0 < P) : MulI f f P V fi lt lt 0 := by
  obtain ⟨h1, h2, h3, h4⟩ := h
  refine ⟨⟨by omega, by omega⟩, ⟨by omega, hP⟩, h2, fun _ _ => rfl, ?_⟩
  obtain ⟨k, rfl⟩ := Int.eq_ofNat_of_zero_le (show 0 ≤ lt by omega)
  have h5 := pv_tail (f := f) (k := k + 1) (154 - k) (fun j hj _ => h3 j (Or.inr (by omega)))
  rw [show k + 1 + (154 - k) = 155 by omega, h4] at h5
  rw [show ((k : Int) + 1).toNat = k + 1 by omega, show (154 - (k : Int)).toNat = 154 - k by omega, h4, Int.zero_add, Int.mul_assoc, ← h5, Int.sub_mul, Int.one_mul]
  omega
theorem mul_b {a P : Int} (ha : 0 ≤ a ∧ a < 1000000000) (hP : 0 < P ∧ P ≤ 536870912) : 0 ≤ a * P ∧ a * P ≤ 536870912000000000 := by
  refine ⟨Int.mul_nonneg ha.1 (by omega), ?_⟩
  have := Int.mul_le_mul (show a ≤ 1000000000 by omega) hP.2 (by omega) (by decide)
  omega
theorem mul_c {a P cy : Int} (ha : 0 ≤ a ∧ a < 1000000000) (hP : 0 < P) (hc : 0 ≤ cy ∧ cy < P) : 0 ≤ (a * P + cy) / 1000000000 ∧ (a * P + cy) / 1000000000 < P := by
  have h1 : 0 ≤ a * P := Int.mul_nonneg ha.1 (by omega)
  have h2 : a * P ≤ 999999999 * P := Int.mul_le_mul_of_nonneg_right (by omega) (by omega)
  omega
theorem MulI.step {f g : Int → Int} {P V fi lt i cy : Int} (h : MulI f g P V fi lt i cy) (hP : 0 < P) (h0 : fi ≤ i) (hf : 0 ≤ fi) (hl : lt ≤ 154) : MulI f (up g i (g i * P + cy - (g i * P + cy) / 1000000000 * 1000000000)) P V fi lt (i - 1) ((g i * P + cy) / 1000000000) := by
  obtain ⟨h1, h2, h3, h4, h5⟩ := h
  refine ⟨⟨by omega, by omega⟩, mul_c (h3 i) hP h2, fun j => ?_, fun j hj => ?_, ?_⟩
  · by_cases hq : j = i
    · subst hq
      rw [up_s]
      generalize g j * P + cy = z
      omega
    · rw [up_n _ _ hq]
      exact h3 j
  · rw [up_n _ _ (by omega)]
    exact h4 j (by omega)
  · obtain ⟨k, rfl⟩ := Int.eq_ofNat_of_zero_le (show 0 ≤ i by omega)
    rw [pv_up155 (by omega), show ((k : Int) - 1 + 1).toNat = k by omega, show (154 - ((k : Int) - 1)).toNat = 154 - k + 1 by omega]
    rw [show ((k : Int) + 1).toNat = k + 1 by omega, show (154 - (k : Int)).toNat = 154 - k by omega, ← show pv f k * 1000000000 + f (k : Int) = pv f (k + 1) from rfl] at h5
    rw [Int.pow_succ, ← h5, h4 (k : Int) (by omega)]
    generalize (f (k : Int) * P + cy) / 1000000000 = q
    generalize (1000000000 : Int) ^ (154 - k) = z
    generalize pv f k = a
    generalize f (k : Int) = b
    generalize pv g 155 = y
    grind
theorem MulI.stop0 {f g : Int → Int} {P V fi lt : Int} (h : MulI f g P V fi lt (fi - 1) 0) (hd : DecOK f fi lt V) : DecOK g fi lt (P * V) := by
  obtain ⟨h1, h2, h3, h4, h5⟩ := h
  obtain ⟨d1, d2, d3, d4⟩ := hd
  refine ⟨d1, h3, fun j hj => by rw [h4 j (by omega)]; exact d3 j hj, ?_⟩
  rw [← h5, pv_zero (f := f) (n := (fi - 1 + 1).toNat) (fun j _ hj => d3 j (Or.inl (by omega)))]
  simp
theorem MulI.stop1 {f g : Int → Int} {P V fi lt cy : Int} (h : MulI f g P V fi lt (fi - 1) cy) (hd : DecOK f fi lt V) (hf : 0 < fi) (hc : cy < 1000000000) : DecOK (up g (fi - 1) cy) (fi - 1) lt (P * V) := by
  obtain ⟨h1, h2, h3, h4, h5⟩ := h
  obtain ⟨d1, d2, d3, d4⟩ := hd
  refine ⟨⟨by omega, by omega, by omega⟩, fun j => ?_, fun j hj => ?_, ?_⟩
  · by_cases hq : j = fi - 1
    · rw [hq, up_s]; omega
    · rw [up_n _ _ hq]; exact h3 j
  · rw [up_n _ _ (by omega), h4 j (by omega)]
    exact d3 j (by omega)
  · obtain ⟨k, hk⟩ := Int.eq_ofNat_of_zero_le (show 0 ≤ fi - 1 by omega)
    rw [hk] at h5 ⊢
    rw [pv_up155 (by omega), ← h5, pv_zero (f := f) (n := ((k : Int) + 1).toNat) (fun j _ hj => d3 j (Or.inl (by omega))), show (154 - (k : Int)).toNat = 154 - k by omega, h4 (k : Int) (by omega), d3 (k : Int) (by omega)]
    simp
theorem MulI.top {f g : Int → Int} {P V lt cy : Int} (h : MulI f g P V 0 lt (-1) cy) (hV : P * V < 1000000000 ^ 155) : cy = 0 := by
  obtain ⟨h1, h2, h3, h4, h5⟩ := h
  have h6 := (pv_nn h3 155).1
  by_cases hc : cy = 0
  · exact hc
  · exfalso
    rw [show ((-1 : Int) + 1).toNat = 0 by decide, show (154 - (-1 : Int)).toNat = 155 by decide] at h5
    have h7 : (cy + (P - 1) * pv f 0) = cy := by
      show cy + (P - 1) * 0 = cy
      omega
    rw [h7] at h5
    have hp : (0 : Int) < 1000000000 ^ 155 := Int.pow_pos (by decide)
    have h8 := Int.mul_le_mul_of_nonneg_right (show 1 ≤ cy by omega) (Int.le_of_lt hp)
    generalize (1000000000 : Int) ^ 155 = z at h5 hV h8
    omega
/-! division by a power of two, limb by limb from the first -/
def DivI (f g : Int → Int) (P fi i r : Int) : Prop := fi ≤ i ∧ (0 ≤ r ∧ r < P) ∧ (∀ j, 0 ≤ g j ∧ g j < 1000000000) ∧ (∀ j, j < fi ∨ i ≤ j → g j = f j) ∧ pv f i.toNat = P * pv g i.toNat + r
theorem DivI.start {f : Int → Int} {P V fi lt : Int} (h : DecOK f fi lt V) (hP : 0 < P) : DivI f f P fi fi 0 := by
  obtain ⟨h1, h2, h3, h4⟩ := h
  refine ⟨by omega, ⟨by omega, hP⟩, h2, fun _ _ => rfl, ?_⟩
  rw [pv_zero (fun j _ hj => h3 j (Or.inl (by omega)))]
  simp
theorem div_b {r P a : Int} (hr : 0 ≤ r ∧ r < P) (hP : P ≤ 134217728) (ha : 0 ≤ a ∧ a < 1000000000) : 0 ≤ r * 1000000000 + a ∧ r * 1000000000 + a ≤ 134217728000000000 := by omega
theorem DivI.step {f g : Int → Int} {P fi i r : Int} (h : DivI f g P fi i r) (hP : 0 < P) (h0 : 0 ≤ fi) : DivI f (up g i ((r * 1000000000 + g i) / P)) P fi (i + 1) ((r * 1000000000 + g i) % P) := by
  obtain ⟨h1, h2, h3, h4, h5⟩ := h
  have hb : r * 1000000000 + g i < P * 1000000000 := by
    have := h3 i
    have h6 : (r + 1) * 1000000000 ≤ P * 1000000000 := Int.mul_le_mul_of_nonneg_right (by omega) (by decide)
    omega
  have ha : 0 ≤ r * 1000000000 + g i := by have := h3 i; omega
  refine ⟨by omega, ⟨Int.emod_nonneg _ (by omega), Int.emod_lt_of_pos _ hP⟩, fun j => ?_, fun j hj => ?_, ?_⟩
  · by_cases hq : j = i
    · rw [hq, up_s]
      refine ⟨Int.ediv_nonneg ha (by omega), Int.ediv_lt_of_lt_mul hP ?_⟩
      rw [Int.mul_comm 1000000000 P]; exact hb
    · rw [up_n _ _ hq]; exact h3 j
  · rw [up_n _ _ (by omega)]
    exact h4 j (by omega)
  · obtain ⟨k, rfl⟩ := Int.eq_ofNat_of_zero_le (show 0 ≤ i by omega)
    rw [show ((k : Int) + 1).toNat = k + 1 by omega]
    rw [Int.toNat_natCast] at h5
    show pv f k * 1000000000 + f (k : Int) = P * (pv (up g (k : Int) _) k * 1000000000 + up g (k : Int) _ (k : Int)) + _
    rw [up_s, pv_congr (f := up g (k : Int) _) (g := g) (fun j _ hj => up_n g _ (by omega)), h5, ← h4 (k : Int) (by omega)]
    have e := Int.mul_ediv_add_emod (r * 1000000000 + g (k : Int)) P
    generalize (r * 1000000000 + g (k : Int)) / P = q at e ⊢
    generalize (r * 1000000000 + g (k : Int)) % P = u at e ⊢
    generalize pv g k = a at e ⊢
    generalize g (k : Int) = b at e ⊢
    grind
theorem pow2_dvd : ∀ b : Nat, b < 28 → (1000000000 : Int) ^ ((b + 8) / 9) % 2 ^ b = 0 := by decide +kernel
theorem DivI.stop {f g : Int → Int} {P V fi lt r : Int} {b : Nat} (hd : DecOK f fi lt V) (hb : b < 28) (hP : P = 2 ^ b) (hl : lt + ((b + 8) / 9 : Nat) ≤ 154) (h : DivI f g P fi (lt + ((b + 8) / 9 : Nat) + 1) r) : ∃ V', P * V' = V ∧ DecOK g fi (lt + ((b + 8) / 9 : Nat)) V' := by
  obtain ⟨h1, h2, h3, h4, h5⟩ := h
  obtain ⟨d1, d2, d3, d4⟩ := hd
  have hPp : 0 < P := by omega
  obtain ⟨k, rfl⟩ := Int.eq_ofNat_of_zero_le (show 0 ≤ lt by omega)
  have hm := pow2_dvd b hb
  rw [← hP] at hm
  generalize (b + 8) / 9 = w at *
  rw [show ((k : Int) + (w : Int) + 1).toNat = k + 1 + w by omega] at h5
  have e1 := pv_tail (f := f) (k := k + 1) w (fun j hj _ => d3 j (Or.inr (by omega)))
  have hr : r = 0 := by
    have e2 : (P * pv g (k + 1 + w) + r) % P = r := by
      rw [Int.add_comm, Int.add_mul_emod_self_left]
      exact Int.emod_eq_of_lt h2.1 h2.2
    rw [← h5, e1, Int.mul_emod, hm, Int.mul_zero, Int.zero_emod] at e2
    exact e2.symm
  have gz : ∀ j, j < fi ∨ (k : Int) + (w : Int) < j → g j = 0 := fun j hj => by
    rw [h4 j (by omega)]
    exact d3 j (by omega)
  refine ⟨pv g 155, ?_, ⟨by omega, by omega, by omega⟩, h3, gz, rfl⟩
  have e3 := pv_tail (f := g) (k := k + 1 + w) (154 - k - w) (fun j hj _ => gz j (Or.inr (by omega)))
  have e4 := pv_tail (f := f) (k := k + 1 + w) (154 - k - w) (fun j hj _ => d3 j (Or.inr (by omega)))
  rw [show k + 1 + w + (154 - k - w) = 155 by omega] at e3 e4
  rw [e3, ← d4, e4, h5, hr, Int.add_zero, Int.mul_assoc]
theorem DecOK.next {f : Int → Int} {fi lt V : Int} (h : DecOK f fi lt V) (hz : f fi = 0) (hl : fi < lt) : DecOK f (fi + 1) lt V := by
  obtain ⟨h1, h2, h3, h4⟩ := h
  refine ⟨⟨by omega, by omega, by omega⟩, h2, fun j hj => ?_, h4⟩
  by_cases hq : j = fi
  · rw [hq]; exact hz
  · exact h3 j (by omega)
/-! one more at a place -/
def AddI (g : Int → Int) (fi lt V i mo : Int) : Prop := (0 ≤ mo ∧ mo ≤ 100000000) ∧ (-1 ≤ i ∧ i ≤ lt) ∧ (0 ≤ fi ∧ fi ≤ lt ∧ lt ≤ 154) ∧ (∀ j, 0 ≤ g j ∧ g j < 1000000000) ∧ (∀ j, j < fi ∨ lt < j → g j = 0) ∧ pv g 155 + mo * 1000000000 ^ (154 - i).toNat = V
theorem AddI.start {f : Int → Int} {fi lt V pl : Int} (h : DecOK f fi lt V) (h1 : 34 - pl / 9 ≤ lt) (h0 : 0 ≤ 34 - pl / 9) : AddI f fi lt (V + 10 ^ (pl + 1080).toNat) (34 - pl / 9) (10 ^ (pl % 9).toNat) := by
  obtain ⟨d1, d2, d3, d4⟩ := h
  have hw : (10 : Int) ^ (pl % 9).toNat ≤ 10 ^ 8 := pow10_le (by omega)
  have hw2 := pow_pos10 (pl % 9).toNat
  have hw3 : (10 : Int) ^ 8 = 100000000 := by decide
  refine ⟨⟨by omega, by omega⟩, ⟨by omega, by omega⟩, d1, d2, d3, ?_⟩
  rw [d4, powB, ← Int.pow_add, show (pl + 1080).toNat = (pl % 9).toNat + 9 * (154 - (34 - pl / 9)).toNat by omega]
theorem AddI.step {g : Int → Int} {fi lt V i mo y m2 : Int} (h : AddI g fi lt V i mo) (h0 : 0 ≤ i) (hy : 0 ≤ y ∧ y < 1000000000) (hm : 0 ≤ m2 ∧ m2 ≤ 100000000) (he : y + m2 * 1000000000 = g i + mo) : AddI (up g i y) (min fi i) lt V (i - 1) m2 := by
  obtain ⟨h1, h2, h3, h4, h5, h6⟩ := h
  refine ⟨hm, ⟨by omega, by omega⟩, ⟨by omega, by omega, by omega⟩, fun j => ?_, fun j hj => ?_, ?_⟩
  · by_cases hq : j = i
    · rw [hq, up_s]; exact hy
    · rw [up_n _ _ hq]; exact h4 j
  · rw [up_n _ _ (by omega)]
    exact h5 j (by omega)
  · obtain ⟨k, rfl⟩ := Int.eq_ofNat_of_zero_le h0
    rw [pv_up155 (by omega), ← h6, show (154 - ((k : Int) - 1)).toNat = 154 - k + 1 by omega, show (154 - (k : Int)).toNat = 154 - k by omega, Int.pow_succ]
    generalize (1000000000 : Int) ^ (154 - k) = z
    generalize pv g 155 = u
    generalize g (k : Int) = b at he ⊢
    have e : y = b + mo - m2 * 1000000000 := by omega
    subst e
    grind
theorem AddI.stop {g : Int → Int} {fi lt V i : Int} (h : AddI g fi lt V i 0) : DecOK g fi lt V := by
  obtain ⟨h1, h2, h3, h4, h5, h6⟩ := h
  refine ⟨h3, h4, h5, ?_⟩
  rw [← h6]
  simp
theorem AddI.top {g : Int → Int} {fi lt V mo : Int} (h : AddI g fi lt V (-1) mo) (hV : V < 1000000000 ^ 155) : mo = 0 := by
  obtain ⟨h1, h2, h3, h4, h5, h6⟩ := h
  by_cases hc : mo = 0
  · exact hc
  · exfalso
    have h7 := (pv_nn h4 155).1
    rw [show (154 - (-1 : Int)).toNat = 155 by decide] at h6
    have hp : (0 : Int) < 1000000000 ^ 155 := Int.pow_pos (by decide)
    have h8 := Int.mul_le_mul_of_nonneg_right (show 1 ≤ mo by omega) (Int.le_of_lt hp)
    generalize (1000000000 : Int) ^ 155 = z at h6 hV h8
    omega
theorem pow10_8 {w : Int} (h : w ≤ 8) : 0 < (10 : Int) ^ w.toNat ∧ (10 : Int) ^ w.toNat ≤ 100000000 := by
  have h1 := pow10_le (a := w.toNat) (b := 8) (by omega)
  have h2 : (10 : Int) ^ 8 = 100000000 := by decide
  exact ⟨pow_pos10 _, by omega⟩
theorem pow2_29 {b : Nat} (h : b ≤ 29) : 0 < (2 : Int) ^ b ∧ (2 : Int) ^ b ≤ 536870912 := by
  have h1 : ∀ b : Nat, b < 30 → 0 < (2 : Int) ^ b ∧ (2 : Int) ^ b ≤ 536870912 := by decide +kernel
  exact h1 b (by omega)
theorem pow2_27 {b : Nat} (h : b ≤ 27) : 0 < (2 : Int) ^ b ∧ (2 : Int) ^ b ≤ 134217728 := by
  have h1 : ∀ b : Nat, b < 28 → 0 < (2 : Int) ^ b ∧ (2 : Int) ^ b ≤ 134217728 := by decide +kernel
  exact h1 b (by omega)
/-- what rounding at a place makes of the value: the digits below stay -/
def rup (V pl : Int) : Int := if 5 ≤ dgt V (pl - 1) then V + 10 ^ (pl + 1080).toNat else V
theorem rup_pl {V pl : Int} (h0 : 0 ≤ V) (hV : V < 10 ^ 1389) (h : 5 ≤ dgt V (pl - 1)) : -1079 ≤ pl ∧ pl ≤ 314 := by
  constructor
  · by_cases hq : -1079 ≤ pl
    · exact hq
    · exfalso
      unfold dgt at h
      rw [if_pos (by omega)] at h
      omega
  · by_cases hq : pl ≤ 309
    · omega
    · exfalso
      rw [dgt_hi (n := 1389) h0 hV (by omega)] at h
      omega
theorem rup_lt {V pl : Int} (h0 : 0 ≤ V) (hV : V < 10 ^ 1389) (h : 5 ≤ dgt V (pl - 1)) : V + 10 ^ (pl + 1080).toNat < 1000000000 ^ 155 := by
  have h1 := rup_pl h0 hV h
  have h2 := pow10_le (a := (pl + 1080).toNat) (b := 1394) (by omega)
  have h3 := pow10_le (a := 1389) (b := 1394) (by omega)
  have h4 : (1000000000 : Int) ^ 155 = 10 ^ 1394 * 10 := by rw [powB, ← Int.pow_succ]
  have h5 := pow_pos10 1394
  rw [h4]
  generalize (10 : Int) ^ 1394 = z at *
  generalize (10 : Int) ^ 1389 = y at *
  omega
theorem pow2_pos (n : Nat) : (0 : Int) < 2 ^ n := Int.pow_pos (by decide)
theorem scale_up {left V2 Y : Int} (h : 0 < left) (hv : V2 * 2 ^ left.toNat = Y) : 2 ^ (min left 29).toNat * V2 * 2 ^ (left - 29).toNat = Y := by
  rw [← hv, show left.toNat = (min left 29).toNat + (left - 29).toNat by omega, Int.pow_add]
  generalize (2 : Int) ^ (min left 29).toNat = a
  generalize (2 : Int) ^ (left - 29).toNat = b
  grind
theorem le_mul_pow2 {a : Int} (n : Nat) (h : 0 ≤ a) : a ≤ a * 2 ^ n := by
  have h1 := pow2_pos n
  calc a = a * 1 := (Int.mul_one a).symm
    _ ≤ a * 2 ^ n := Int.mul_le_mul_of_nonneg_left h1 h
theorem scale_lt {left V2 W q : Int} (h : 0 < left) (hl : q ≤ 0 → left = q) (hv : V2 * 2 ^ left.toNat = W * 2 ^ (-q).toNat) (hWb : 0 ≤ q → W < 1000000000 ^ 155) (hW0 : 0 ≤ W) : 2 ^ (min left 29).toNat * V2 < 1000000000 ^ 155 := by
  have hq : 0 < q := by
    by_cases h1 : 0 < q
    · exact h1
    · have := hl (by omega)
      omega
  have h1 := scale_up h hv
  rw [show (-q).toNat = 0 by omega, Int.pow_zero, Int.mul_one] at h1
  have h2 := hWb (by omega)
  by_cases h3 : 0 ≤ 2 ^ (min left 29).toNat * V2
  · have h4 := le_mul_pow2 (left - 29).toNat h3
    rw [h1] at h4
    exact Int.lt_of_le_of_lt h4 h2
  · have h5 : (0 : Int) < 1000000000 ^ 155 := Int.pow_pos (by decide)
    generalize (1000000000 : Int) ^ 155 = z at *
    omega
theorem scale_dn {left V2 W : Int} (h : 0 < left) (hv : V2 = W * 2 ^ left.toNat) : 2 ^ (min left 27).toNat * (W * 2 ^ (left - 27).toNat) = V2 := by
  rw [hv, show left.toNat = (min left 27).toNat + (left - 27).toNat by omega, Int.pow_add]
  generalize (2 : Int) ^ (min left 27).toNat = a
  generalize (2 : Int) ^ (left - 27).toNat = b
  grind
theorem assign_0 {wc W q : Int} (h : wc = 0) (hv : wc * 10 ^ 1080 * 2 ^ q.toNat = W * 2 ^ (-q).toNat) : W = 0 := by
  rw [h, Int.zero_mul, Int.zero_mul] at hv
  have h1 := pow2_pos (-q).toNat
  rcases Int.mul_eq_zero.mp hv.symm with h2 | h2
  · exact h2
  · omega
theorem whole_ok {wc : Int} (h : 0 ≤ wc ∧ wc ≤ 18014398509481983) : DecOK (up (up (fun _ => 0) 34 (wc % 1000000000)) 33 (wc / 1000000000)) 33 34 (wc * 10 ^ 1080) := by
  refine ⟨⟨by omega, by omega, by omega⟩, fun j => ?_, fun j hj => ?_, ?_⟩
  · by_cases h1 : j = 33
    · rw [h1, up_s]; omega
    · rw [up_n _ _ h1]
      by_cases h2 : j = 34
      · rw [h2, up_s]; omega
      · rw [up_n _ _ h2]; omega
  · rw [up_n _ _ (by omega), up_n _ _ (by omega)]
  · have e1 := pv_up155 (f := up (fun _ => 0) 34 (wc % 1000000000)) (k := 33) (x := wc / 1000000000) (by decide)
    have e2 := pv_up155 (f := fun _ => 0) (k := 34) (x := wc % 1000000000) (by decide)
    have e3 : pv (fun _ => 0) 155 = 0 := pv_zero (fun _ _ _ => rfl)
    rw [e3] at e2
    have e4 : up (fun _ => (0 : Int)) 34 (wc % 1000000000) ((33 : Nat) : Int) = 0 := up_n _ _ (by decide)
    rw [e4] at e1
    have e5 : pv (up (up (fun _ => 0) 34 (wc % 1000000000)) 33 (wc / 1000000000)) 155 = pv (up (up (fun _ => 0) ((34 : Nat) : Int) (wc % 1000000000)) ((33 : Nat) : Int) (wc / 1000000000)) 155 := rfl
    rw [e5]
    have e6 : pv (up (up (fun _ => 0) ((34 : Nat) : Int) (wc % 1000000000)) ((33 : Nat) : Int) (wc / 1000000000)) 155 = 0 + (wc % 1000000000 - 0) * 1000000000 ^ (154 - 34) + (wc / 1000000000 - 0) * 1000000000 ^ (154 - 33) := by
      rw [← e2]; exact e1
    rw [e6]
    have e7 : (1000000000 : Int) ^ (154 - 33) = 1000000000 ^ (154 - 34) * 1000000000 := by rw [← Int.pow_succ]
    have e8 : (10 : Int) ^ 1080 = 1000000000 ^ (154 - 34) := by rw [powB]
    rw [e7, e8]
    generalize (1000000000 : Int) ^ (154 - 34) = z
    have e9 := Int.emod_add_mul_ediv wc 1000000000
    generalize wc % 1000000000 = a at *
    generalize wc / 1000000000 = b at *
    rw [← e9]
    grind
/-! what is written -/
def dl (V fp : Int) : Nat → List Int
  | 0 => []
  | i + 1 => dl V fp i ++ [48 + dgt V (fp - (i : Int))]
def dotL (cn : Nat) (pt : Int) : List Int := if 0 < cn ∨ pt ≠ 0 then [46] else []
def behL (V fp : Int) (cn : Nat) (pt : Int) : List Int := dotL cn pt ++ dl V fp cn
def expL (r : Int) : List Int := [101] ++ ([if r < 0 then 45 else 43] ++ ((if 100 ≤ max r (-r) then [48 + max r (-r) / 100] else []) ++ ([48 + max r (-r) / 10 % 10] ++ [48 + max r (-r) % 10])))
def ipC (V gr : Int) : Nat → List Int
  | 0 => [48 + dgt V 0]
  | k + 1 => [48 + dgt V ((k : Int) + 1)] ++ ((if gr ≠ 0 ∧ (k + 1) % 3 = 0 then [44] else []) ++ ipC V gr k)
def ipR (V gr k : Int) : List Int := if k < 0 then [] else ipC V gr k.toNat
def sciL (V r : Int) (cn : Nat) (pt : Int) : List Int := [48 + dgt V r] ++ (behL V (r - 1) cn pt ++ expL r)
def fixL (V r : Int) (cn : Nat) (gr pt : Int) : List Int := ipR V gr (max r 0) ++ behL V (-1) cn pt
theorem dl_len (V fp : Int) : ∀ n : Nat, (dl V fp n).length = n
  | 0 => rfl
  | n + 1 => by
    show (dl V fp n ++ [_]).length = n + 1
    rw [List.length_append, dl_len V fp n]
    rfl
theorem dotL_len (cn : Nat) (pt : Int) : (dotL cn pt).length ≤ 1 := by
  unfold dotL
  split
  · exact Nat.le_refl 1
  · exact Nat.zero_le _
theorem behL_len (V fp : Int) (cn : Nat) (pt : Int) : (behL V fp cn pt).length ≤ cn + 1 := by
  unfold behL
  rw [List.length_append, dl_len]
  have := dotL_len cn pt
  omega
theorem expL_len (r : Int) : (expL r).length ≤ 5 := by
  unfold expL
  simp only [List.length_append, List.length_cons, List.length_nil]
  split <;> simp
theorem ipR_neg (V gr k : Int) (h : k < 0) : ipR V gr k = [] := if_pos h
theorem ipR_step (V gr k : Int) (h : 0 ≤ k) : ipR V gr k = [48 + dgt V k] ++ ((if gr ≠ 0 ∧ 0 < k ∧ k % 3 = 0 then [44] else []) ++ ipR V gr (k - 1)) := by
  unfold ipR
  rw [if_neg (by omega)]
  by_cases h0 : k = 0
  · subst h0
    rw [if_neg (by omega), if_pos (by omega)]
    rfl
  · obtain ⟨j, hj⟩ : ∃ j : Nat, k = (j : Int) + 1 := ⟨(k - 1).toNat, by omega⟩
    subst hj
    rw [show ((j : Int) + 1).toNat = j + 1 by omega, if_neg (show ¬ (j : Int) + 1 - 1 < 0 by omega), show ((j : Int) + 1 - 1).toNat = j by omega]
    show [48 + dgt V ((j : Int) + 1)] ++ ((if gr ≠ 0 ∧ (j + 1) % 3 = 0 then [44] else []) ++ ipC V gr j) = _
    by_cases h1 : gr ≠ 0 ∧ (j + 1) % 3 = 0
    · rw [if_pos h1, if_pos ⟨h1.1, by omega, by omega⟩]
    · rw [if_neg h1, if_neg (fun h2 => h1 ⟨h2.1, by omega⟩)]
end
section
theorem d_Tx_length_0 : decode b_Tx_length 0 = .ok (.aload_n 0, 1) := by decide +kernel
theorem d_Tx_length_1 : decode b_Tx_length 1 = .ok (.getfield 15, 3) := by decide +kernel
theorem d_Tx_length_4 : decode b_Tx_length 4 = .ok (.ireturn, 1) := by decide +kernel
set_option maxHeartbeats 4000000 in
set_option maxRecDepth 100000 in
theorem c_Tx_length (l : Launch) (D : va_G) (cI cB : ClassId) (x d la t ba tt : Nat) (ad : Nat → Nat) (V : Int) (tx : List Int)  : Ct l y_Tx_length (ws_Tx_length) 0 (AX x d la t ba) [.ref t] (XW D cI cB x d la t ba tt ad V tx) (zR (some (.int (iz (tx.length : Int)))) (XW D cI cB x d la t ba tt ad V tx)) := by
  refine z_body zSt_XW (by decide +kernel) rfl (Nat.le_of_ble_eq_true rfl) ?_
  intro p e s m args below meth c ls hx hb hml hr hlk hts0 hown hpre0 H locs hpre hS hl
  have hts : ∀ w ∈ TBL, w.before args s = true := fun w hw => hts0 w (List.mem_cons_of_mem _ hw)
  have hl : lv_has ls 1 [(0, .ref t)] := hl
  have hw := hpre
  have hst0 := hpre0.st
  refine lv_aload_n hx hb d_Tx_length_0 rfl (lv_at hl 0 rfl) ?_
  have hw9 := hw
  obtain ⟨lt, f, fi, g, n, ⟨hK, hP, hD⟩, hdec, htx, -⟩ := hw9
  have hdr := hdec.1
  have htn := htx.1
  have htl := htx.2.1
  have hP : va_P D vwCl [(x, .inr (0, [.ref d, .ref t])), (d, .inr (1, [.ref la, .int (iz fi), .int (iz lt)])), (la, .inl (cI, 155, .inl (az f))), (t, .inr (2, [.ref ba, .int (iz n)])), (ba, .inl (cB, 1612, .inl (az g)))] H := hP
  have hD : va_D (AX x d la t ba) [(x, .inr (0, [.ref d, .ref t])), (d, .inr (1, [.ref la, .int (iz fi), .int (iz lt)])), (la, .inl (cI, 155, .inl (az f))), (t, .inr (2, [.ref ba, .int (iz n)])), (ba, .inl (cB, 1612, .inl (az g)))] := hD
  refine va_get (D := D) (ci := 2) (v := .int (iz n)) (C := R_2) (T := T_2) (N := 2) hx hb hts in_2 hown hK hP 3 rfl rfl 1 (by decide) (hts _ tw_51) (fun _ h9 => h9) rfl d_Tx_length_1 ?_
  exact z_iret hx hb hr hlk hS (zR_st zSt_XW) ⟨by rw [htn], hw⟩ d_Tx_length_4
theorem d_Tx_clear_0 : decode b_Tx_clear 0 = .ok (.aload_n 0, 1) := by decide +kernel
theorem d_Tx_clear_1 : decode b_Tx_clear 1 = .ok (.iconst 0, 1) := by decide +kernel
theorem d_Tx_clear_2 : decode b_Tx_clear 2 = .ok (.putfield 15, 3) := by decide +kernel
theorem d_Tx_clear_5 : decode b_Tx_clear 5 = .ok (.return_, 1) := by decide +kernel
set_option maxHeartbeats 4000000 in
set_option maxRecDepth 100000 in
theorem c_Tx_clear (l : Launch) (D : va_G) (cI cB : ClassId) (x d la t ba tt : Nat) (ad : Nat → Nat) (V : Int) (tx : List Int)  : Ct l y_Tx_clear (ws_Tx_clear) 0 (AX x d la t ba) [.ref t] (XW D cI cB x d la t ba tt ad V tx) (zR none (XW D cI cB x d la t ba tt ad V ([]))) := by
  refine z_body zSt_XW (by decide +kernel) rfl (Nat.le_of_ble_eq_true rfl) ?_
  intro p e s m args below meth c ls hx hb hml hr hlk hts0 hown hpre0 H locs hpre hS hl
  have hts : ∀ w ∈ TBL, w.before args s = true := fun w hw => hts0 w (List.mem_cons_of_mem _ hw)
  have hl : lv_has ls 1 [(0, .ref t)] := hl
  have hw := hpre
  have hst0 := hpre0.st
  refine lv_aload_n hx hb d_Tx_clear_0 rfl (lv_at hl 0 rfl) ?_
  refine lv_iconst (v := iz 0) hx hb d_Tx_clear_1 rfl ?_
  have hw9 := hw
  obtain ⟨lt, f, fi, g, n, ⟨hK, hP, hD⟩, hdec, htx, -⟩ := hw9
  have hdr := hdec.1
  have htn := htx.1
  have htl := htx.2.1
  have hP : va_P D vwCl [(x, .inr (0, [.ref d, .ref t])), (d, .inr (1, [.ref la, .int (iz fi), .int (iz lt)])), (la, .inl (cI, 155, .inl (az f))), (t, .inr (2, [.ref ba, .int (iz n)])), (ba, .inl (cB, 1612, .inl (az g)))] H := hP
  have hD : va_D (AX x d la t ba) [(x, .inr (0, [.ref d, .ref t])), (d, .inr (1, [.ref la, .int (iz fi), .int (iz lt)])), (la, .inl (cI, 155, .inl (az f))), (t, .inr (2, [.ref ba, .int (iz n)])), (ba, .inl (cB, 1612, .inl (az g)))] := hD
  refine va_put (D := D) (ci := 2) (v := .int (iz 0)) (ty := .int) (C := R_2) (T := T_2) (N := 2) hx hb hts in_2 ty_2 tyok_2 nm_2 hown hK hP hD hS 3 rfl rfl 1 (by decide) (hts _ tw_51) (fun _ h9 => h9) rfl (by decide +kernel) rfl rfl (Nat.le_of_ble_eq_true rfl) d_Tx_clear_2 (fun H locs hP hD hS => ?_)
  have hP : va_P D vwCl [(x, .inr (0, [.ref d, .ref t])), (d, .inr (1, [.ref la, .int (iz fi), .int (iz lt)])), (la, .inl (cI, 155, .inl (az f))), (t, .inr (2, [.ref ba, .int (iz 0)])), (ba, .inl (cB, 1612, .inl (az g)))] H := hP
  have hD : va_D (AX x d la t ba) [(x, .inr (0, [.ref d, .ref t])), (d, .inr (1, [.ref la, .int (iz fi), .int (iz lt)])), (la, .inl (cI, 155, .inl (az f))), (t, .inr (2, [.ref ba, .int (iz 0)])), (ba, .inl (cB, 1612, .inl (az g)))] := hD
  exact z_vret hx hb hr hlk hS (zR_st zSt_XW) ⟨rfl, _, _, _, _, _, ⟨hK, hP, hD⟩, hdec, TxOK_nil, hst0.kept hS.2.1⟩ d_Tx_clear_5
theorem d_Tx_add_0 : decode b_Tx_add 0 = .ok (.aload_n 0, 1) := by decide +kernel
theorem d_Tx_add_1 : decode b_Tx_add 1 = .ok (.getfield 15, 3) := by decide +kernel
theorem d_Tx_add_4 : decode b_Tx_add 4 = .ok (.aload_n 0, 1) := by decide +kernel
theorem d_Tx_add_5 : decode b_Tx_add 5 = .ok (.getfield 11, 3) := by decide +kernel
theorem d_Tx_add_8 : decode b_Tx_add 8 = .ok (.arraylength, 1) := by decide +kernel
theorem d_Tx_add_9 : decode b_Tx_add 9 = .ok (.if_icmp .ge (24), 3) := by decide +kernel
theorem d_Tx_add_12 : decode b_Tx_add 12 = .ok (.aload_n 0, 1) := by decide +kernel
theorem d_Tx_add_13 : decode b_Tx_add 13 = .ok (.getfield 11, 3) := by decide +kernel
theorem d_Tx_add_16 : decode b_Tx_add 16 = .ok (.aload_n 0, 1) := by decide +kernel
theorem d_Tx_add_17 : decode b_Tx_add 17 = .ok (.getfield 15, 3) := by decide +kernel
theorem d_Tx_add_20 : decode b_Tx_add 20 = .ok (.iload_n 1, 1) := by decide +kernel
theorem d_Tx_add_21 : decode b_Tx_add 21 = .ok (.i2b, 1) := by decide +kernel
theorem d_Tx_add_22 : decode b_Tx_add 22 = .ok (.bastore, 1) := by decide +kernel
theorem d_Tx_add_23 : decode b_Tx_add 23 = .ok (.aload_n 0, 1) := by decide +kernel
theorem d_Tx_add_24 : decode b_Tx_add 24 = .ok (.dup, 1) := by decide +kernel
theorem d_Tx_add_25 : decode b_Tx_add 25 = .ok (.getfield 15, 3) := by decide +kernel
theorem d_Tx_add_28 : decode b_Tx_add 28 = .ok (.iconst 1, 1) := by decide +kernel
theorem d_Tx_add_29 : decode b_Tx_add 29 = .ok (.iadd, 1) := by decide +kernel
theorem d_Tx_add_30 : decode b_Tx_add 30 = .ok (.putfield 15, 3) := by decide +kernel
theorem d_Tx_add_33 : decode b_Tx_add 33 = .ok (.return_, 1) := by decide +kernel
set_option maxHeartbeats 4000000 in
set_option maxRecDepth 100000 in
theorem c_Tx_add (l : Launch) (D : va_G) (cI cB : ClassId) (x d la t ba tt : Nat) (ad : Nat → Nat) (V : Int) (tx : List Int) (ch : Int) (hch : 0 ≤ ch ∧ ch < 128) (hlen : tx.length < 1612) : Ct l y_Tx_add (ws_Tx_add) 0 (AX x d la t ba) [.ref t, .int (iz ch)] (XW D cI cB x d la t ba tt ad V tx) (zR none (XW D cI cB x d la t ba tt ad V (tx ++ [ch]))) := by
  refine z_body zSt_XW (by decide +kernel) rfl (Nat.le_of_ble_eq_true rfl) ?_
  intro p e s m args below meth c ls hx hb hml hr hlk hts0 hown hpre0 H locs hpre hS hl
  have hts : ∀ w ∈ TBL, w.before args s = true := fun w hw => hts0 w (List.mem_cons_of_mem _ hw)
  have hl : lv_has ls 2 [(0, .ref t), (1, .int (iz ch))] := hl
  have hw := hpre
  have hst0 := hpre0.st
  refine lv_aload_n hx hb d_Tx_add_0 rfl (lv_at hl 0 rfl) ?_
  have hw9 := hw
  obtain ⟨lt, f, fi, g, n, ⟨hK, hP, hD⟩, hdec, htx, -⟩ := hw9
  have hdr := hdec.1
  have htn := htx.1
  have htl := htx.2.1
  have hP : va_P D vwCl [(x, .inr (0, [.ref d, .ref t])), (d, .inr (1, [.ref la, .int (iz fi), .int (iz lt)])), (la, .inl (cI, 155, .inl (az f))), (t, .inr (2, [.ref ba, .int (iz n)])), (ba, .inl (cB, 1612, .inl (az g)))] H := hP
  have hD : va_D (AX x d la t ba) [(x, .inr (0, [.ref d, .ref t])), (d, .inr (1, [.ref la, .int (iz fi), .int (iz lt)])), (la, .inl (cI, 155, .inl (az f))), (t, .inr (2, [.ref ba, .int (iz n)])), (ba, .inl (cB, 1612, .inl (az g)))] := hD
  refine va_get (D := D) (ci := 2) (v := .int (iz n)) (C := R_2) (T := T_2) (N := 2) hx hb hts in_2 hown hK hP 3 rfl rfl 1 (by decide) (hts _ tw_51) (fun _ h9 => h9) rfl d_Tx_add_1 ?_
  refine lv_aload_n hx hb d_Tx_add_4 rfl (lv_at hl 0 rfl) ?_
  refine va_get (D := D) (ci := 2) (v := .ref ba) (C := R_2) (T := T_2) (N := 2) hx hb hts in_2 hown hK hP 3 rfl rfl 0 (by decide) (hts _ tw_50) (fun _ h9 => h9) rfl d_Tx_add_5 ?_
  refine z_alen hx hb hK hP 4 1 1612 rfl rfl rfl d_Tx_add_8 ?_
  refine z_icmp_ge (tgt := 33) hx hb d_Tx_add_9 rfl ⟨by omega, by omega⟩ ⟨by omega, by omega⟩ (fun hc9 => ?_) (fun hc9 => ?_)
  · exfalso
    omega
  · refine lv_aload_n hx hb d_Tx_add_12 rfl (lv_at hl 0 rfl) ?_
    refine va_get (D := D) (ci := 2) (v := .ref ba) (C := R_2) (T := T_2) (N := 2) hx hb hts in_2 hown hK hP 3 rfl rfl 0 (by decide) (hts _ tw_50) (fun _ h9 => h9) rfl d_Tx_add_13 ?_
    refine lv_aload_n hx hb d_Tx_add_16 rfl (lv_at hl 0 rfl) ?_
    refine va_get (D := D) (ci := 2) (v := .int (iz n)) (C := R_2) (T := T_2) (N := 2) hx hb hts in_2 hown hK hP 3 rfl rfl 1 (by decide) (hts _ tw_51) (fun _ h9 => h9) rfl d_Tx_add_17 ?_
    refine lv_iload_n hx hb d_Tx_add_20 rfl (lv_at hl 1 rfl) ?_
    refine z_i2b hx hb d_Tx_add_21 ⟨by omega, by omega⟩ ?_
    refine z_bast hx hb hK hP hD hS 4 1 rfl rfl (by omega) (by omega) (by decide) ⟨by omega, by omega⟩ d_Tx_add_22 (fun H locs hP hD hS => ?_)
    have hP : va_P D vwCl [(x, .inr (0, [.ref d, .ref t])), (d, .inr (1, [.ref la, .int (iz fi), .int (iz lt)])), (la, .inl (cI, 155, .inl (az f))), (t, .inr (2, [.ref ba, .int (iz n)])), (ba, .inl (cB, 1612, .inl (az (up g n ch))))] H := hP
    have hD : va_D (AX x d la t ba) [(x, .inr (0, [.ref d, .ref t])), (d, .inr (1, [.ref la, .int (iz fi), .int (iz lt)])), (la, .inl (cI, 155, .inl (az f))), (t, .inr (2, [.ref ba, .int (iz n)])), (ba, .inl (cB, 1612, .inl (az (up g n ch))))] := hD
    refine lv_aload_n hx hb d_Tx_add_23 rfl (lv_at hl 0 rfl) ?_
    refine lv_dup hx hb d_Tx_add_24 rfl ?_
    refine va_get (D := D) (ci := 2) (v := .int (iz n)) (C := R_2) (T := T_2) (N := 2) hx hb hts in_2 hown hK hP 3 rfl rfl 1 (by decide) (hts _ tw_51) (fun _ h9 => h9) rfl d_Tx_add_25 ?_
    refine lv_iconst (v := iz 1) hx hb d_Tx_add_28 rfl ?_
    refine z_iadd hx hb d_Tx_add_29 ?_
    refine va_put (D := D) (ci := 2) (v := .int (iz (n + 1))) (ty := .int) (C := R_2) (T := T_2) (N := 2) hx hb hts in_2 ty_2 tyok_2 nm_2 hown hK hP hD hS 3 rfl rfl 1 (by decide) (hts _ tw_51) (fun _ h9 => h9) rfl (by decide +kernel) rfl rfl (Nat.le_of_ble_eq_true rfl) d_Tx_add_30 (fun H locs hP hD hS => ?_)
    have hP : va_P D vwCl [(x, .inr (0, [.ref d, .ref t])), (d, .inr (1, [.ref la, .int (iz fi), .int (iz lt)])), (la, .inl (cI, 155, .inl (az f))), (t, .inr (2, [.ref ba, .int (iz (n + 1))])), (ba, .inl (cB, 1612, .inl (az (up g n ch))))] H := hP
    have hD : va_D (AX x d la t ba) [(x, .inr (0, [.ref d, .ref t])), (d, .inr (1, [.ref la, .int (iz fi), .int (iz lt)])), (la, .inl (cI, 155, .inl (az f))), (t, .inr (2, [.ref ba, .int (iz (n + 1))])), (ba, .inl (cB, 1612, .inl (az (up g n ch))))] := hD
    exact z_vret hx hb hr hlk hS (zR_st zSt_XW) ⟨rfl, _, _, _, _, _, ⟨hK, hP, hD⟩, hdec, (TxOK_add htx hlen hch), hst0.kept hS.2.1⟩ d_Tx_add_33
theorem d_Tx_eight_0 : decode b_Tx_eightFrom 0 = .ok (.lconst 0, 1) := by decide +kernel
theorem d_Tx_eight_1 : decode b_Tx_eightFrom 1 = .ok (.lstore_n 2, 1) := by decide +kernel
theorem d_Tx_eight_2 : decode b_Tx_eightFrom 2 = .ok (.iload_n 1, 1) := by decide +kernel
theorem d_Tx_eight_3 : decode b_Tx_eightFrom 3 = .ok (.istore 4, 2) := by decide +kernel
theorem d_Tx_eight_5 : decode b_Tx_eightFrom 5 = .ok (.iload 4, 2) := by decide +kernel
theorem d_Tx_eight_7 : decode b_Tx_eightFrom 7 = .ok (.iload_n 1, 1) := by decide +kernel
theorem d_Tx_eight_8 : decode b_Tx_eightFrom 8 = .ok (.bipush (8), 2) := by decide +kernel
theorem d_Tx_eight_10 : decode b_Tx_eightFrom 10 = .ok (.iadd, 1) := by decide +kernel
theorem d_Tx_eight_11 : decode b_Tx_eightFrom 11 = .ok (.if_icmp .ge (45), 3) := by decide +kernel
theorem d_Tx_eight_14 : decode b_Tx_eightFrom 14 = .ok (.iload 4, 2) := by decide +kernel
theorem d_Tx_eight_16 : decode b_Tx_eightFrom 16 = .ok (.ifCond .lt (22), 3) := by decide +kernel
theorem d_Tx_eight_19 : decode b_Tx_eightFrom 19 = .ok (.iload 4, 2) := by decide +kernel
theorem d_Tx_eight_21 : decode b_Tx_eightFrom 21 = .ok (.aload_n 0, 1) := by decide +kernel
theorem d_Tx_eight_22 : decode b_Tx_eightFrom 22 = .ok (.getfield 15, 3) := by decide +kernel
theorem d_Tx_eight_25 : decode b_Tx_eightFrom 25 = .ok (.if_icmp .ge (13), 3) := by decide +kernel
theorem d_Tx_eight_28 : decode b_Tx_eightFrom 28 = .ok (.aload_n 0, 1) := by decide +kernel
theorem d_Tx_eight_29 : decode b_Tx_eightFrom 29 = .ok (.getfield 11, 3) := by decide +kernel
theorem d_Tx_eight_32 : decode b_Tx_eightFrom 32 = .ok (.iload 4, 2) := by decide +kernel
theorem d_Tx_eight_34 : decode b_Tx_eightFrom 34 = .ok (.baload, 1) := by decide +kernel
theorem d_Tx_eight_35 : decode b_Tx_eightFrom 35 = .ok (.goto (4), 3) := by decide +kernel
theorem d_Tx_eight_38 : decode b_Tx_eightFrom 38 = .ok (.iconst 0, 1) := by decide +kernel
theorem d_Tx_eight_39 : decode b_Tx_eightFrom 39 = .ok (.istore 5, 2) := by decide +kernel
theorem d_Tx_eight_41 : decode b_Tx_eightFrom 41 = .ok (.lload_n 2, 1) := by decide +kernel
theorem d_Tx_eight_42 : decode b_Tx_eightFrom 42 = .ok (.bipush (8), 2) := by decide +kernel
theorem d_Tx_eight_44 : decode b_Tx_eightFrom 44 = .ok (.lshl, 1) := by decide +kernel
theorem d_Tx_eight_45 : decode b_Tx_eightFrom 45 = .ok (.iload 5, 2) := by decide +kernel
theorem d_Tx_eight_47 : decode b_Tx_eightFrom 47 = .ok (.i2l, 1) := by decide +kernel
theorem d_Tx_eight_48 : decode b_Tx_eightFrom 48 = .ok (.lor, 1) := by decide +kernel
theorem d_Tx_eight_49 : decode b_Tx_eightFrom 49 = .ok (.lstore_n 2, 1) := by decide +kernel
theorem d_Tx_eight_50 : decode b_Tx_eightFrom 50 = .ok (.iinc 4 (1), 3) := by decide +kernel
theorem d_Tx_eight_53 : decode b_Tx_eightFrom 53 = .ok (.goto (-48), 3) := by decide +kernel
theorem d_Tx_eight_56 : decode b_Tx_eightFrom 56 = .ok (.lload_n 2, 1) := by decide +kernel
theorem d_Tx_eight_57 : decode b_Tx_eightFrom 57 = .ok (.lreturn, 1) := by decide +kernel
set_option maxHeartbeats 4000000 in
set_option maxRecDepth 100000 in
theorem c_Tx_eight (l : Launch) (D : va_G) (cI cB : ClassId) (x d la t ba tt : Nat) (ad : Nat → Nat) (V : Int) (tx : List Int) (st : Nat) (hst : st < tx.length) : Ct l y_Tx_eightFrom (ws_Tx_eightFrom) 0 (AX x d la t ba) [.ref t, .int (iz (st : Int))] (XW D cI cB x d la t ba tt ad V tx) (zR (some (.long (lz (w8 tx st 8)))) (XW D cI cB x d la t ba tt ad V tx)) := by
  refine z_body zSt_XW (by decide +kernel) rfl (Nat.le_of_ble_eq_true rfl) ?_
  intro p e s m args below meth c ls hx hb hml hr hlk hts0 hown hpre0 H locs hpre hS hl
  have hts : ∀ w ∈ TBL, w.before args s = true := fun w hw => hts0 w (List.mem_cons_of_mem _ hw)
  have hl : lv_has ls 6 [(0, .ref t), (1, .int (iz (st : Int)))] := hl
  have hw := hpre
  have hst0 := hpre0.st
  have hpre1 := hpre0
  obtain ⟨_, _, _, _, _, _, _, htx0, _⟩ := hpre1
  have htl0 := htx0.2.1
  have htc0 := htx0.2.2.2
  have L5 : ∀ (N5 : Nat) (j : Nat) (i : Int) (H : Heap) (locs : List Loc) (ls : Array Slot), XW D cI cB x d la t ba tt ad V tx s H → va_S (AX x d la t ba) s.heap H locs → lv_has ls 6 [(0, .ref t), (1, .int (iz (st : Int))), (2, .long (lz (w8 tx st j))), (4, .int (iz i))] → (j ≤ 8 ∧ i = (st : Int) + (j : Int)) → 8 - j < N5 → W p l e (zrm 0) s m args below meth c H locs 0 0 (MQ below (zQ (AX x d la t ba) (zR (some (.long (lz (w8 tx st 8)))) (XW D cI cB x d la t ba tt ad V tx))) args s 0 0 (AX x d la t ba)) (F0 m 5 ls []) := by
    intro N5
    induction N5 with
    | zero => intro j i H locs ls hw hS hl hj hN5; exact absurd hN5 (Nat.not_lt_zero _)
    | succ N5 ih5 =>
      intro j i H locs ls hw hS hl hj hN5
      refine lv_iload hx hb d_Tx_eight_5 (lv_at hl 3 rfl) ?_
      refine lv_iload_n hx hb d_Tx_eight_7 rfl (lv_at hl 1 rfl) ?_
      refine lv_bipush (v := iz 8) hx hb d_Tx_eight_8 (by decide) ?_
      refine z_iadd hx hb d_Tx_eight_10 ?_
      refine z_icmp_ge (tgt := 56) hx hb d_Tx_eight_11 rfl ⟨by omega, by omega⟩ ⟨by omega, by omega⟩ (fun hc11 => ?_) (fun hc11 => ?_)
      · refine lv_lload_n hx hb d_Tx_eight_56 rfl (lv_at hl 2 rfl) ?_
        exact z_lret hx hb hr hlk hS (zR_st zSt_XW) (by
            have e8 : j = 8 := by omega
            subst e8
            exact ⟨rfl, hw⟩) d_Tx_eight_57
      · refine lv_iload hx hb d_Tx_eight_14 (lv_at hl 3 rfl) ?_
        refine z_if_lt (tgt := 38) hx hb d_Tx_eight_16 rfl ⟨by omega, by omega⟩ (fun hc16 => ?_) (fun hc16 => ?_)
        · exfalso
          omega
        · refine lv_iload hx hb d_Tx_eight_19 (lv_at hl 3 rfl) ?_
          refine lv_aload_n hx hb d_Tx_eight_21 rfl (lv_at hl 0 rfl) ?_
          have hw9 := hw
          obtain ⟨lt, f, fi, g, n, ⟨hK, hP, hD⟩, hdec, htx, -⟩ := hw9
          have hdr := hdec.1
          have htn := htx.1
          have htl := htx.2.1
          have hP : va_P D vwCl [(x, .inr (0, [.ref d, .ref t])), (d, .inr (1, [.ref la, .int (iz fi), .int (iz lt)])), (la, .inl (cI, 155, .inl (az f))), (t, .inr (2, [.ref ba, .int (iz n)])), (ba, .inl (cB, 1612, .inl (az g)))] H := hP
          have hD : va_D (AX x d la t ba) [(x, .inr (0, [.ref d, .ref t])), (d, .inr (1, [.ref la, .int (iz fi), .int (iz lt)])), (la, .inl (cI, 155, .inl (az f))), (t, .inr (2, [.ref ba, .int (iz n)])), (ba, .inl (cB, 1612, .inl (az g)))] := hD
          refine va_get (D := D) (ci := 2) (v := .int (iz n)) (C := R_2) (T := T_2) (N := 2) hx hb hts in_2 hown hK hP 3 rfl rfl 1 (by decide) (hts _ tw_51) (fun _ h9 => h9) rfl d_Tx_eight_22 ?_
          refine z_icmp_ge (tgt := 38) hx hb d_Tx_eight_25 rfl ⟨by omega, by omega⟩ ⟨by omega, by omega⟩ (fun hc25 => ?_) (fun hc25 => ?_)
          · have hgj : tx.getD (st + j) 0 = 0 := by
              simp only [List.getD]
              rw [List.getElem?_eq_none (by omega)]
              rfl
            refine lv_iconst (v := iz 0) hx hb d_Tx_eight_38 rfl ?_
            refine z_ri (b := tx.getD (st + j) 0) hgj.symm ?_
            have hgr := tx_getD htc0 (st + j)
            have hw8 := w8_le htc0 st (j := j) (by omega)
            refine lv_istore hx hb d_Tx_eight_39 hl (by decide) rfl (fun ls hl => ?_)
            have hl : lv_has ls 6 [(5, .int (iz (tx.getD (st + j) 0))), (0, .ref t), (1, .int (iz (st : Int))), (2, .long (lz (w8 tx st j))), (4, .int (iz i))] := hl
            refine lv_lload_n hx hb d_Tx_eight_41 rfl (lv_at hl 3 rfl) ?_
            refine lv_bipush (v := iz 8) hx hb d_Tx_eight_42 (by decide) ?_
            refine z_lshl hx hb 8 d_Tx_eight_44 rfl (by decide) ⟨by omega, by omega⟩ ⟨by omega, by omega⟩ ?_
            refine lv_iload hx hb d_Tx_eight_45 (lv_at hl 0 rfl) ?_
            refine z_i2l hx hb d_Tx_eight_47 ⟨by omega, by omega⟩ ?_
            refine z_lorp (a := w8 tx st j) hx hb 8 d_Tx_eight_48 (by omega) (by omega) (by omega) (by omega) ?_
            refine z_rl (b := w8 tx st (j + 1)) rfl ?_
            refine lv_lstore_n hx hb d_Tx_eight_49 rfl hl (by decide) rfl (fun ls hl => ?_)
            have hl : lv_has ls 6 [(2, .long (lz (w8 tx st (j + 1)))), (5, .int (iz (tx.getD (st + j) 0))), (0, .ref t), (1, .int (iz (st : Int))), (4, .int (iz i))] := hl
            refine lv_iinc (k := 4) (v := (iz (i + 1))) hx hb d_Tx_eight_50 hl rfl (by show iz _ + iz (1) = _; rw [← iz_add]; try rfl) (by decide) rfl (fun ls hl => ?_)
            have hl : lv_has ls 6 [(4, .int (iz (i + 1))), (2, .long (lz (w8 tx st (j + 1)))), (5, .int (iz (tx.getD (st + j) 0))), (0, .ref t), (1, .int (iz (st : Int)))] := hl
            refine lv_goto (tgt := 5) hx hb d_Tx_eight_53 rfl ?_
            exact ih5 (j + 1) (i + 1) _ _ _ hw hS (lv_sub hl [3, 4, 1, 0] rfl) ⟨by omega, by omega⟩ (by omega)
          · have hgj : g i = tx.getD (st + j) 0 := by
              have h8 := htx.2.2.1 (st + j) (by omega)
              rw [hj.2, ← Int.natCast_add]
              exact h8
            refine lv_aload_n hx hb d_Tx_eight_28 rfl (lv_at hl 0 rfl) ?_
            refine va_get (D := D) (ci := 2) (v := .ref ba) (C := R_2) (T := T_2) (N := 2) hx hb hts in_2 hown hK hP 3 rfl rfl 0 (by decide) (hts _ tw_50) (fun _ h9 => h9) rfl d_Tx_eight_29 ?_
            refine lv_iload hx hb d_Tx_eight_32 (lv_at hl 3 rfl) ?_
            refine z_bald hx hb hK hP 4 1 rfl rfl (by omega) (by omega) (by decide) d_Tx_eight_34 ?_
            refine z_ri (b := tx.getD (st + j) 0) hgj ?_
            refine lv_goto (tgt := 39) hx hb d_Tx_eight_35 rfl ?_
            have hgr := tx_getD htc0 (st + j)
            have hw8 := w8_le htc0 st (j := j) (by omega)
            refine lv_istore hx hb d_Tx_eight_39 hl (by decide) rfl (fun ls hl => ?_)
            have hl : lv_has ls 6 [(5, .int (iz (tx.getD (st + j) 0))), (0, .ref t), (1, .int (iz (st : Int))), (2, .long (lz (w8 tx st j))), (4, .int (iz i))] := hl
            refine lv_lload_n hx hb d_Tx_eight_41 rfl (lv_at hl 3 rfl) ?_
            refine lv_bipush (v := iz 8) hx hb d_Tx_eight_42 (by decide) ?_
            refine z_lshl hx hb 8 d_Tx_eight_44 rfl (by decide) ⟨by omega, by omega⟩ ⟨by omega, by omega⟩ ?_
            refine lv_iload hx hb d_Tx_eight_45 (lv_at hl 0 rfl) ?_
            refine z_i2l hx hb d_Tx_eight_47 ⟨by omega, by omega⟩ ?_
            refine z_lorp (a := w8 tx st j) hx hb 8 d_Tx_eight_48 (by omega) (by omega) (by omega) (by omega) ?_
            refine z_rl (b := w8 tx st (j + 1)) rfl ?_
            refine lv_lstore_n hx hb d_Tx_eight_49 rfl hl (by decide) rfl (fun ls hl => ?_)
            have hl : lv_has ls 6 [(2, .long (lz (w8 tx st (j + 1)))), (5, .int (iz (tx.getD (st + j) 0))), (0, .ref t), (1, .int (iz (st : Int))), (4, .int (iz i))] := hl
            refine lv_iinc (k := 4) (v := (iz (i + 1))) hx hb d_Tx_eight_50 hl rfl (by show iz _ + iz (1) = _; rw [← iz_add]; try rfl) (by decide) rfl (fun ls hl => ?_)
            have hl : lv_has ls 6 [(4, .int (iz (i + 1))), (2, .long (lz (w8 tx st (j + 1)))), (5, .int (iz (tx.getD (st + j) 0))), (0, .ref t), (1, .int (iz (st : Int)))] := hl
            refine lv_goto (tgt := 5) hx hb d_Tx_eight_53 rfl ?_
            exact ih5 (j + 1) (i + 1) _ _ _ hw hS (lv_sub hl [3, 4, 1, 0] rfl) ⟨by omega, by omega⟩ (by omega)
  refine lv_lconst (v := lz 0) hx hb d_Tx_eight_0 (by decide) ?_
  refine lv_lstore_n hx hb d_Tx_eight_1 rfl hl (by decide) rfl (fun ls hl => ?_)
  have hl : lv_has ls 6 [(2, .long (lz 0)), (0, .ref t), (1, .int (iz (st : Int)))] := hl
  refine lv_iload_n hx hb d_Tx_eight_2 rfl (lv_at hl 2 rfl) ?_
  refine lv_istore hx hb d_Tx_eight_3 hl (by decide) rfl (fun ls hl => ?_)
  have hl : lv_has ls 6 [(4, .int (iz (st : Int))), (2, .long (lz 0)), (0, .ref t), (1, .int (iz (st : Int)))] := hl
  exact L5 _ 0 (st : Int) _ _ _ hw hS (lv_sub hl [2, 3, 1, 0] rfl) ⟨by omega, by omega⟩ (Nat.lt_succ_self _)
end
section
theorem tdiv9 (a : Int) : (0 ≤ a → a.tdiv 9 = a / 9) ∧ (a < 0 → a.tdiv 9 = -((-a) / 9)) := by
  refine ⟨fun h => Int.tdiv_eq_ediv_of_nonneg h, fun h => ?_⟩
  have h1 : (-a).tdiv 9 = (-a) / 9 := Int.tdiv_eq_ediv_of_nonneg (by omega)
  rw [Int.neg_tdiv] at h1
  omega
theorem iz_tdiv {a b : Int} (ha : iR a) (hb : 0 < b ∧ b ≤ 2147483647) : iz a / iz b = iz (a.tdiv b) := by
  refine (Int32.ofInt_tdiv ?_ ?_ ?_ ?_).symm
  · rw [Int32.toInt_minValue]; omega
  · rw [Int32.toInt_maxValue]; omega
  · rw [Int32.toInt_minValue]; omega
  · rw [Int32.toInt_maxValue]; omega
theorem iz_nn {z : Int32} : 0 ≤ z ↔ z.toBitVec.msb = false := by
  rw [Int32.le_iff_toInt_le, Int32.toInt_zero, BitVec.msb_eq_toInt, decide_eq_false_iff_not]
  show 0 ≤ z.toBitVec.toInt ↔ _
  omega
theorem xor9 {a : Int} (ha : iR a) : 0 ≤ iz a ^^^ iz 9 ↔ 0 ≤ a := by
  rw [iz_nn]
  show ((iz a).toBitVec ^^^ (iz 9).toBitVec).msb = false ↔ _
  rw [BitVec.msb_xor, show (iz 9).toBitVec.msb = false by decide, Bool.xor_false, ← iz_nn, ← iz_0, iz_le ⟨by omega, by omega⟩ ha]
section ZJ
variable {p : Program} {l : Launch} {e : Env} {R : Room} {s : State} {m : MethodId} {args : Array Value} {below : List Frame} {meth : Method} {c : Code} {H : Heap} {locs : List Loc} {cells slots : Nat} {Q : State → Prop} {cc : ByteArray} {pc : Nat} {ls : Array Slot} {rest : List Value}
theorem z_idivt (hx : p.tables.exec = Jvm.exec) (hb : c.code = cc) {a b : Int} (hdg : decode cc pc = .ok (.idiv, 1)) (ha : iR a) (hd : 0 < b ∧ b ≤ 2147483647) (k : W p l e R s m args below meth c H locs cells slots Q (F0 m (pc + 1) ls (.int (iz (a.tdiv b)) :: rest))) : W p l e R s m args below meth c H locs cells slots Q (F0 m pc ls (.int (iz b) :: .int (iz a) :: rest)) := by
  rw [← iz_tdiv ha hd] at k
  exact lv_idiv hx hb hdg (fun h => by rw [← iz_0, iz_eq ⟨by omega, by omega⟩ ⟨by omega, by omega⟩] at h; omega) k
theorem z_iremt (hx : p.tables.exec = Jvm.exec) (hb : c.code = cc) {a b : Int} (hdg : decode cc pc = .ok (.irem, 1)) (ha : iR a) (hd : 0 < b ∧ b ≤ 2147483647) (k : W p l e R s m args below meth c H locs cells slots Q (F0 m (pc + 1) ls (.int (iz (a - a.tdiv b * b)) :: rest))) : W p l e R s m args below meth c H locs cells slots Q (F0 m pc ls (.int (iz b) :: .int (iz a) :: rest)) := by
  rw [iz_sub, iz_mul, ← iz_tdiv ha hd] at k
  exact lv_irem hx hb hdg (fun h => by rw [← iz_0, iz_eq ⟨by omega, by omega⟩ ⟨by omega, by omega⟩] at h; omega) k
end ZJ
theorem va_at_arr {D : va_G} {cl : List vw_C} {a n : Nat} {cA : ClassId} {f g : Nat → Int32} {H : Heap} (h : va_at D cl (a, .inl (cA, n, .inl f)) H) (hf : ∀ j, j < n → f j = g j) : va_at D cl (a, .inl (cA, n, .inl g)) H := by
  show H[a]? = some (vp_cell cA (n, .inl g))
  have h : H[a]? = some (vp_cell cA (n, .inl f)) := h
  have e : (fun j : Fin n => Value.int (f j.val)) = (fun j : Fin n => Value.int (g j.val)) := funext fun j => by rw [hf j.val j.isLt]
  rw [h]
  show some ({ cls := cA, slots := Array.ofFn (fun j : Fin n => Value.int (f j.val)), vm := .none } : Cell) = _
  rw [e]
  rfl
theorem va_P_arr {D : va_G} {cl : List vw_C} {ws : va_W} {a n : Nat} {cA : ClassId} {f g : Nat → Int32} {H : Heap} (hP : va_P D cl ws H) (q0 : Nat) (h : ws[q0]? = some (a, .inl (cA, n, .inl f))) (hf : ∀ j, j < n → f j = g j) : va_P D cl (ws.set q0 (a, .inl (cA, n, .inl g))) H := by
  have hl := (List.getElem?_eq_some_iff.mp h).1
  intro k q hk
  by_cases hkp : k = q0
  · subst hkp
    rw [List.getElem?_set_self hl] at hk
    cases hk
    exact va_at_arr (hP k _ h) hf
  · rw [List.getElem?_set_ne (Ne.symm hkp)] at hk
    exact hP k q hk
theorem d_floorDiv_0 : decode b_Ma_floorDiv 0 = .ok (.iload_n 0, 1) := by decide +kernel
theorem d_floorDiv_1 : decode b_Ma_floorDiv 1 = .ok (.iload_n 1, 1) := by decide +kernel
theorem d_floorDiv_2 : decode b_Ma_floorDiv 2 = .ok (.idiv, 1) := by decide +kernel
theorem d_floorDiv_3 : decode b_Ma_floorDiv 3 = .ok (.istore_n 2, 1) := by decide +kernel
theorem d_floorDiv_4 : decode b_Ma_floorDiv 4 = .ok (.iload_n 0, 1) := by decide +kernel
theorem d_floorDiv_5 : decode b_Ma_floorDiv 5 = .ok (.iload_n 1, 1) := by decide +kernel
theorem d_floorDiv_6 : decode b_Ma_floorDiv 6 = .ok (.ixor, 1) := by decide +kernel
theorem d_floorDiv_7 : decode b_Ma_floorDiv 7 = .ok (.ifCond .ge (14), 3) := by decide +kernel
theorem d_floorDiv_10 : decode b_Ma_floorDiv 10 = .ok (.iload_n 2, 1) := by decide +kernel
theorem d_floorDiv_11 : decode b_Ma_floorDiv 11 = .ok (.iload_n 1, 1) := by decide +kernel
theorem d_floorDiv_12 : decode b_Ma_floorDiv 12 = .ok (.imul, 1) := by decide +kernel
theorem d_floorDiv_13 : decode b_Ma_floorDiv 13 = .ok (.iload_n 0, 1) := by decide +kernel
theorem d_floorDiv_14 : decode b_Ma_floorDiv 14 = .ok (.if_icmp .eq (7), 3) := by decide +kernel
theorem d_floorDiv_17 : decode b_Ma_floorDiv 17 = .ok (.iload_n 2, 1) := by decide +kernel
theorem d_floorDiv_18 : decode b_Ma_floorDiv 18 = .ok (.iconst 1, 1) := by decide +kernel
theorem d_floorDiv_19 : decode b_Ma_floorDiv 19 = .ok (.isub, 1) := by decide +kernel
theorem d_floorDiv_20 : decode b_Ma_floorDiv 20 = .ok (.ireturn, 1) := by decide +kernel
theorem d_floorDiv_21 : decode b_Ma_floorDiv 21 = .ok (.iload_n 2, 1) := by decide +kernel
theorem d_floorDiv_22 : decode b_Ma_floorDiv 22 = .ok (.ireturn, 1) := by decide +kernel
set_option maxHeartbeats 4000000 in
set_option maxRecDepth 100000 in
theorem c_floorDiv (l : Launch) (A : Nat → Prop) (P : State → Heap → Prop) (hP : zSa P) (pl : Int) (hpl : -100000 ≤ pl ∧ pl ≤ 100000) : Ct l y_Ma_floorDiv (ws_Ma_floorDiv) 0 A [.int (iz pl), .int (iz 9)] (P) (zR (some (.int (iz (pl / 9)))) P) := by
  refine z_body (zSt_of hP) (by decide +kernel) rfl (Nat.le_of_ble_eq_true rfl) ?_
  intro p e s m args below meth c ls hx hb hml hr hlk hts0 hown hpre0 H locs hpre hS hl
  have hts : ∀ w ∈ TBL, w.before args s = true := fun w hw => hts0 w (List.mem_cons_of_mem _ hw)
  have hl : lv_has ls 3 [(0, .int (iz pl)), (1, .int (iz 9))] := hl
  have hw := hpre
  refine lv_iload_n hx hb d_floorDiv_0 rfl (lv_at hl 0 rfl) ?_
  refine lv_iload_n hx hb d_floorDiv_1 rfl (lv_at hl 1 rfl) ?_
  refine z_idivt hx hb d_floorDiv_2 ⟨by omega, by omega⟩ ⟨by omega, by omega⟩ ?_
  refine lv_istore_n hx hb d_floorDiv_3 rfl hl (by decide) rfl (fun ls hl => ?_)
  have hl : lv_has ls 3 [(2, .int (iz (pl.tdiv 9))), (0, .int (iz pl)), (1, .int (iz 9))] := hl
  have hq := tdiv9 pl
  refine lv_iload_n hx hb d_floorDiv_4 rfl (lv_at hl 1 rfl) ?_
  refine lv_iload_n hx hb d_floorDiv_5 rfl (lv_at hl 2 rfl) ?_
  refine lv_ixor hx hb d_floorDiv_6 ?_
  refine lv_if_ge (tgt := 21) hx hb d_floorDiv_7 rfl (fun hc7 => ?_) (fun hc7 => ?_)
  · refine lv_iload_n hx hb d_floorDiv_21 rfl (lv_at hl 0 rfl) ?_
    exact z_iret hx hb hr hlk hS (zR_st (zSt_of hP)) ⟨by
        have h8 : pl / 9 = pl.tdiv 9 := by first | (have h9 := (xor9 (a := pl) ⟨by omega, by omega⟩).mp hc7; omega) | omega
        rw [h8], hw⟩ d_floorDiv_22
  · have hneg : pl < 0 := by
      by_cases h8 : 0 ≤ pl
      · exact absurd ((xor9 (a := pl) ⟨by omega, by omega⟩).mpr h8) hc7
      · omega
    refine lv_iload_n hx hb d_floorDiv_10 rfl (lv_at hl 0 rfl) ?_
    refine lv_iload_n hx hb d_floorDiv_11 rfl (lv_at hl 2 rfl) ?_
    refine z_imul hx hb d_floorDiv_12 ?_
    refine lv_iload_n hx hb d_floorDiv_13 rfl (lv_at hl 1 rfl) ?_
    refine z_icmp_eq (tgt := 21) hx hb d_floorDiv_14 rfl ⟨by omega, by omega⟩ ⟨by omega, by omega⟩ (fun hc14 => ?_) (fun hc14 => ?_)
    · refine lv_iload_n hx hb d_floorDiv_21 rfl (lv_at hl 0 rfl) ?_
      exact z_iret hx hb hr hlk hS (zR_st (zSt_of hP)) ⟨by
          have h8 : pl / 9 = pl.tdiv 9 := by first | (have h9 := (xor9 (a := pl) ⟨by omega, by omega⟩).mp hc7; omega) | omega
          rw [h8], hw⟩ d_floorDiv_22
    · refine lv_iload_n hx hb d_floorDiv_17 rfl (lv_at hl 0 rfl) ?_
      refine lv_iconst (v := iz 1) hx hb d_floorDiv_18 rfl ?_
      refine z_isub hx hb d_floorDiv_19 ?_
      exact z_iret hx hb hr hlk hS (zR_st (zSt_of hP)) ⟨by
          have h8 : pl / 9 = (pl.tdiv 9) - 1 := by first | (have h9 := (xor9 (a := pl) ⟨by omega, by omega⟩).mp hc7; omega) | omega
          rw [h8], hw⟩ d_floorDiv_20
theorem d_floorMod_0 : decode b_Ma_floorMod 0 = .ok (.iload_n 0, 1) := by decide +kernel
theorem d_floorMod_1 : decode b_Ma_floorMod 1 = .ok (.iload_n 1, 1) := by decide +kernel
theorem d_floorMod_2 : decode b_Ma_floorMod 2 = .ok (.irem, 1) := by decide +kernel
theorem d_floorMod_3 : decode b_Ma_floorMod 3 = .ok (.istore_n 2, 1) := by decide +kernel
theorem d_floorMod_4 : decode b_Ma_floorMod 4 = .ok (.iload_n 0, 1) := by decide +kernel
theorem d_floorMod_5 : decode b_Ma_floorMod 5 = .ok (.iload_n 1, 1) := by decide +kernel
theorem d_floorMod_6 : decode b_Ma_floorMod 6 = .ok (.ixor, 1) := by decide +kernel
theorem d_floorMod_7 : decode b_Ma_floorMod 7 = .ok (.ifCond .ge (11), 3) := by decide +kernel
theorem d_floorMod_10 : decode b_Ma_floorMod 10 = .ok (.iload_n 2, 1) := by decide +kernel
theorem d_floorMod_11 : decode b_Ma_floorMod 11 = .ok (.ifCond .eq (7), 3) := by decide +kernel
theorem d_floorMod_14 : decode b_Ma_floorMod 14 = .ok (.iload_n 2, 1) := by decide +kernel
theorem d_floorMod_15 : decode b_Ma_floorMod 15 = .ok (.iload_n 1, 1) := by decide +kernel
theorem d_floorMod_16 : decode b_Ma_floorMod 16 = .ok (.iadd, 1) := by decide +kernel
theorem d_floorMod_17 : decode b_Ma_floorMod 17 = .ok (.ireturn, 1) := by decide +kernel
theorem d_floorMod_18 : decode b_Ma_floorMod 18 = .ok (.iload_n 2, 1) := by decide +kernel
theorem d_floorMod_19 : decode b_Ma_floorMod 19 = .ok (.ireturn, 1) := by decide +kernel
set_option maxHeartbeats 4000000 in
set_option maxRecDepth 100000 in
theorem c_floorMod (l : Launch) (A : Nat → Prop) (P : State → Heap → Prop) (hP : zSa P) (pl : Int) (hpl : -100000 ≤ pl ∧ pl ≤ 100000) : Ct l y_Ma_floorMod (ws_Ma_floorMod) 0 A [.int (iz pl), .int (iz 9)] (P) (zR (some (.int (iz (pl % 9)))) P) := by
  refine z_body (zSt_of hP) (by decide +kernel) rfl (Nat.le_of_ble_eq_true rfl) ?_
  intro p e s m args below meth c ls hx hb hml hr hlk hts0 hown hpre0 H locs hpre hS hl
  have hts : ∀ w ∈ TBL, w.before args s = true := fun w hw => hts0 w (List.mem_cons_of_mem _ hw)
  have hl : lv_has ls 3 [(0, .int (iz pl)), (1, .int (iz 9))] := hl
  have hw := hpre
  refine lv_iload_n hx hb d_floorMod_0 rfl (lv_at hl 0 rfl) ?_
  refine lv_iload_n hx hb d_floorMod_1 rfl (lv_at hl 1 rfl) ?_
  refine z_iremt hx hb d_floorMod_2 ⟨by omega, by omega⟩ ⟨by omega, by omega⟩ ?_
  refine lv_istore_n hx hb d_floorMod_3 rfl hl (by decide) rfl (fun ls hl => ?_)
  have hl : lv_has ls 3 [(2, .int (iz (pl - pl.tdiv 9 * 9))), (0, .int (iz pl)), (1, .int (iz 9))] := hl
  have hq := tdiv9 pl
  refine lv_iload_n hx hb d_floorMod_4 rfl (lv_at hl 1 rfl) ?_
  refine lv_iload_n hx hb d_floorMod_5 rfl (lv_at hl 2 rfl) ?_
  refine lv_ixor hx hb d_floorMod_6 ?_
  refine lv_if_ge (tgt := 18) hx hb d_floorMod_7 rfl (fun hc7 => ?_) (fun hc7 => ?_)
  · refine lv_iload_n hx hb d_floorMod_18 rfl (lv_at hl 0 rfl) ?_
    exact z_iret hx hb hr hlk hS (zR_st (zSt_of hP)) ⟨by
        have h8 : pl % 9 = pl - pl.tdiv 9 * 9 := by first | (have h9 := (xor9 (a := pl) ⟨by omega, by omega⟩).mp hc7; omega) | omega
        rw [h8], hw⟩ d_floorMod_19
  · have hneg : pl < 0 := by
      by_cases h8 : 0 ≤ pl
      · exact absurd ((xor9 (a := pl) ⟨by omega, by omega⟩).mpr h8) hc7
      · omega
    refine lv_iload_n hx hb d_floorMod_10 rfl (lv_at hl 0 rfl) ?_
    refine z_if_eq (tgt := 18) hx hb d_floorMod_11 rfl ⟨by omega, by omega⟩ (fun hc11 => ?_) (fun hc11 => ?_)
    · refine lv_iload_n hx hb d_floorMod_18 rfl (lv_at hl 0 rfl) ?_
      exact z_iret hx hb hr hlk hS (zR_st (zSt_of hP)) ⟨by
          have h8 : pl % 9 = pl - pl.tdiv 9 * 9 := by first | (have h9 := (xor9 (a := pl) ⟨by omega, by omega⟩).mp hc7; omega) | omega
          rw [h8], hw⟩ d_floorMod_19
    · refine lv_iload_n hx hb d_floorMod_14 rfl (lv_at hl 0 rfl) ?_
      refine lv_iload_n hx hb d_floorMod_15 rfl (lv_at hl 2 rfl) ?_
      refine z_iadd hx hb d_floorMod_16 ?_
      exact z_iret hx hb hr hlk hS (zR_st (zSt_of hP)) ⟨by
          have h8 : pl % 9 = (pl - pl.tdiv 9 * 9) + 9 := by first | (have h9 := (xor9 (a := pl) ⟨by omega, by omega⟩).mp hc7; omega) | omega
          rw [h8], hw⟩ d_floorMod_17
theorem d_fill_0 : decode b_Ar_fill 0 = .ok (.iconst 0, 1) := by decide +kernel
theorem d_fill_1 : decode b_Ar_fill 1 = .ok (.istore_n 2, 1) := by decide +kernel
theorem d_fill_2 : decode b_Ar_fill 2 = .ok (.aload_n 0, 1) := by decide +kernel
theorem d_fill_3 : decode b_Ar_fill 3 = .ok (.arraylength, 1) := by decide +kernel
theorem d_fill_4 : decode b_Ar_fill 4 = .ok (.istore_n 3, 1) := by decide +kernel
theorem d_fill_5 : decode b_Ar_fill 5 = .ok (.iload_n 2, 1) := by decide +kernel
theorem d_fill_6 : decode b_Ar_fill 6 = .ok (.iload_n 3, 1) := by decide +kernel
theorem d_fill_7 : decode b_Ar_fill 7 = .ok (.if_icmp .ge (13), 3) := by decide +kernel
theorem d_fill_10 : decode b_Ar_fill 10 = .ok (.aload_n 0, 1) := by decide +kernel
theorem d_fill_11 : decode b_Ar_fill 11 = .ok (.iload_n 2, 1) := by decide +kernel
theorem d_fill_12 : decode b_Ar_fill 12 = .ok (.iload_n 1, 1) := by decide +kernel
theorem d_fill_13 : decode b_Ar_fill 13 = .ok (.iastore, 1) := by decide +kernel
theorem d_fill_14 : decode b_Ar_fill 14 = .ok (.iinc 2 (1), 3) := by decide +kernel
theorem d_fill_17 : decode b_Ar_fill 17 = .ok (.goto (-12), 3) := by decide +kernel
theorem d_fill_20 : decode b_Ar_fill 20 = .ok (.return_, 1) := by decide +kernel
set_option maxHeartbeats 4000000 in
set_option maxRecDepth 100000 in
theorem c_fill (l : Launch) (D : va_G) (cI cB : ClassId) (x d la t ba : Nat) (fi lt : Int) (f g : Int → Int) (n : Int) : Ct l y_Ar_fill (ws_Ar_fill) 0 (AX x d la t ba) [.ref la, .int (iz 0)] (Wl D vwCl (tysX cI cB) (AX x d la t ba) [(x, .inr (0, [.ref d, .ref t])), (d, .inr (1, [.ref la, .int (iz fi), .int (iz lt)])), (la, .inl (cI, 155, .inl (az f))), (t, .inr (2, [.ref ba, .int (iz n)])), (ba, .inl (cB, 1612, .inl (az g)))]) (zR none (Wl D vwCl (tysX cI cB) (AX x d la t ba) [(x, .inr (0, [.ref d, .ref t])), (d, .inr (1, [.ref la, .int (iz fi), .int (iz lt)])), (la, .inl (cI, 155, .inl (az (fun _ => 0)))), (t, .inr (2, [.ref ba, .int (iz n)])), (ba, .inl (cB, 1612, .inl (az g)))])) := by
  refine z_body zSt_Wl (by decide +kernel) rfl (Nat.le_of_ble_eq_true rfl) ?_
  intro p e s m args below meth c ls hx hb hml hr hlk hts0 hown hpre0 H locs hpre hS hl
  have hts : ∀ w ∈ TBL, w.before args s = true := fun w hw => hts0 w (List.mem_cons_of_mem _ hw)
  have hl : lv_has ls 4 [(0, .ref la), (1, .int (iz 0))] := hl
  obtain ⟨hK, hP, hD⟩ := hpre
  have L5 : ∀ (N5 : Nat) (h : Int → Int) (i : Int) (H : Heap) (locs : List Loc) (ls : Array Slot), va_P D vwCl [(x, .inr (0, [.ref d, .ref t])), (d, .inr (1, [.ref la, .int (iz fi), .int (iz lt)])), (la, .inl (cI, 155, .inl (az h))), (t, .inr (2, [.ref ba, .int (iz n)])), (ba, .inl (cB, 1612, .inl (az g)))] H → va_D (AX x d la t ba) [(x, .inr (0, [.ref d, .ref t])), (d, .inr (1, [.ref la, .int (iz fi), .int (iz lt)])), (la, .inl (cI, 155, .inl (az h))), (t, .inr (2, [.ref ba, .int (iz n)])), (ba, .inl (cB, 1612, .inl (az g)))] → va_S (AX x d la t ba) s.heap H locs → lv_has ls 4 [(0, .ref la), (1, .int (iz 0)), (2, .int (iz i)), (3, .int (iz 155))] → (0 ≤ i ∧ i ≤ 155) → (∀ j, 0 ≤ j → j < i → h j = 0) → (155 - i).toNat < N5 → W p l e (zrm 0) s m args below meth c H locs 0 0 (MQ below (zQ (AX x d la t ba) (zR none (Wl D vwCl (tysX cI cB) (AX x d la t ba) [(x, .inr (0, [.ref d, .ref t])), (d, .inr (1, [.ref la, .int (iz fi), .int (iz lt)])), (la, .inl (cI, 155, .inl (az (fun _ => 0)))), (t, .inr (2, [.ref ba, .int (iz n)])), (ba, .inl (cB, 1612, .inl (az g)))]))) args s 0 0 (AX x d la t ba)) (F0 m 5 ls []) := by
    intro N5
    induction N5 with
    | zero => intro h i H locs ls hP hD hS hl hi hz hN5; exact absurd hN5 (Nat.not_lt_zero _)
    | succ N5 ih5 =>
      intro h i H locs ls hP hD hS hl hi hz hN5
      refine lv_iload_n hx hb d_fill_5 rfl (lv_at hl 2 rfl) ?_
      refine lv_iload_n hx hb d_fill_6 rfl (lv_at hl 3 rfl) ?_
      refine z_icmp_ge (tgt := 20) hx hb d_fill_7 rfl ⟨by omega, by omega⟩ ⟨by omega, by omega⟩ (fun hc7 => ?_) (fun hc7 => ?_)
      · exact z_vret hx hb hr hlk hS (zR_st zSt_Wl) ⟨rfl, hK, va_P_arr (g := az (fun _ => 0)) hP 2 rfl (fun j hj => by
            show iz (h (j : Int)) = iz 0
            rw [hz (j : Int) (by omega) (by omega)]), va_D.set (e := .inl (cI, 155, .inl (az (fun _ => 0)))) hD (p := 2) rfl⟩ d_fill_20
      · refine lv_aload_n hx hb d_fill_10 rfl (lv_at hl 0 rfl) ?_
        refine lv_iload_n hx hb d_fill_11 rfl (lv_at hl 2 rfl) ?_
        refine lv_iload_n hx hb d_fill_12 rfl (lv_at hl 1 rfl) ?_
        refine z_iast hx hb hK hP hD hS 2 0 rfl rfl (by omega) (by omega) (by decide) d_fill_13 (fun H locs hP hD hS => ?_)
        have hP : va_P D vwCl [(x, .inr (0, [.ref d, .ref t])), (d, .inr (1, [.ref la, .int (iz fi), .int (iz lt)])), (la, .inl (cI, 155, .inl (az (up h i 0)))), (t, .inr (2, [.ref ba, .int (iz n)])), (ba, .inl (cB, 1612, .inl (az g)))] H := hP
        have hD : va_D (AX x d la t ba) [(x, .inr (0, [.ref d, .ref t])), (d, .inr (1, [.ref la, .int (iz fi), .int (iz lt)])), (la, .inl (cI, 155, .inl (az (up h i 0)))), (t, .inr (2, [.ref ba, .int (iz n)])), (ba, .inl (cB, 1612, .inl (az g)))] := hD
        refine lv_iinc (k := 2) (v := (iz (i + 1))) hx hb d_fill_14 hl rfl (by show iz _ + iz (1) = _; rw [← iz_add]; try rfl) (by decide) rfl (fun ls hl => ?_)
        have hl : lv_has ls 4 [(2, .int (iz (i + 1))), (0, .ref la), (1, .int (iz 0)), (3, .int (iz 155))] := hl
        refine lv_goto (tgt := 5) hx hb d_fill_17 rfl ?_
        exact ih5 (up h i 0) (i + 1) _ _ _ hP hD hS (lv_sub hl [1, 2, 0, 3] rfl) ⟨by omega, by omega⟩ (fun j h1 h2 => by
                by_cases hq : j = i
                · rw [hq, up_s]
                · rw [up_n _ _ hq]; exact hz j h1 (by omega)) (by omega)
  refine lv_iconst (v := iz 0) hx hb d_fill_0 rfl ?_
  refine lv_istore_n hx hb d_fill_1 rfl hl (by decide) rfl (fun ls hl => ?_)
  have hl : lv_has ls 4 [(2, .int (iz 0)), (0, .ref la), (1, .int (iz 0))] := hl
  refine lv_aload_n hx hb d_fill_2 rfl (lv_at hl 1 rfl) ?_
  refine z_alen hx hb hK hP 2 0 155 rfl rfl rfl d_fill_3 ?_
  refine lv_istore_n hx hb d_fill_4 rfl hl (by decide) rfl (fun ls hl => ?_)
  have hl : lv_has ls 4 [(3, .int (iz 155)), (2, .int (iz 0)), (0, .ref la), (1, .int (iz 0))] := hl
  exact L5 _ f 0 _ _ _ hP hD hS (lv_sub hl [2, 3, 1, 0] rfl) ⟨by omega, by omega⟩ (fun j h1 h2 => absurd h1 (by omega)) (Nat.lt_succ_self _)
end
section
theorem d_Dc_limbOf_0 : decode b_Dc_limbOf 0 = .ok (.bipush (34), 2) := by decide +kernel
theorem d_Dc_limbOf_2 : decode b_Dc_limbOf 2 = .ok (.iload_n 0, 1) := by decide +kernel
theorem d_Dc_limbOf_3 : decode b_Dc_limbOf 3 = .ok (.bipush (9), 2) := by decide +kernel
theorem d_Dc_limbOf_5 : decode b_Dc_limbOf 5 = .ok (.invokestatic 65, 3) := by decide +kernel
theorem d_Dc_limbOf_8 : decode b_Dc_limbOf 8 = .ok (.isub, 1) := by decide +kernel
theorem d_Dc_limbOf_9 : decode b_Dc_limbOf 9 = .ok (.ireturn, 1) := by decide +kernel
set_option maxHeartbeats 4000000 in
set_option maxRecDepth 100000 in
theorem c_Dc_limbOf (l : Launch) (D : va_G) (cI cB : ClassId) (x d la t ba tt : Nat) (ad : Nat → Nat) (V : Int) (tx : List Int) (pl : Int) (hpl : -100000 ≤ pl ∧ pl ≤ 100000) : Ct l y_Dc_limbOf (ws_Dc_limbOf) 1 (AX x d la t ba) [.int (iz pl)] (XW D cI cB x d la t ba tt ad V tx) (zR (some (.int (iz (34 - pl / 9)))) (XW D cI cB x d la t ba tt ad V tx)) := by
  refine z_body zSt_XW (by decide +kernel) rfl (Nat.le_of_ble_eq_true rfl) ?_
  intro p e s m args below meth c ls hx hb hml hr hlk hts0 hown hpre0 H locs hpre hS hl
  have hts : ∀ w ∈ TBL, w.before args s = true := fun w hw => hts0 w (List.mem_cons_of_mem _ hw)
  have hl : lv_has ls 1 [(0, .int (iz pl))] := hl
  have hw := hpre
  have hst0 := hpre0.st
  refine lv_bipush (v := iz 34) hx hb d_Dc_limbOf_0 (by decide) ?_
  refine lv_iload_n hx hb d_Dc_limbOf_2 rfl (lv_at hl 0 rfl) ?_
  refine lv_bipush (v := iz 9) hx hb d_Dc_limbOf_3 (by decide) ?_
  have hct := c_floorDiv l (AX x d la t ba) (XW D cI cB x d la t ba tt ad V tx) zSa_XW pl hpl
  refine z_go (va_runS (As := [.int (iz pl), .int (iz 9)]) (rest := [.int (iz 34)]) ⟨hx, hb, hml, hown, hts⟩ hct.2 (z_cwS hts w_Ma_floorDiv tw_288 (by decide)) (z_preS hct.1 hw) rfl rfl hl.1 rfl (lv_room (Nat.le_of_ble_eq_true rfl)) d_Dc_limbOf_5 ⟨Nat.zero_le _, Nat.zero_le _⟩) hS (fun _ h9 => h9) (fun v9 t9 H locs hv9 hp9 hz9 hk9 hS => ?_)
  obtain ⟨rfl, hw⟩ := hp9
  have hw := XW.moved hv9.symm hw
  refine W.eq (g2 := F0 m 8 ls [.int (iz (pl / 9)), .int (iz 34)]) rfl ?_
  refine z_isub hx hb d_Dc_limbOf_8 ?_
  exact z_iret hx hb hr hlk hS (zR_st zSt_XW) ⟨rfl, hw⟩ d_Dc_limbOf_9
theorem d_Dc_placeIn_0 : decode b_Dc_placeInLimb 0 = .ok (.iload_n 0, 1) := by decide +kernel
theorem d_Dc_placeIn_1 : decode b_Dc_placeInLimb 1 = .ok (.bipush (9), 2) := by decide +kernel
theorem d_Dc_placeIn_3 : decode b_Dc_placeInLimb 3 = .ok (.invokestatic 68, 3) := by decide +kernel
theorem d_Dc_placeIn_6 : decode b_Dc_placeInLimb 6 = .ok (.ireturn, 1) := by decide +kernel
set_option maxHeartbeats 4000000 in
set_option maxRecDepth 100000 in
theorem c_Dc_placeIn (l : Launch) (D : va_G) (cI cB : ClassId) (x d la t ba tt : Nat) (ad : Nat → Nat) (V : Int) (tx : List Int) (pl : Int) (hpl : -100000 ≤ pl ∧ pl ≤ 100000) : Ct l y_Dc_placeInLimb (ws_Dc_placeInLimb) 1 (AX x d la t ba) [.int (iz pl)] (XW D cI cB x d la t ba tt ad V tx) (zR (some (.int (iz (pl % 9)))) (XW D cI cB x d la t ba tt ad V tx)) := by
  refine z_body zSt_XW (by decide +kernel) rfl (Nat.le_of_ble_eq_true rfl) ?_
  intro p e s m args below meth c ls hx hb hml hr hlk hts0 hown hpre0 H locs hpre hS hl
  have hts : ∀ w ∈ TBL, w.before args s = true := fun w hw => hts0 w (List.mem_cons_of_mem _ hw)
  have hl : lv_has ls 1 [(0, .int (iz pl))] := hl
  have hw := hpre
  have hst0 := hpre0.st
  refine lv_iload_n hx hb d_Dc_placeIn_0 rfl (lv_at hl 0 rfl) ?_
  refine lv_bipush (v := iz 9) hx hb d_Dc_placeIn_1 (by decide) ?_
  have hct := c_floorMod l (AX x d la t ba) (XW D cI cB x d la t ba tt ad V tx) zSa_XW pl hpl
  refine z_go (va_runS (As := [.int (iz pl), .int (iz 9)]) (rest := []) ⟨hx, hb, hml, hown, hts⟩ hct.2 (z_cwS hts w_Ma_floorMod tw_294 (by decide)) (z_preS hct.1 hw) rfl rfl hl.1 rfl (lv_room (Nat.le_of_ble_eq_true rfl)) d_Dc_placeIn_3 ⟨Nat.zero_le _, Nat.zero_le _⟩) hS (fun _ h9 => h9) (fun v9 t9 H locs hv9 hp9 hz9 hk9 hS => ?_)
  obtain ⟨rfl, hw⟩ := hp9
  have hw := XW.moved hv9.symm hw
  refine W.eq (g2 := F0 m 6 ls [.int (iz (pl % 9))]) rfl ?_
  exact z_iret hx hb hr hlk hS (zR_st zSt_XW) ⟨rfl, hw⟩ d_Dc_placeIn_6
theorem d_Dc_lead_0 : decode b_Dc_leadingPlace 0 = .ok (.aload_n 0, 1) := by decide +kernel
theorem d_Dc_lead_1 : decode b_Dc_leadingPlace 1 = .ok (.getfield 13, 3) := by decide +kernel
theorem d_Dc_lead_4 : decode b_Dc_leadingPlace 4 = .ok (.istore_n 1, 1) := by decide +kernel
theorem d_Dc_lead_5 : decode b_Dc_leadingPlace 5 = .ok (.iload_n 1, 1) := by decide +kernel
theorem d_Dc_lead_6 : decode b_Dc_leadingPlace 6 = .ok (.aload_n 0, 1) := by decide +kernel
theorem d_Dc_lead_7 : decode b_Dc_leadingPlace 7 = .ok (.getfield 17, 3) := by decide +kernel
theorem d_Dc_lead_10 : decode b_Dc_leadingPlace 10 = .ok (.if_icmp .gt (46), 3) := by decide +kernel
theorem d_Dc_lead_13 : decode b_Dc_leadingPlace 13 = .ok (.bipush (8), 2) := by decide +kernel
theorem d_Dc_lead_15 : decode b_Dc_leadingPlace 15 = .ok (.istore_n 2, 1) := by decide +kernel
theorem d_Dc_lead_16 : decode b_Dc_leadingPlace 16 = .ok (.iload_n 2, 1) := by decide +kernel
theorem d_Dc_lead_17 : decode b_Dc_leadingPlace 17 = .ok (.ifCond .lt (33), 3) := by decide +kernel
theorem d_Dc_lead_20 : decode b_Dc_leadingPlace 20 = .ok (.aload_n 0, 1) := by decide +kernel
theorem d_Dc_lead_21 : decode b_Dc_leadingPlace 21 = .ok (.getfield 9, 3) := by decide +kernel
theorem d_Dc_lead_24 : decode b_Dc_leadingPlace 24 = .ok (.iload_n 1, 1) := by decide +kernel
theorem d_Dc_lead_25 : decode b_Dc_leadingPlace 25 = .ok (.iaload, 1) := by decide +kernel
theorem d_Dc_lead_26 : decode b_Dc_leadingPlace 26 = .ok (.getstatic 48, 3) := by decide +kernel
theorem d_Dc_lead_29 : decode b_Dc_leadingPlace 29 = .ok (.iload_n 2, 1) := by decide +kernel
theorem d_Dc_lead_30 : decode b_Dc_leadingPlace 30 = .ok (.iaload, 1) := by decide +kernel
theorem d_Dc_lead_31 : decode b_Dc_leadingPlace 31 = .ok (.if_icmp .lt (13), 3) := by decide +kernel
theorem d_Dc_lead_34 : decode b_Dc_leadingPlace 34 = .ok (.bipush (34), 2) := by decide +kernel
theorem d_Dc_lead_36 : decode b_Dc_leadingPlace 36 = .ok (.iload_n 1, 1) := by decide +kernel
theorem d_Dc_lead_37 : decode b_Dc_leadingPlace 37 = .ok (.isub, 1) := by decide +kernel
theorem d_Dc_lead_38 : decode b_Dc_leadingPlace 38 = .ok (.bipush (9), 2) := by decide +kernel
theorem d_Dc_lead_40 : decode b_Dc_leadingPlace 40 = .ok (.imul, 1) := by decide +kernel
theorem d_Dc_lead_41 : decode b_Dc_leadingPlace 41 = .ok (.iload_n 2, 1) := by decide +kernel
theorem d_Dc_lead_42 : decode b_Dc_leadingPlace 42 = .ok (.iadd, 1) := by decide +kernel
theorem d_Dc_lead_43 : decode b_Dc_leadingPlace 43 = .ok (.ireturn, 1) := by decide +kernel
theorem d_Dc_lead_44 : decode b_Dc_leadingPlace 44 = .ok (.iinc 2 (-1), 3) := by decide +kernel
theorem d_Dc_lead_47 : decode b_Dc_leadingPlace 47 = .ok (.goto (-31), 3) := by decide +kernel
theorem d_Dc_lead_50 : decode b_Dc_leadingPlace 50 = .ok (.iinc 1 (1), 3) := by decide +kernel
theorem d_Dc_lead_53 : decode b_Dc_leadingPlace 53 = .ok (.goto (-48), 3) := by decide +kernel
theorem d_Dc_lead_56 : decode b_Dc_leadingPlace 56 = .ok (.iconst 0, 1) := by decide +kernel
theorem d_Dc_lead_57 : decode b_Dc_leadingPlace 57 = .ok (.ireturn, 1) := by decide +kernel
set_option maxHeartbeats 4000000 in
set_option maxRecDepth 100000 in
theorem c_Dc_lead (l : Launch) (D : va_G) (cI cB : ClassId) (x d la t ba tt : Nat) (ad : Nat → Nat) (V : Int) (tx : List Int) (r : Int) (hlead : IsLead V r) : Ct l y_Dc_leadingPlace (ws_Dc_leadingPlace) 0 (AX x d la t ba) [.ref d] (XW D cI cB x d la t ba tt ad V tx) (zR (some (.int (iz r))) (XW D cI cB x d la t ba tt ad V tx)) := by
  refine z_body zSt_XW (by decide +kernel) rfl (Nat.le_of_ble_eq_true rfl) ?_
  intro p e s m args below meth c ls hx hb hml hr hlk hts0 hown hpre0 H locs hpre hS hl
  have hts : ∀ w ∈ TBL, w.before args s = true := fun w hw => hts0 w (List.mem_cons_of_mem _ hw)
  have hl : lv_has ls 3 [(0, .ref d)] := hl
  have hw := hpre
  have hst0 := hpre0.st
  have hw9 := hw
  obtain ⟨lt, f, fi, g, n, ⟨hK, hP, hD⟩, hdec, htx, -⟩ := hw9
  have hdr := hdec.1
  have htn := htx.1
  have htl := htx.2.1
  have L5 : ∀ (N5 : Nat) (i : Int) (H : Heap) (locs : List Loc) (ls : Array Slot), va_P D vwCl [(x, .inr (0, [.ref d, .ref t])), (d, .inr (1, [.ref la, .int (iz fi), .int (iz lt)])), (la, .inl (cI, 155, .inl (az f))), (t, .inr (2, [.ref ba, .int (iz n)])), (ba, .inl (cB, 1612, .inl (az g)))] H → va_D (AX x d la t ba) [(x, .inr (0, [.ref d, .ref t])), (d, .inr (1, [.ref la, .int (iz fi), .int (iz lt)])), (la, .inl (cI, 155, .inl (az f))), (t, .inr (2, [.ref ba, .int (iz n)])), (ba, .inl (cB, 1612, .inl (az g)))] → va_S (AX x d la t ba) s.heap H locs → lv_has ls 3 [(0, .ref d), (1, .int (iz i))] → (fi ≤ i ∧ i ≤ lt + 1) → (∀ j, fi ≤ j → j < i → f j = 0) → (lt + 1 - i).toNat < N5 → W p l e (zrm 0) s m args below meth c H locs 0 0 (MQ below (zQ (AX x d la t ba) (zR (some (.int (iz r))) (XW D cI cB x d la t ba tt ad V tx))) args s 0 0 (AX x d la t ba)) (F0 m 5 ls []) := by
    intro N5
    induction N5 with
    | zero => intro i H locs ls hP hD hS hl hi hz hN5; exact absurd hN5 (Nat.not_lt_zero _)
    | succ N5 ih5 =>
      intro i H locs ls hP hD hS hl hi hz hN5
      have L16 : ∀ (N16 : Nat) (w : Int) (H : Heap) (locs : List Loc) (ls : Array Slot), va_P D vwCl [(x, .inr (0, [.ref d, .ref t])), (d, .inr (1, [.ref la, .int (iz fi), .int (iz lt)])), (la, .inl (cI, 155, .inl (az f))), (t, .inr (2, [.ref ba, .int (iz n)])), (ba, .inl (cB, 1612, .inl (az g)))] H → va_D (AX x d la t ba) [(x, .inr (0, [.ref d, .ref t])), (d, .inr (1, [.ref la, .int (iz fi), .int (iz lt)])), (la, .inl (cI, 155, .inl (az f))), (t, .inr (2, [.ref ba, .int (iz n)])), (ba, .inl (cB, 1612, .inl (az g)))] → va_S (AX x d la t ba) s.heap H locs → lv_has ls 3 [(0, .ref d), (1, .int (iz i)), (2, .int (iz w))] → (-1 ≤ w ∧ w ≤ 8) → (i ≤ lt) → (f i < 10 ^ (w + 1).toNat) → (w + 1).toNat < N16 → W p l e (zrm 0) s m args below meth c H locs 0 0 (MQ below (zQ (AX x d la t ba) (zR (some (.int (iz r))) (XW D cI cB x d la t ba tt ad V tx))) args s 0 0 (AX x d la t ba)) (F0 m 16 ls []) := by
        intro N16
        induction N16 with
        | zero => intro w H locs ls hP hD hS hl hw1 hilt hw2 hN16; exact absurd hN16 (Nat.not_lt_zero _)
        | succ N16 ih16 =>
          intro w H locs ls hP hD hS hl hw1 hilt hw2 hN16
          refine lv_iload_n hx hb d_Dc_lead_16 rfl (lv_at hl 2 rfl) ?_
          refine z_if_lt (tgt := 50) hx hb d_Dc_lead_17 rfl ⟨by omega, by omega⟩ (fun hc17 => ?_) (fun hc17 => ?_)
          · refine lv_iinc (k := 1) (v := (iz (i + 1))) hx hb d_Dc_lead_50 hl rfl (by show iz _ + iz (1) = _; rw [← iz_add]; try rfl) (by decide) rfl (fun ls hl => ?_)
            have hl : lv_has ls 3 [(1, .int (iz (i + 1))), (0, .ref d), (2, .int (iz w))] := hl
            refine lv_goto (tgt := 5) hx hb d_Dc_lead_53 rfl ?_
            exact ih5 (i + 1) _ _ _ hP hD hS (lv_sub hl [1, 0] rfl) ⟨by omega, by omega⟩ (fun j h1 h2 => by
                    by_cases hq : j = i
                    · subst hq
                      have h7 := (hdec.2.1 j).1
                      have h8 : f j < 10 ^ 0 := by rw [show (w + 1).toNat = 0 by omega] at hw2; exact hw2
                      omega
                    · exact hz j h1 (by omega)) (by omega)
          · have hfi := hdec.2.1 i
            have hp8 := pow10_8 (w := w) (by omega)
            refine lv_aload_n hx hb d_Dc_lead_20 rfl (lv_at hl 0 rfl) ?_
            refine va_get (D := D) (ci := 1) (v := .ref la) (C := R_1) (T := T_1) (N := 3) hx hb hts in_1 hown hK hP 1 rfl rfl 0 (by decide) (hts _ tw_33) (fun _ h9 => h9) rfl d_Dc_lead_21 ?_
            refine lv_iload_n hx hb d_Dc_lead_24 rfl (lv_at hl 1 rfl) ?_
            refine z_iald hx hb hK hP 2 0 rfl rfl (by omega) (by omega) (by decide) d_Dc_lead_25 ?_
            refine va_gets hx hb hst0.1 hS hown (hts _ tw_275) (fun _ h9 => h9) d_Dc_lead_26 ?_
            refine lv_iload_n hx hb d_Dc_lead_29 rfl (lv_at hl 2 rfl) ?_
            refine z_ten hx hb hst0.2.1 hS (by omega) (by omega) d_Dc_lead_30 ?_
            refine z_icmp_lt (tgt := 44) hx hb d_Dc_lead_31 rfl ⟨by omega, by omega⟩ ⟨by omega, by omega⟩ (fun hc31 => ?_) (fun hc31 => ?_)
            · refine lv_iinc (k := 2) (v := (iz (w - 1))) hx hb d_Dc_lead_44 hl rfl (by show iz _ + iz (-1) = _; rw [← iz_add]; try rfl) (by decide) rfl (fun ls hl => ?_)
              have hl : lv_has ls 3 [(2, .int (iz (w - 1))), (0, .ref d), (1, .int (iz i))] := hl
              refine lv_goto (tgt := 16) hx hb d_Dc_lead_47 rfl ?_
              exact ih16 (w - 1) _ _ _ hP hD hS (lv_sub hl [1, 2, 0] rfl) ⟨by omega, by omega⟩ hilt (by rw [show w - 1 + 1 = w by omega]; exact hc31) (by omega)
            · refine lv_bipush (v := iz 34) hx hb d_Dc_lead_34 (by decide) ?_
              refine lv_iload_n hx hb d_Dc_lead_36 rfl (lv_at hl 1 rfl) ?_
              refine z_isub hx hb d_Dc_lead_37 ?_
              refine lv_bipush (v := iz 9) hx hb d_Dc_lead_38 (by decide) ?_
              refine z_imul hx hb d_Dc_lead_40 ?_
              refine lv_iload_n hx hb d_Dc_lead_41 rfl (lv_at hl 2 rfl) ?_
              refine z_iadd hx hb d_Dc_lead_42 ?_
              have e8 : (34 - i) * 9 + w = r := IsLead.uniq (by
                have h8 := lead_at hdec.2.1 (i := i) (w := w) ⟨by omega, by omega⟩ ⟨by omega, by omega⟩ (fun j hj => by
                  by_cases hq : j < fi
                  · exact hdec.2.2.1 j (Or.inl hq)
                  · exact hz j (by omega) hj) hc31 hw2
                rw [hdec.2.2.2] at h8
                exact h8) hlead
              exact z_iret hx hb hr hlk hS (zR_st zSt_XW) ⟨by rw [e8], ⟨_, _, _, _, _, ⟨hK, hP, hD⟩, hdec, htx, hst0.kept hS.2.1⟩⟩ d_Dc_lead_43
      refine lv_iload_n hx hb d_Dc_lead_5 rfl (lv_at hl 1 rfl) ?_
      refine lv_aload_n hx hb d_Dc_lead_6 rfl (lv_at hl 0 rfl) ?_
      refine va_get (D := D) (ci := 1) (v := .int (iz lt)) (C := R_1) (T := T_1) (N := 3) hx hb hts in_1 hown hK hP 1 rfl rfl 2 (by decide) (hts _ tw_35) (fun _ h9 => h9) rfl d_Dc_lead_7 ?_
      refine z_icmp_gt (tgt := 56) hx hb d_Dc_lead_10 rfl ⟨by omega, by omega⟩ ⟨by omega, by omega⟩ (fun hc10 => ?_) (fun hc10 => ?_)
      · refine lv_iconst (v := iz 0) hx hb d_Dc_lead_56 rfl ?_
        have e8 : 0 = r := IsLead.uniq (by
          have h8 := lead_none (by omega) hdec.2.2.1 (fun j h1 h2 => hz j h1 (by omega))
          rw [hdec.2.2.2] at h8
          exact h8) hlead
        exact z_iret hx hb hr hlk hS (zR_st zSt_XW) ⟨by rw [e8], ⟨_, _, _, _, _, ⟨hK, hP, hD⟩, hdec, htx, hst0.kept hS.2.1⟩⟩ d_Dc_lead_57
      · refine lv_bipush (v := iz 8) hx hb d_Dc_lead_13 (by decide) ?_
        refine lv_istore_n hx hb d_Dc_lead_15 rfl hl (by decide) rfl (fun ls hl => ?_)
        have hl : lv_has ls 3 [(2, .int (iz 8)), (0, .ref d), (1, .int (iz i))] := hl
        exact L16 _ 8 _ _ _ hP hD hS (lv_sub hl [1, 2, 0] rfl) ⟨by omega, by omega⟩ (by omega) (hdec.2.1 i).2 (Nat.lt_succ_self _)
  refine lv_aload_n hx hb d_Dc_lead_0 rfl (lv_at hl 0 rfl) ?_
  refine va_get (D := D) (ci := 1) (v := .int (iz fi)) (C := R_1) (T := T_1) (N := 3) hx hb hts in_1 hown hK hP 1 rfl rfl 1 (by decide) (hts _ tw_34) (fun _ h9 => h9) rfl d_Dc_lead_1 ?_
  refine lv_istore_n hx hb d_Dc_lead_4 rfl hl (by decide) rfl (fun ls hl => ?_)
  have hl : lv_has ls 3 [(1, .int (iz fi)), (0, .ref d)] := hl
  exact L5 _ fi _ _ _ hP hD hS (lv_sub hl [1, 0] rfl) ⟨by omega, by omega⟩ (fun j h1 h2 => absurd h1 (by omega)) (Nat.lt_succ_self _)
theorem d_Dc_digitAt_0 : decode b_Dc_digitAt 0 = .ok (.iload_n 1, 1) := by decide +kernel
theorem d_Dc_digitAt_1 : decode b_Dc_digitAt 1 = .ok (.invokestatic 51, 3) := by decide +kernel
theorem d_Dc_digitAt_4 : decode b_Dc_digitAt 4 = .ok (.istore_n 2, 1) := by decide +kernel
theorem d_Dc_digitAt_5 : decode b_Dc_digitAt 5 = .ok (.iload_n 2, 1) := by decide +kernel
theorem d_Dc_digitAt_6 : decode b_Dc_digitAt 6 = .ok (.aload_n 0, 1) := by decide +kernel
theorem d_Dc_digitAt_7 : decode b_Dc_digitAt 7 = .ok (.getfield 13, 3) := by decide +kernel
theorem d_Dc_digitAt_10 : decode b_Dc_digitAt 10 = .ok (.if_icmp .lt (11), 3) := by decide +kernel
theorem d_Dc_digitAt_13 : decode b_Dc_digitAt 13 = .ok (.iload_n 2, 1) := by decide +kernel
theorem d_Dc_digitAt_14 : decode b_Dc_digitAt 14 = .ok (.aload_n 0, 1) := by decide +kernel
theorem d_Dc_digitAt_15 : decode b_Dc_digitAt 15 = .ok (.getfield 17, 3) := by decide +kernel
theorem d_Dc_digitAt_18 : decode b_Dc_digitAt 18 = .ok (.if_icmp .le (5), 3) := by decide +kernel
theorem d_Dc_digitAt_21 : decode b_Dc_digitAt 21 = .ok (.iconst 0, 1) := by decide +kernel
theorem d_Dc_digitAt_22 : decode b_Dc_digitAt 22 = .ok (.ireturn, 1) := by decide +kernel
theorem d_Dc_digitAt_23 : decode b_Dc_digitAt 23 = .ok (.aload_n 0, 1) := by decide +kernel
theorem d_Dc_digitAt_24 : decode b_Dc_digitAt 24 = .ok (.getfield 9, 3) := by decide +kernel
theorem d_Dc_digitAt_27 : decode b_Dc_digitAt 27 = .ok (.iload_n 2, 1) := by decide +kernel
theorem d_Dc_digitAt_28 : decode b_Dc_digitAt 28 = .ok (.iaload, 1) := by decide +kernel
theorem d_Dc_digitAt_29 : decode b_Dc_digitAt 29 = .ok (.getstatic 48, 3) := by decide +kernel
theorem d_Dc_digitAt_32 : decode b_Dc_digitAt 32 = .ok (.iload_n 1, 1) := by decide +kernel
theorem d_Dc_digitAt_33 : decode b_Dc_digitAt 33 = .ok (.invokestatic 55, 3) := by decide +kernel
theorem d_Dc_digitAt_36 : decode b_Dc_digitAt 36 = .ok (.iaload, 1) := by decide +kernel
theorem d_Dc_digitAt_37 : decode b_Dc_digitAt 37 = .ok (.idiv, 1) := by decide +kernel
theorem d_Dc_digitAt_38 : decode b_Dc_digitAt 38 = .ok (.bipush (10), 2) := by decide +kernel
theorem d_Dc_digitAt_40 : decode b_Dc_digitAt 40 = .ok (.irem, 1) := by decide +kernel
theorem d_Dc_digitAt_41 : decode b_Dc_digitAt 41 = .ok (.ireturn, 1) := by decide +kernel
set_option maxHeartbeats 4000000 in
set_option maxRecDepth 100000 in
theorem c_Dc_digitAt (l : Launch) (D : va_G) (cI cB : ClassId) (x d la t ba tt : Nat) (ad : Nat → Nat) (V : Int) (tx : List Int) (pl : Int) (hpl : -100000 ≤ pl ∧ pl ≤ 100000) : Ct l y_Dc_digitAt (ws_Dc_digitAt) 2 (AX x d la t ba) [.ref d, .int (iz pl)] (XW D cI cB x d la t ba tt ad V tx) (zR (some (.int (iz (dgt V pl)))) (XW D cI cB x d la t ba tt ad V tx)) := by
  refine z_body zSt_XW (by decide +kernel) rfl (Nat.le_of_ble_eq_true rfl) ?_
  intro p e s m args below meth c ls hx hb hml hr hlk hts0 hown hpre0 H locs hpre hS hl
  have hts : ∀ w ∈ TBL, w.before args s = true := fun w hw => hts0 w (List.mem_cons_of_mem _ hw)
  have hl : lv_has ls 3 [(0, .ref d), (1, .int (iz pl))] := hl
  have hw := hpre
  have hst0 := hpre0.st
  refine lv_iload_n hx hb d_Dc_digitAt_0 rfl (lv_at hl 1 rfl) ?_
  have hct := c_Dc_limbOf l D cI cB x d la t ba tt ad V tx pl hpl
  refine z_go (va_runS (As := [.int (iz pl)]) (rest := []) ⟨hx, hb, hml, hown, hts⟩ hct.2 (z_cwS hts w_Dc_limbOf tw_285 (by decide)) (z_preS hct.1 hw) rfl rfl hl.1 rfl (lv_room (Nat.le_of_ble_eq_true rfl)) d_Dc_digitAt_1 ⟨Nat.zero_le _, Nat.zero_le _⟩) hS (fun _ h9 => h9) (fun v9 t9 H locs hv9 hp9 hz9 hk9 hS => ?_)
  obtain ⟨rfl, hw⟩ := hp9
  have hw := XW.moved hv9.symm hw
  refine W.eq (g2 := F0 m 4 ls [.int (iz (34 - pl / 9))]) rfl ?_
  refine lv_istore_n hx hb d_Dc_digitAt_4 rfl hl (by decide) rfl (fun ls hl => ?_)
  have hl : lv_has ls 3 [(2, .int (iz (34 - pl / 9))), (0, .ref d), (1, .int (iz pl))] := hl
  refine lv_iload_n hx hb d_Dc_digitAt_5 rfl (lv_at hl 0 rfl) ?_
  refine lv_aload_n hx hb d_Dc_digitAt_6 rfl (lv_at hl 1 rfl) ?_
  have hw9 := hw
  obtain ⟨lt, f, fi, g, n, ⟨hK, hP, hD⟩, hdec, htx, -⟩ := hw9
  have hdr := hdec.1
  have htn := htx.1
  have htl := htx.2.1
  have hP : va_P D vwCl [(x, .inr (0, [.ref d, .ref t])), (d, .inr (1, [.ref la, .int (iz fi), .int (iz lt)])), (la, .inl (cI, 155, .inl (az f))), (t, .inr (2, [.ref ba, .int (iz n)])), (ba, .inl (cB, 1612, .inl (az g)))] H := hP
  have hD : va_D (AX x d la t ba) [(x, .inr (0, [.ref d, .ref t])), (d, .inr (1, [.ref la, .int (iz fi), .int (iz lt)])), (la, .inl (cI, 155, .inl (az f))), (t, .inr (2, [.ref ba, .int (iz n)])), (ba, .inl (cB, 1612, .inl (az g)))] := hD
  refine va_get (D := D) (ci := 1) (v := .int (iz fi)) (C := R_1) (T := T_1) (N := 3) hx hb hts in_1 hown hK hP 1 rfl rfl 1 (by decide) (hts _ tw_34) (fun _ h9 => h9) rfl d_Dc_digitAt_7 ?_
  refine z_icmp_lt (tgt := 21) hx hb d_Dc_digitAt_10 rfl ⟨by omega, by omega⟩ ⟨by omega, by omega⟩ (fun hc10 => ?_) (fun hc10 => ?_)
  · refine lv_iconst (v := iz 0) hx hb d_Dc_digitAt_21 rfl ?_
    exact z_iret hx hb hr hlk hS (zR_st zSt_XW) ⟨by rw [← hdec.2.2.2, dgt_out hdec.2.1 hdec.2.2.1 (by omega)], hw⟩ d_Dc_digitAt_22
  · refine lv_iload_n hx hb d_Dc_digitAt_13 rfl (lv_at hl 0 rfl) ?_
    refine lv_aload_n hx hb d_Dc_digitAt_14 rfl (lv_at hl 1 rfl) ?_
    refine va_get (D := D) (ci := 1) (v := .int (iz lt)) (C := R_1) (T := T_1) (N := 3) hx hb hts in_1 hown hK hP 1 rfl rfl 2 (by decide) (hts _ tw_35) (fun _ h9 => h9) rfl d_Dc_digitAt_15 ?_
    refine z_icmp_le (tgt := 23) hx hb d_Dc_digitAt_18 rfl ⟨by omega, by omega⟩ ⟨by omega, by omega⟩ (fun hc18 => ?_) (fun hc18 => ?_)
    · have hfr := hdec.2.1 (34 - pl / 9)
      have hp8 := pow10_8 (w := pl % 9) (by omega)
      have hd8 : dgt V pl = f (34 - pl / 9) / 10 ^ (pl % 9).toNat % 10 := by
        rw [← hdec.2.2.2]
        exact dgt_pv hdec.2.1 (by omega) (by omega)
      have hq8 : 0 ≤ f (34 - pl / 9) / 10 ^ (pl % 9).toNat := Int.ediv_nonneg (by omega) (by omega)
      have hq9 : f (34 - pl / 9) / 10 ^ (pl % 9).toNat ≤ f (34 - pl / 9) := Int.ediv_le_self _ (by omega)
      refine lv_aload_n hx hb d_Dc_digitAt_23 rfl (lv_at hl 1 rfl) ?_
      refine va_get (D := D) (ci := 1) (v := .ref la) (C := R_1) (T := T_1) (N := 3) hx hb hts in_1 hown hK hP 1 rfl rfl 0 (by decide) (hts _ tw_33) (fun _ h9 => h9) rfl d_Dc_digitAt_24 ?_
      refine lv_iload_n hx hb d_Dc_digitAt_27 rfl (lv_at hl 0 rfl) ?_
      refine z_iald hx hb hK hP 2 0 rfl rfl (by omega) (by omega) (by decide) d_Dc_digitAt_28 ?_
      refine va_gets hx hb hst0.1 hS hown (hts _ tw_275) (fun _ h9 => h9) d_Dc_digitAt_29 ?_
      refine lv_iload_n hx hb d_Dc_digitAt_32 rfl (lv_at hl 2 rfl) ?_
      have hct := c_Dc_placeIn l D cI cB x d la t ba tt ad V tx pl hpl
      refine z_go (va_runS (As := [.int (iz pl)]) (rest := [.ref tt, .int (iz (f (34 - pl / 9)))]) ⟨hx, hb, hml, hown, hts⟩ hct.2 (z_cwS hts w_Dc_placeInLimb tw_291 (by decide)) (z_preS hct.1 hw) rfl rfl hl.1 rfl (lv_room (Nat.le_of_ble_eq_true rfl)) d_Dc_digitAt_33 ⟨Nat.zero_le _, Nat.zero_le _⟩) hS (fun _ h9 => h9) (fun v9 t9 H locs hv9 hp9 hz9 hk9 hS => ?_)
      obtain ⟨rfl, hw⟩ := hp9
      have hw := XW.moved hv9.symm hw
      refine W.eq (g2 := F0 m 36 ls [.int (iz (pl % 9)), .ref tt, .int (iz (f (34 - pl / 9)))]) rfl ?_
      refine z_ten hx hb hst0.2.1 hS (by omega) (by omega) d_Dc_digitAt_36 ?_
      refine z_idiv hx hb d_Dc_digitAt_37 ⟨by omega, by omega⟩ ⟨by omega, by omega⟩ ?_
      refine lv_bipush (v := iz 10) hx hb d_Dc_digitAt_38 (by decide) ?_
      refine z_irem hx hb d_Dc_digitAt_40 ⟨by omega, by omega⟩ ⟨by omega, by omega⟩ ?_
      exact z_iret hx hb hr hlk hS (zR_st zSt_XW) ⟨by rw [hd8], hw⟩ d_Dc_digitAt_41
    · refine lv_iconst (v := iz 0) hx hb d_Dc_digitAt_21 rfl ?_
      exact z_iret hx hb hr hlk hS (zR_st zSt_XW) ⟨by rw [← hdec.2.2.2, dgt_out hdec.2.1 hdec.2.2.1 (by omega)], hw⟩ d_Dc_digitAt_22
end
section
theorem d_Dc_addOne_0 : decode b_Dc_addOneAt 0 = .ok (.getstatic 48, 3) := by decide +kernel
theorem d_Dc_addOne_3 : decode b_Dc_addOneAt 3 = .ok (.iload_n 1, 1) := by decide +kernel
theorem d_Dc_addOne_4 : decode b_Dc_addOneAt 4 = .ok (.invokestatic 55, 3) := by decide +kernel
theorem d_Dc_addOne_7 : decode b_Dc_addOneAt 7 = .ok (.iaload, 1) := by decide +kernel
theorem d_Dc_addOne_8 : decode b_Dc_addOneAt 8 = .ok (.istore_n 2, 1) := by decide +kernel
theorem d_Dc_addOne_9 : decode b_Dc_addOneAt 9 = .ok (.iload_n 1, 1) := by decide +kernel
theorem d_Dc_addOne_10 : decode b_Dc_addOneAt 10 = .ok (.invokestatic 51, 3) := by decide +kernel
theorem d_Dc_addOne_13 : decode b_Dc_addOneAt 13 = .ok (.istore_n 3, 1) := by decide +kernel
theorem d_Dc_addOne_14 : decode b_Dc_addOneAt 14 = .ok (.iload_n 3, 1) := by decide +kernel
theorem d_Dc_addOne_15 : decode b_Dc_addOneAt 15 = .ok (.ifCond .lt (90), 3) := by decide +kernel
theorem d_Dc_addOne_18 : decode b_Dc_addOneAt 18 = .ok (.iload_n 3, 1) := by decide +kernel
theorem d_Dc_addOne_19 : decode b_Dc_addOneAt 19 = .ok (.aload_n 0, 1) := by decide +kernel
theorem d_Dc_addOne_20 : decode b_Dc_addOneAt 20 = .ok (.getfield 9, 3) := by decide +kernel
theorem d_Dc_addOne_23 : decode b_Dc_addOneAt 23 = .ok (.arraylength, 1) := by decide +kernel
theorem d_Dc_addOne_24 : decode b_Dc_addOneAt 24 = .ok (.if_icmp .ge (81), 3) := by decide +kernel
theorem d_Dc_addOne_27 : decode b_Dc_addOneAt 27 = .ok (.iload_n 2, 1) := by decide +kernel
theorem d_Dc_addOne_28 : decode b_Dc_addOneAt 28 = .ok (.ifCond .le (77), 3) := by decide +kernel
theorem d_Dc_addOne_31 : decode b_Dc_addOneAt 31 = .ok (.aload_n 0, 1) := by decide +kernel
theorem d_Dc_addOne_32 : decode b_Dc_addOneAt 32 = .ok (.getfield 9, 3) := by decide +kernel
theorem d_Dc_addOne_35 : decode b_Dc_addOneAt 35 = .ok (.iload_n 3, 1) := by decide +kernel
theorem d_Dc_addOne_36 : decode b_Dc_addOneAt 36 = .ok (.iaload, 1) := by decide +kernel
theorem d_Dc_addOne_37 : decode b_Dc_addOneAt 37 = .ok (.iload_n 2, 1) := by decide +kernel
theorem d_Dc_addOne_38 : decode b_Dc_addOneAt 38 = .ok (.iadd, 1) := by decide +kernel
theorem d_Dc_addOne_39 : decode b_Dc_addOneAt 39 = .ok (.istore 4, 2) := by decide +kernel
theorem d_Dc_addOne_41 : decode b_Dc_addOneAt 41 = .ok (.iload 4, 2) := by decide +kernel
theorem d_Dc_addOne_43 : decode b_Dc_addOneAt 43 = .ok (.ldc 64, 2) := by decide +kernel
theorem d_Dc_addOne_45 : decode b_Dc_addOneAt 45 = .ok (.if_icmp .lt (7), 3) := by decide +kernel
theorem d_Dc_addOne_48 : decode b_Dc_addOneAt 48 = .ok (.iconst 1, 1) := by decide +kernel
theorem d_Dc_addOne_49 : decode b_Dc_addOneAt 49 = .ok (.goto (4), 3) := by decide +kernel
theorem d_Dc_addOne_52 : decode b_Dc_addOneAt 52 = .ok (.iconst 0, 1) := by decide +kernel
theorem d_Dc_addOne_53 : decode b_Dc_addOneAt 53 = .ok (.istore 5, 2) := by decide +kernel
theorem d_Dc_addOne_55 : decode b_Dc_addOneAt 55 = .ok (.aload_n 0, 1) := by decide +kernel
theorem d_Dc_addOne_56 : decode b_Dc_addOneAt 56 = .ok (.getfield 9, 3) := by decide +kernel
theorem d_Dc_addOne_59 : decode b_Dc_addOneAt 59 = .ok (.iload_n 3, 1) := by decide +kernel
theorem d_Dc_addOne_60 : decode b_Dc_addOneAt 60 = .ok (.iload 5, 2) := by decide +kernel
theorem d_Dc_addOne_62 : decode b_Dc_addOneAt 62 = .ok (.ifCond .eq (11), 3) := by decide +kernel
theorem d_Dc_addOne_65 : decode b_Dc_addOneAt 65 = .ok (.iload 4, 2) := by decide +kernel
theorem d_Dc_addOne_67 : decode b_Dc_addOneAt 67 = .ok (.ldc 64, 2) := by decide +kernel
theorem d_Dc_addOne_69 : decode b_Dc_addOneAt 69 = .ok (.isub, 1) := by decide +kernel
theorem d_Dc_addOne_70 : decode b_Dc_addOneAt 70 = .ok (.goto (5), 3) := by decide +kernel
theorem d_Dc_addOne_73 : decode b_Dc_addOneAt 73 = .ok (.iload 4, 2) := by decide +kernel
theorem d_Dc_addOne_75 : decode b_Dc_addOneAt 75 = .ok (.iastore, 1) := by decide +kernel
theorem d_Dc_addOne_76 : decode b_Dc_addOneAt 76 = .ok (.iload 5, 2) := by decide +kernel
theorem d_Dc_addOne_78 : decode b_Dc_addOneAt 78 = .ok (.ifCond .eq (7), 3) := by decide +kernel
theorem d_Dc_addOne_81 : decode b_Dc_addOneAt 81 = .ok (.iconst 1, 1) := by decide +kernel
theorem d_Dc_addOne_82 : decode b_Dc_addOneAt 82 = .ok (.goto (4), 3) := by decide +kernel
theorem d_Dc_addOne_85 : decode b_Dc_addOneAt 85 = .ok (.iconst 0, 1) := by decide +kernel
theorem d_Dc_addOne_86 : decode b_Dc_addOneAt 86 = .ok (.istore_n 2, 1) := by decide +kernel
theorem d_Dc_addOne_87 : decode b_Dc_addOneAt 87 = .ok (.aload_n 0, 1) := by decide +kernel
theorem d_Dc_addOne_88 : decode b_Dc_addOneAt 88 = .ok (.aload_n 0, 1) := by decide +kernel
theorem d_Dc_addOne_89 : decode b_Dc_addOneAt 89 = .ok (.getfield 13, 3) := by decide +kernel
theorem d_Dc_addOne_92 : decode b_Dc_addOneAt 92 = .ok (.iload_n 3, 1) := by decide +kernel
theorem d_Dc_addOne_93 : decode b_Dc_addOneAt 93 = .ok (.invokestatic 28, 3) := by decide +kernel
theorem d_Dc_addOne_96 : decode b_Dc_addOneAt 96 = .ok (.putfield 13, 3) := by decide +kernel
theorem d_Dc_addOne_99 : decode b_Dc_addOneAt 99 = .ok (.iinc 3 (-1), 3) := by decide +kernel
theorem d_Dc_addOne_102 : decode b_Dc_addOneAt 102 = .ok (.goto (-88), 3) := by decide +kernel
theorem d_Dc_addOne_105 : decode b_Dc_addOneAt 105 = .ok (.return_, 1) := by decide +kernel
set_option maxHeartbeats 4000000 in
set_option maxRecDepth 100000 in
theorem c_Dc_addOne (l : Launch) (D : va_G) (cI cB : ClassId) (x d la t ba tt : Nat) (ad : Nat → Nat) (V : Int) (tx : List Int) (pl : Int) (hpl : -1079 ≤ pl ∧ pl ≤ 314) (hV : V + 10 ^ (pl + 1080).toNat < 1000000000 ^ 155) (hd5 : dgt V (pl - 1) ≠ 0) : Ct l y_Dc_addOneAt (ws_Dc_addOneAt) 2 (AX x d la t ba) [.ref d, .int (iz pl)] (XW D cI cB x d la t ba tt ad V tx) (zR none (XW D cI cB x d la t ba tt ad (V + 10 ^ (pl + 1080).toNat) tx)) := by
  refine z_body zSt_XW (by decide +kernel) rfl (Nat.le_of_ble_eq_true rfl) ?_
  intro p e s m args below meth c ls hx hb hml hr hlk hts0 hown hpre0 H locs hpre hS hl
  have hts : ∀ w ∈ TBL, w.before args s = true := fun w hw => hts0 w (List.mem_cons_of_mem _ hw)
  have hl : lv_has ls 6 [(0, .ref d), (1, .int (iz pl))] := hl
  have hw := hpre
  have hst0 := hpre0.st
  have L14 : ∀ (N14 : Nat) (h : Int → Int) (fi : Int) (lt : Int) (g : Int → Int) (n : Int) (i : Int) (mo : Int) (H : Heap) (locs : List Loc) (ls : Array Slot), va_P D vwCl [(x, .inr (0, [.ref d, .ref t])), (d, .inr (1, [.ref la, .int (iz fi), .int (iz lt)])), (la, .inl (cI, 155, .inl (az h))), (t, .inr (2, [.ref ba, .int (iz n)])), (ba, .inl (cB, 1612, .inl (az g)))] H → va_D (AX x d la t ba) [(x, .inr (0, [.ref d, .ref t])), (d, .inr (1, [.ref la, .int (iz fi), .int (iz lt)])), (la, .inl (cI, 155, .inl (az h))), (t, .inr (2, [.ref ba, .int (iz n)])), (ba, .inl (cB, 1612, .inl (az g)))] → va_S (AX x d la t ba) s.heap H locs → lv_has ls 6 [(0, .ref d), (1, .int (iz pl)), (2, .int (iz mo)), (3, .int (iz i))] → (va_K D vwCl (tysX cI cB) s) → (AddI h fi lt (V + 10 ^ (pl + 1080).toNat) i mo) → (TxOK g n tx) → (i + 1).toNat < N14 → W p l e (zrm 2) s m args below meth c H locs 0 0 (MQ below (zQ (AX x d la t ba) (zR none (XW D cI cB x d la t ba tt ad (V + 10 ^ (pl + 1080).toNat) tx))) args s 0 0 (AX x d la t ba)) (F0 m 14 ls []) := by
    intro N14
    induction N14 with
    | zero => intro h fi lt g n i mo H locs ls hP hD hS hl hK hA htx hN14; exact absurd hN14 (Nat.not_lt_zero _)
    | succ N14 ih14 =>
      intro h fi lt g n i mo H locs ls hP hD hS hl hK hA htx hN14
      have hA1 := hA.1
      have hA2 := hA.2.1
      have hA3 := hA.2.2.1
      have hA4 := hA.2.2.2.1 i
      refine lv_iload_n hx hb d_Dc_addOne_14 rfl (lv_at hl 3 rfl) ?_
      refine z_if_lt (tgt := 105) hx hb d_Dc_addOne_15 rfl ⟨by omega, by omega⟩ (fun hc15 => ?_) (fun hc15 => ?_)
      · have e8 : mo = 0 := by
          by_cases h8 : i < 0
          · have e9 : i = -1 := by omega
            rw [e9] at hA
            exact hA.top hV
          · omega
        rw [e8] at hA
        exact z_vret hx hb hr hlk hS (zR_st zSt_XW) ⟨rfl, _, _, _, _, _, ⟨hK, hP, hD⟩, hA.stop, htx, hst0.kept hS.2.1⟩ d_Dc_addOne_105
      · refine lv_iload_n hx hb d_Dc_addOne_18 rfl (lv_at hl 3 rfl) ?_
        refine lv_aload_n hx hb d_Dc_addOne_19 rfl (lv_at hl 0 rfl) ?_
        refine va_get (D := D) (ci := 1) (v := .ref la) (C := R_1) (T := T_1) (N := 3) hx hb hts in_1 hown hK hP 1 rfl rfl 0 (by decide) (hts _ tw_33) (fun _ h9 => h9) rfl d_Dc_addOne_20 ?_
        refine z_alen hx hb hK hP 2 0 155 rfl rfl rfl d_Dc_addOne_23 ?_
        refine z_icmp_ge (tgt := 105) hx hb d_Dc_addOne_24 rfl ⟨by omega, by omega⟩ ⟨by omega, by omega⟩ (fun hc24 => ?_) (fun hc24 => ?_)
        · exfalso
          omega
        · refine lv_iload_n hx hb d_Dc_addOne_27 rfl (lv_at hl 2 rfl) ?_
          refine z_if_le (tgt := 105) hx hb d_Dc_addOne_28 rfl ⟨by omega, by omega⟩ (fun hc28 => ?_) (fun hc28 => ?_)
          · have e8 : mo = 0 := by
              by_cases h8 : i < 0
              · have e9 : i = -1 := by omega
                rw [e9] at hA
                exact hA.top hV
              · omega
            rw [e8] at hA
            exact z_vret hx hb hr hlk hS (zR_st zSt_XW) ⟨rfl, _, _, _, _, _, ⟨hK, hP, hD⟩, hA.stop, htx, hst0.kept hS.2.1⟩ d_Dc_addOne_105
          · refine lv_aload_n hx hb d_Dc_addOne_31 rfl (lv_at hl 0 rfl) ?_
            refine va_get (D := D) (ci := 1) (v := .ref la) (C := R_1) (T := T_1) (N := 3) hx hb hts in_1 hown hK hP 1 rfl rfl 0 (by decide) (hts _ tw_33) (fun _ h9 => h9) rfl d_Dc_addOne_32 ?_
            refine lv_iload_n hx hb d_Dc_addOne_35 rfl (lv_at hl 3 rfl) ?_
            refine z_iald hx hb hK hP 2 0 rfl rfl (by omega) (by omega) (by decide) d_Dc_addOne_36 ?_
            refine lv_iload_n hx hb d_Dc_addOne_37 rfl (lv_at hl 2 rfl) ?_
            refine z_iadd hx hb d_Dc_addOne_38 ?_
            refine lv_istore hx hb d_Dc_addOne_39 hl (by decide) rfl (fun ls hl => ?_)
            have hl : lv_has ls 6 [(4, .int (iz ((h i) + mo))), (0, .ref d), (1, .int (iz pl)), (2, .int (iz mo)), (3, .int (iz i))] := hl
            refine lv_iload hx hb d_Dc_addOne_41 (lv_at hl 0 rfl) ?_
            refine lv_ldc (v := (1000000000 : Int32)) hx hb hown (hts _ tw_301) d_Dc_addOne_43 ?_
            refine z_topi (y := iz (1000000000)) (by decide) ?_
            refine z_icmp_lt (tgt := 52) hx hb d_Dc_addOne_45 rfl ⟨by omega, by omega⟩ ⟨by omega, by omega⟩ (fun hc45 => ?_) (fun hc45 => ?_)
            · refine lv_iconst (v := iz 0) hx hb d_Dc_addOne_52 rfl ?_
              refine lv_istore hx hb d_Dc_addOne_53 hl (by decide) rfl (fun ls hl => ?_)
              have hl : lv_has ls 6 [(5, .int (iz 0)), (4, .int (iz ((h i) + mo))), (0, .ref d), (1, .int (iz pl)), (2, .int (iz mo)), (3, .int (iz i))] := hl
              refine lv_aload_n hx hb d_Dc_addOne_55 rfl (lv_at hl 2 rfl) ?_
              refine va_get (D := D) (ci := 1) (v := .ref la) (C := R_1) (T := T_1) (N := 3) hx hb hts in_1 hown hK hP 1 rfl rfl 0 (by decide) (hts _ tw_33) (fun _ h9 => h9) rfl d_Dc_addOne_56 ?_
              refine lv_iload_n hx hb d_Dc_addOne_59 rfl (lv_at hl 5 rfl) ?_
              refine lv_iload hx hb d_Dc_addOne_60 (lv_at hl 0 rfl) ?_
              refine z_if_eq (tgt := 73) hx hb d_Dc_addOne_62 rfl ⟨by omega, by omega⟩ (fun hc62 => ?_) (fun hc62 => ?_)
              · refine lv_iload hx hb d_Dc_addOne_73 (lv_at hl 1 rfl) ?_
                refine z_iast hx hb hK hP hD hS 2 0 rfl rfl (by omega) (by omega) (by decide) d_Dc_addOne_75 (fun H locs hP hD hS => ?_)
                have hP : va_P D vwCl [(x, .inr (0, [.ref d, .ref t])), (d, .inr (1, [.ref la, .int (iz fi), .int (iz lt)])), (la, .inl (cI, 155, .inl (az (up h i ((h i) + mo))))), (t, .inr (2, [.ref ba, .int (iz n)])), (ba, .inl (cB, 1612, .inl (az g)))] H := hP
                have hD : va_D (AX x d la t ba) [(x, .inr (0, [.ref d, .ref t])), (d, .inr (1, [.ref la, .int (iz fi), .int (iz lt)])), (la, .inl (cI, 155, .inl (az (up h i ((h i) + mo))))), (t, .inr (2, [.ref ba, .int (iz n)])), (ba, .inl (cB, 1612, .inl (az g)))] := hD
                refine lv_iload hx hb d_Dc_addOne_76 (lv_at hl 0 rfl) ?_
                refine z_if_eq (tgt := 85) hx hb d_Dc_addOne_78 rfl ⟨by omega, by omega⟩ (fun hc78 => ?_) (fun hc78 => ?_)
                · refine lv_iconst (v := iz 0) hx hb d_Dc_addOne_85 rfl ?_
                  refine lv_istore_n hx hb d_Dc_addOne_86 rfl hl (by decide) rfl (fun ls hl => ?_)
                  have hl : lv_has ls 6 [(2, .int (iz 0)), (5, .int (iz 0)), (4, .int (iz ((h i) + mo))), (0, .ref d), (1, .int (iz pl)), (3, .int (iz i))] := hl
                  refine lv_aload_n hx hb d_Dc_addOne_87 rfl (lv_at hl 3 rfl) ?_
                  refine lv_aload_n hx hb d_Dc_addOne_88 rfl (lv_at hl 3 rfl) ?_
                  refine va_get (D := D) (ci := 1) (v := .int (iz fi)) (C := R_1) (T := T_1) (N := 3) hx hb hts in_1 hown hK hP 1 rfl rfl 1 (by decide) (hts _ tw_34) (fun _ h9 => h9) rfl d_Dc_addOne_89 ?_
                  refine lv_iload_n hx hb d_Dc_addOne_92 rfl (lv_at hl 5 rfl) ?_
                  refine z_mmin hx hb (hml.trans hl.1.symm) hown (hts _ tw_260) (hts _ tw_261) (hts _ tw_16) (hts _ twm_min) (Nat.le_of_ble_eq_true rfl) (Nat.le_of_ble_eq_true rfl) (Nat.zero_le _) (Nat.zero_le _) ⟨by omega, by omega⟩ ⟨by omega, by omega⟩ d_Dc_addOne_93 ?_
                  refine va_put (D := D) (ci := 1) (v := .int (iz (min fi i))) (ty := .int) (C := R_1) (T := T_1) (N := 3) hx hb hts in_1 ty_1 tyok_1 nm_1 hown hK hP hD hS 1 rfl rfl 1 (by decide) (hts _ tw_34) (fun _ h9 => h9) rfl (by decide +kernel) rfl rfl (Nat.le_of_ble_eq_true rfl) d_Dc_addOne_96 (fun H locs hP hD hS => ?_)
                  have hP : va_P D vwCl [(x, .inr (0, [.ref d, .ref t])), (d, .inr (1, [.ref la, .int (iz (min fi i)), .int (iz lt)])), (la, .inl (cI, 155, .inl (az (up h i ((h i) + mo))))), (t, .inr (2, [.ref ba, .int (iz n)])), (ba, .inl (cB, 1612, .inl (az g)))] H := hP
                  have hD : va_D (AX x d la t ba) [(x, .inr (0, [.ref d, .ref t])), (d, .inr (1, [.ref la, .int (iz (min fi i)), .int (iz lt)])), (la, .inl (cI, 155, .inl (az (up h i ((h i) + mo))))), (t, .inr (2, [.ref ba, .int (iz n)])), (ba, .inl (cB, 1612, .inl (az g)))] := hD
                  refine lv_iinc (k := 5) (v := (iz (i - 1))) hx hb d_Dc_addOne_99 hl rfl (by show iz _ + iz (-1) = _; rw [← iz_add]; try rfl) (by decide) rfl (fun ls hl => ?_)
                  have hl : lv_has ls 6 [(3, .int (iz (i - 1))), (2, .int (iz 0)), (5, .int (iz 0)), (4, .int (iz ((h i) + mo))), (0, .ref d), (1, .int (iz pl))] := hl
                  refine lv_goto (tgt := 14) hx hb d_Dc_addOne_102 rfl ?_
                  exact ih14 (up h i ((h i) + mo)) (min fi i) lt g n (i - 1) 0 _ _ _ hP hD hS (lv_sub hl [4, 5, 1, 0] rfl) hK (hA.step (by omega) ⟨by omega, by omega⟩ ⟨by omega, by omega⟩ (by omega)) htx (by omega)
                · exfalso
                  omega
              · exfalso
                omega
            · refine lv_iconst (v := iz 1) hx hb d_Dc_addOne_48 rfl ?_
              refine lv_goto (tgt := 53) hx hb d_Dc_addOne_49 rfl ?_
              refine lv_istore hx hb d_Dc_addOne_53 hl (by decide) rfl (fun ls hl => ?_)
              have hl : lv_has ls 6 [(5, .int (iz 1)), (4, .int (iz ((h i) + mo))), (0, .ref d), (1, .int (iz pl)), (2, .int (iz mo)), (3, .int (iz i))] := hl
              refine lv_aload_n hx hb d_Dc_addOne_55 rfl (lv_at hl 2 rfl) ?_
              refine va_get (D := D) (ci := 1) (v := .ref la) (C := R_1) (T := T_1) (N := 3) hx hb hts in_1 hown hK hP 1 rfl rfl 0 (by decide) (hts _ tw_33) (fun _ h9 => h9) rfl d_Dc_addOne_56 ?_
              refine lv_iload_n hx hb d_Dc_addOne_59 rfl (lv_at hl 5 rfl) ?_
              refine lv_iload hx hb d_Dc_addOne_60 (lv_at hl 0 rfl) ?_
              refine z_if_eq (tgt := 73) hx hb d_Dc_addOne_62 rfl ⟨by omega, by omega⟩ (fun hc62 => ?_) (fun hc62 => ?_)
              · exfalso
                omega
              · refine lv_iload hx hb d_Dc_addOne_65 (lv_at hl 1 rfl) ?_
                refine lv_ldc (v := (1000000000 : Int32)) hx hb hown (hts _ tw_301) d_Dc_addOne_67 ?_
                refine z_topi (y := iz (1000000000)) (by decide) ?_
                refine z_isub hx hb d_Dc_addOne_69 ?_
                refine lv_goto (tgt := 75) hx hb d_Dc_addOne_70 rfl ?_
                refine z_iast hx hb hK hP hD hS 2 0 rfl rfl (by omega) (by omega) (by decide) d_Dc_addOne_75 (fun H locs hP hD hS => ?_)
                have hP : va_P D vwCl [(x, .inr (0, [.ref d, .ref t])), (d, .inr (1, [.ref la, .int (iz fi), .int (iz lt)])), (la, .inl (cI, 155, .inl (az (up h i (((h i) + mo) - 1000000000))))), (t, .inr (2, [.ref ba, .int (iz n)])), (ba, .inl (cB, 1612, .inl (az g)))] H := hP
                have hD : va_D (AX x d la t ba) [(x, .inr (0, [.ref d, .ref t])), (d, .inr (1, [.ref la, .int (iz fi), .int (iz lt)])), (la, .inl (cI, 155, .inl (az (up h i (((h i) + mo) - 1000000000))))), (t, .inr (2, [.ref ba, .int (iz n)])), (ba, .inl (cB, 1612, .inl (az g)))] := hD
                refine lv_iload hx hb d_Dc_addOne_76 (lv_at hl 0 rfl) ?_
                refine z_if_eq (tgt := 85) hx hb d_Dc_addOne_78 rfl ⟨by omega, by omega⟩ (fun hc78 => ?_) (fun hc78 => ?_)
                · exfalso
                  omega
                · refine lv_iconst (v := iz 1) hx hb d_Dc_addOne_81 rfl ?_
                  refine lv_goto (tgt := 86) hx hb d_Dc_addOne_82 rfl ?_
                  refine lv_istore_n hx hb d_Dc_addOne_86 rfl hl (by decide) rfl (fun ls hl => ?_)
                  have hl : lv_has ls 6 [(2, .int (iz 1)), (5, .int (iz 1)), (4, .int (iz ((h i) + mo))), (0, .ref d), (1, .int (iz pl)), (3, .int (iz i))] := hl
                  refine lv_aload_n hx hb d_Dc_addOne_87 rfl (lv_at hl 3 rfl) ?_
                  refine lv_aload_n hx hb d_Dc_addOne_88 rfl (lv_at hl 3 rfl) ?_
                  refine va_get (D := D) (ci := 1) (v := .int (iz fi)) (C := R_1) (T := T_1) (N := 3) hx hb hts in_1 hown hK hP 1 rfl rfl 1 (by decide) (hts _ tw_34) (fun _ h9 => h9) rfl d_Dc_addOne_89 ?_
                  refine lv_iload_n hx hb d_Dc_addOne_92 rfl (lv_at hl 5 rfl) ?_
                  refine z_mmin hx hb (hml.trans hl.1.symm) hown (hts _ tw_260) (hts _ tw_261) (hts _ tw_16) (hts _ twm_min) (Nat.le_of_ble_eq_true rfl) (Nat.le_of_ble_eq_true rfl) (Nat.zero_le _) (Nat.zero_le _) ⟨by omega, by omega⟩ ⟨by omega, by omega⟩ d_Dc_addOne_93 ?_
                  refine va_put (D := D) (ci := 1) (v := .int (iz (min fi i))) (ty := .int) (C := R_1) (T := T_1) (N := 3) hx hb hts in_1 ty_1 tyok_1 nm_1 hown hK hP hD hS 1 rfl rfl 1 (by decide) (hts _ tw_34) (fun _ h9 => h9) rfl (by decide +kernel) rfl rfl (Nat.le_of_ble_eq_true rfl) d_Dc_addOne_96 (fun H locs hP hD hS => ?_)
                  have hP : va_P D vwCl [(x, .inr (0, [.ref d, .ref t])), (d, .inr (1, [.ref la, .int (iz (min fi i)), .int (iz lt)])), (la, .inl (cI, 155, .inl (az (up h i (((h i) + mo) - 1000000000))))), (t, .inr (2, [.ref ba, .int (iz n)])), (ba, .inl (cB, 1612, .inl (az g)))] H := hP
                  have hD : va_D (AX x d la t ba) [(x, .inr (0, [.ref d, .ref t])), (d, .inr (1, [.ref la, .int (iz (min fi i)), .int (iz lt)])), (la, .inl (cI, 155, .inl (az (up h i (((h i) + mo) - 1000000000))))), (t, .inr (2, [.ref ba, .int (iz n)])), (ba, .inl (cB, 1612, .inl (az g)))] := hD
                  refine lv_iinc (k := 5) (v := (iz (i - 1))) hx hb d_Dc_addOne_99 hl rfl (by show iz _ + iz (-1) = _; rw [← iz_add]; try rfl) (by decide) rfl (fun ls hl => ?_)
                  have hl : lv_has ls 6 [(3, .int (iz (i - 1))), (2, .int (iz 1)), (5, .int (iz 1)), (4, .int (iz ((h i) + mo))), (0, .ref d), (1, .int (iz pl))] := hl
                  refine lv_goto (tgt := 14) hx hb d_Dc_addOne_102 rfl ?_
                  exact ih14 (up h i (((h i) + mo) - 1000000000)) (min fi i) lt g n (i - 1) 1 _ _ _ hP hD hS (lv_sub hl [4, 5, 1, 0] rfl) hK (hA.step (by omega) ⟨by omega, by omega⟩ ⟨by omega, by omega⟩ (by omega)) htx (by omega)
  refine va_gets hx hb hst0.1 hS hown (hts _ tw_275) (fun _ h9 => h9) d_Dc_addOne_0 ?_
  refine lv_iload_n hx hb d_Dc_addOne_3 rfl (lv_at hl 1 rfl) ?_
  have hct := c_Dc_placeIn l D cI cB x d la t ba tt ad V tx pl ⟨by omega, by omega⟩
  refine z_go (va_runS (As := [.int (iz pl)]) (rest := [.ref tt]) ⟨hx, hb, hml, hown, hts⟩ hct.2 (z_cwS hts w_Dc_placeInLimb tw_291 (by decide)) (z_preS hct.1 hw) rfl rfl hl.1 rfl (lv_room (Nat.le_of_ble_eq_true rfl)) d_Dc_addOne_4 ⟨Nat.zero_le _, Nat.zero_le _⟩) hS (fun _ h9 => h9) (fun v9 t9 H locs hv9 hp9 hz9 hk9 hS => ?_)
  obtain ⟨rfl, hw⟩ := hp9
  have hw := XW.moved hv9.symm hw
  refine W.eq (g2 := F0 m 7 ls [.int (iz (pl % 9)), .ref tt]) rfl ?_
  refine z_ten hx hb hst0.2.1 hS (by omega) (by omega) d_Dc_addOne_7 ?_
  refine lv_istore_n hx hb d_Dc_addOne_8 rfl hl (by decide) rfl (fun ls hl => ?_)
  have hl : lv_has ls 6 [(2, .int (iz (10 ^ (pl % 9).toNat))), (0, .ref d), (1, .int (iz pl))] := hl
  refine lv_iload_n hx hb d_Dc_addOne_9 rfl (lv_at hl 2 rfl) ?_
  have hct := c_Dc_limbOf l D cI cB x d la t ba tt ad V tx pl ⟨by omega, by omega⟩
  refine z_go (va_runS (As := [.int (iz pl)]) (rest := []) ⟨hx, hb, hml, hown, hts⟩ hct.2 (z_cwS hts w_Dc_limbOf tw_285 (by decide)) (z_preS hct.1 hw) rfl rfl hl.1 rfl (lv_room (Nat.le_of_ble_eq_true rfl)) d_Dc_addOne_10 ⟨Nat.zero_le _, Nat.zero_le _⟩) hS (fun _ h9 => h9) (fun v9 t9 H locs hv9 hp9 hz9 hk9 hS => ?_)
  obtain ⟨rfl, hw⟩ := hp9
  have hw := XW.moved hv9.symm hw
  refine W.eq (g2 := F0 m 13 ls [.int (iz (34 - pl / 9))]) rfl ?_
  refine lv_istore_n hx hb d_Dc_addOne_13 rfl hl (by decide) rfl (fun ls hl => ?_)
  have hl : lv_has ls 6 [(3, .int (iz (34 - pl / 9))), (2, .int (iz (10 ^ (pl % 9).toNat))), (0, .ref d), (1, .int (iz pl))] := hl
  have hw9 := hw
  obtain ⟨lt, f, fi, g, n, ⟨hK, hP, hD⟩, hdec, htx, -⟩ := hw9
  have hdr := hdec.1
  have htn := htx.1
  have htl := htx.2.1
  have hP : va_P D vwCl [(x, .inr (0, [.ref d, .ref t])), (d, .inr (1, [.ref la, .int (iz fi), .int (iz lt)])), (la, .inl (cI, 155, .inl (az f))), (t, .inr (2, [.ref ba, .int (iz n)])), (ba, .inl (cB, 1612, .inl (az g)))] H := hP
  have hD : va_D (AX x d la t ba) [(x, .inr (0, [.ref d, .ref t])), (d, .inr (1, [.ref la, .int (iz fi), .int (iz lt)])), (la, .inl (cI, 155, .inl (az f))), (t, .inr (2, [.ref ba, .int (iz n)])), (ba, .inl (cB, 1612, .inl (az g)))] := hD
  exact L14 _ f fi lt g n (34 - pl / 9) (10 ^ (pl % 9).toNat) _ _ _ hP hD hS (lv_sub hl [2, 3, 1, 0] rfl) hK (AddI.start hdec (by
        by_cases hq : 34 - pl / 9 ≤ lt
        · exact hq
        · exfalso
          apply hd5
          rw [← hdec.2.2.2]
          exact dgt_out hdec.2.1 hdec.2.2.1 (Or.inr (by omega))) (by omega)) htx (Nat.lt_succ_self _)
theorem d_Dc_roundAt_0 : decode b_Dc_roundAt 0 = .ok (.aload_n 0, 1) := by decide +kernel
theorem d_Dc_roundAt_1 : decode b_Dc_roundAt 1 = .ok (.iload_n 1, 1) := by decide +kernel
theorem d_Dc_roundAt_2 : decode b_Dc_roundAt 2 = .ok (.iconst 1, 1) := by decide +kernel
theorem d_Dc_roundAt_3 : decode b_Dc_roundAt 3 = .ok (.isub, 1) := by decide +kernel
theorem d_Dc_roundAt_4 : decode b_Dc_roundAt 4 = .ok (.invokevirtual 58, 3) := by decide +kernel
theorem d_Dc_roundAt_7 : decode b_Dc_roundAt 7 = .ok (.iconst 5, 1) := by decide +kernel
theorem d_Dc_roundAt_8 : decode b_Dc_roundAt 8 = .ok (.if_icmp .lt (8), 3) := by decide +kernel
theorem d_Dc_roundAt_11 : decode b_Dc_roundAt 11 = .ok (.aload_n 0, 1) := by decide +kernel
theorem d_Dc_roundAt_12 : decode b_Dc_roundAt 12 = .ok (.iload_n 1, 1) := by decide +kernel
theorem d_Dc_roundAt_13 : decode b_Dc_roundAt 13 = .ok (.invokevirtual 61, 3) := by decide +kernel
theorem d_Dc_roundAt_16 : decode b_Dc_roundAt 16 = .ok (.return_, 1) := by decide +kernel
set_option maxHeartbeats 4000000 in
set_option maxRecDepth 100000 in
theorem c_Dc_roundAt (l : Launch) (D : va_G) (cI cB : ClassId) (x d la t ba tt : Nat) (ad : Nat → Nat) (V : Int) (tx : List Int) (pl : Int) (hpl : -99999 ≤ pl ∧ pl ≤ 99999) (hV0 : 0 ≤ V) (hV : V < 10 ^ 1389) : Ct l y_Dc_roundAt (ws_Dc_roundAt) 3 (AX x d la t ba) [.ref d, .int (iz pl)] (XW D cI cB x d la t ba tt ad V tx) (zR none (XW D cI cB x d la t ba tt ad (rup V pl) tx)) := by
  refine z_body zSt_XW (by decide +kernel) rfl (Nat.le_of_ble_eq_true rfl) ?_
  intro p e s m args below meth c ls hx hb hml hr hlk hts0 hown hpre0 H locs hpre hS hl
  have hts : ∀ w ∈ TBL, w.before args s = true := fun w hw => hts0 w (List.mem_cons_of_mem _ hw)
  have hl : lv_has ls 2 [(0, .ref d), (1, .int (iz pl))] := hl
  have hw := hpre
  have hst0 := hpre0.st
  refine lv_aload_n hx hb d_Dc_roundAt_0 rfl (lv_at hl 0 rfl) ?_
  refine lv_iload_n hx hb d_Dc_roundAt_1 rfl (lv_at hl 1 rfl) ?_
  refine lv_iconst (v := iz 1) hx hb d_Dc_roundAt_2 rfl ?_
  refine z_isub hx hb d_Dc_roundAt_3 ?_
  have hct := c_Dc_digitAt l D cI cB x d la t ba tt ad V tx (pl - 1) ⟨by omega, by omega⟩
  have hw9 := hw
  obtain ⟨lt, f, fi, g, n, ⟨hK, hP, hD⟩, hdec, htx, -⟩ := hw9
  have hdr := hdec.1
  have htn := htx.1
  have htl := htx.2.1
  have hP : va_P D vwCl [(x, .inr (0, [.ref d, .ref t])), (d, .inr (1, [.ref la, .int (iz fi), .int (iz lt)])), (la, .inl (cI, 155, .inl (az f))), (t, .inr (2, [.ref ba, .int (iz n)])), (ba, .inl (cB, 1612, .inl (az g)))] H := hP
  have hD : va_D (AX x d la t ba) [(x, .inr (0, [.ref d, .ref t])), (d, .inr (1, [.ref la, .int (iz fi), .int (iz lt)])), (la, .inl (cI, 155, .inl (az f))), (t, .inr (2, [.ref ba, .int (iz n)])), (ba, .inl (cB, 1612, .inl (az g)))] := hD
  refine z_go (va_runV (As := [.int (iz (pl - 1))]) (rest := []) ⟨hx, hb, hml, hown, hts⟩ hct.2 (z_cwV hts w_Dc_digitAt tw_281 (by decide)) (z_preV hct.1 (va_recv hK hP (ci := 1) (q0 := 1) rfl rfl) hw) rfl rfl hl.1 rfl (lv_room (Nat.le_of_ble_eq_true rfl)) d_Dc_roundAt_4 ⟨Nat.zero_le _, Nat.zero_le _⟩) hS (fun _ h9 => h9) (fun v9 t9 H locs hv9 hp9 hz9 hk9 hS => ?_)
  obtain ⟨rfl, hw⟩ := hp9
  have hw := XW.moved hv9.symm hw
  refine W.eq (g2 := F0 m 7 ls [.int (iz (dgt V (pl - 1)))]) rfl ?_
  refine lv_iconst (v := iz 5) hx hb d_Dc_roundAt_7 rfl ?_
  have hdr9 := dgt_r V (pl - 1)
  refine z_icmp_lt (tgt := 16) hx hb d_Dc_roundAt_8 rfl ⟨by omega, by omega⟩ ⟨by omega, by omega⟩ (fun hc8 => ?_) (fun hc8 => ?_)
  · exact z_vret hx hb hr hlk hS (zR_st zSt_XW) ⟨rfl, by unfold rup; first | (rw [if_pos hc8]; exact hw) | (rw [if_neg (by omega)]; exact hw)⟩ d_Dc_roundAt_16
  · refine lv_aload_n hx hb d_Dc_roundAt_11 rfl (lv_at hl 0 rfl) ?_
    refine lv_iload_n hx hb d_Dc_roundAt_12 rfl (lv_at hl 1 rfl) ?_
    have hd8 : 5 ≤ dgt V (pl - 1) := hc8
    have hct := c_Dc_addOne l D cI cB x d la t ba tt ad V tx pl (rup_pl hV0 hV hd8) (rup_lt hV0 hV hd8) (by omega)
    have hw9 := hw
    obtain ⟨lt, f, fi, g, n, ⟨hK, hP, hD⟩, hdec, htx, -⟩ := hw9
    have hdr := hdec.1
    have htn := htx.1
    have htl := htx.2.1
    have hP : va_P D vwCl [(x, .inr (0, [.ref d, .ref t])), (d, .inr (1, [.ref la, .int (iz fi), .int (iz lt)])), (la, .inl (cI, 155, .inl (az f))), (t, .inr (2, [.ref ba, .int (iz n)])), (ba, .inl (cB, 1612, .inl (az g)))] H := hP
    have hD : va_D (AX x d la t ba) [(x, .inr (0, [.ref d, .ref t])), (d, .inr (1, [.ref la, .int (iz fi), .int (iz lt)])), (la, .inl (cI, 155, .inl (az f))), (t, .inr (2, [.ref ba, .int (iz n)])), (ba, .inl (cB, 1612, .inl (az g)))] := hD
    refine z_go (va_runV (As := [.int (iz pl)]) (rest := []) ⟨hx, hb, hml, hown, hts⟩ hct.2 (z_cwV hts w_Dc_addOneAt tw_297 (by decide)) (z_preV hct.1 (va_recv hK hP (ci := 1) (q0 := 1) rfl rfl) hw) rfl rfl hl.1 rfl (lv_room (Nat.le_of_ble_eq_true rfl)) d_Dc_roundAt_13 ⟨Nat.zero_le _, Nat.zero_le _⟩) hS (fun _ h9 => h9) (fun v9 t9 H locs hv9 hp9 hz9 hk9 hS => ?_)
    obtain ⟨rfl, hw⟩ := hp9
    have hw := XW.moved hv9.symm hw
    refine W.eq (g2 := F0 m 16 ls []) rfl ?_
    exact z_vret hx hb hr hlk hS (zR_st zSt_XW) ⟨rfl, by unfold rup; first | (rw [if_pos hc8]; exact hw) | (rw [if_neg (by omega)]; exact hw)⟩ d_Dc_roundAt_16
end
section
theorem d_Dc_mul_0 : decode b_Dc_multiplyByPowerOfTwo 0 = .ok (.lconst 0, 1) := by decide +kernel
theorem d_Dc_mul_1 : decode b_Dc_multiplyByPowerOfTwo 1 = .ok (.lstore_n 2, 1) := by decide +kernel
theorem d_Dc_mul_2 : decode b_Dc_multiplyByPowerOfTwo 2 = .ok (.aload_n 0, 1) := by decide +kernel
theorem d_Dc_mul_3 : decode b_Dc_multiplyByPowerOfTwo 3 = .ok (.getfield 17, 3) := by decide +kernel
theorem d_Dc_mul_6 : decode b_Dc_multiplyByPowerOfTwo 6 = .ok (.istore 4, 2) := by decide +kernel
theorem d_Dc_mul_8 : decode b_Dc_multiplyByPowerOfTwo 8 = .ok (.iload 4, 2) := by decide +kernel
theorem d_Dc_mul_10 : decode b_Dc_multiplyByPowerOfTwo 10 = .ok (.aload_n 0, 1) := by decide +kernel
theorem d_Dc_mul_11 : decode b_Dc_multiplyByPowerOfTwo 11 = .ok (.getfield 13, 3) := by decide +kernel
theorem d_Dc_mul_14 : decode b_Dc_multiplyByPowerOfTwo 14 = .ok (.if_icmp .lt (46), 3) := by decide +kernel
theorem d_Dc_mul_17 : decode b_Dc_multiplyByPowerOfTwo 17 = .ok (.aload_n 0, 1) := by decide +kernel
theorem d_Dc_mul_18 : decode b_Dc_multiplyByPowerOfTwo 18 = .ok (.getfield 9, 3) := by decide +kernel
theorem d_Dc_mul_21 : decode b_Dc_multiplyByPowerOfTwo 21 = .ok (.iload 4, 2) := by decide +kernel
theorem d_Dc_mul_23 : decode b_Dc_multiplyByPowerOfTwo 23 = .ok (.iaload, 1) := by decide +kernel
theorem d_Dc_mul_24 : decode b_Dc_multiplyByPowerOfTwo 24 = .ok (.i2l, 1) := by decide +kernel
theorem d_Dc_mul_25 : decode b_Dc_multiplyByPowerOfTwo 25 = .ok (.iload_n 1, 1) := by decide +kernel
theorem d_Dc_mul_26 : decode b_Dc_multiplyByPowerOfTwo 26 = .ok (.lshl, 1) := by decide +kernel
theorem d_Dc_mul_27 : decode b_Dc_multiplyByPowerOfTwo 27 = .ok (.lload_n 2, 1) := by decide +kernel
theorem d_Dc_mul_28 : decode b_Dc_multiplyByPowerOfTwo 28 = .ok (.ladd, 1) := by decide +kernel
theorem d_Dc_mul_29 : decode b_Dc_multiplyByPowerOfTwo 29 = .ok (.lstore 5, 2) := by decide +kernel
theorem d_Dc_mul_31 : decode b_Dc_multiplyByPowerOfTwo 31 = .ok (.lload 5, 2) := by decide +kernel
theorem d_Dc_mul_33 : decode b_Dc_multiplyByPowerOfTwo 33 = .ok (.ldc2_w 46, 3) := by decide +kernel
theorem d_Dc_mul_36 : decode b_Dc_multiplyByPowerOfTwo 36 = .ok (.ldiv, 1) := by decide +kernel
theorem d_Dc_mul_37 : decode b_Dc_multiplyByPowerOfTwo 37 = .ok (.lstore_n 2, 1) := by decide +kernel
theorem d_Dc_mul_38 : decode b_Dc_multiplyByPowerOfTwo 38 = .ok (.aload_n 0, 1) := by decide +kernel
theorem d_Dc_mul_39 : decode b_Dc_multiplyByPowerOfTwo 39 = .ok (.getfield 9, 3) := by decide +kernel
theorem d_Dc_mul_42 : decode b_Dc_multiplyByPowerOfTwo 42 = .ok (.iload 4, 2) := by decide +kernel
theorem d_Dc_mul_44 : decode b_Dc_multiplyByPowerOfTwo 44 = .ok (.lload 5, 2) := by decide +kernel
theorem d_Dc_mul_46 : decode b_Dc_multiplyByPowerOfTwo 46 = .ok (.lload_n 2, 1) := by decide +kernel
theorem d_Dc_mul_47 : decode b_Dc_multiplyByPowerOfTwo 47 = .ok (.ldc2_w 46, 3) := by decide +kernel
theorem d_Dc_mul_50 : decode b_Dc_multiplyByPowerOfTwo 50 = .ok (.lmul, 1) := by decide +kernel
theorem d_Dc_mul_51 : decode b_Dc_multiplyByPowerOfTwo 51 = .ok (.lsub, 1) := by decide +kernel
theorem d_Dc_mul_52 : decode b_Dc_multiplyByPowerOfTwo 52 = .ok (.l2i, 1) := by decide +kernel
theorem d_Dc_mul_53 : decode b_Dc_multiplyByPowerOfTwo 53 = .ok (.iastore, 1) := by decide +kernel
theorem d_Dc_mul_54 : decode b_Dc_multiplyByPowerOfTwo 54 = .ok (.iinc 4 (-1), 3) := by decide +kernel
theorem d_Dc_mul_57 : decode b_Dc_multiplyByPowerOfTwo 57 = .ok (.goto (-49), 3) := by decide +kernel
theorem d_Dc_mul_60 : decode b_Dc_multiplyByPowerOfTwo 60 = .ok (.lload_n 2, 1) := by decide +kernel
theorem d_Dc_mul_61 : decode b_Dc_multiplyByPowerOfTwo 61 = .ok (.lconst 0, 1) := by decide +kernel
theorem d_Dc_mul_62 : decode b_Dc_multiplyByPowerOfTwo 62 = .ok (.lcmp, 1) := by decide +kernel
theorem d_Dc_mul_63 : decode b_Dc_multiplyByPowerOfTwo 63 = .ok (.ifCond .eq (31), 3) := by decide +kernel
theorem d_Dc_mul_66 : decode b_Dc_multiplyByPowerOfTwo 66 = .ok (.aload_n 0, 1) := by decide +kernel
theorem d_Dc_mul_67 : decode b_Dc_multiplyByPowerOfTwo 67 = .ok (.getfield 13, 3) := by decide +kernel
theorem d_Dc_mul_70 : decode b_Dc_multiplyByPowerOfTwo 70 = .ok (.ifCond .le (24), 3) := by decide +kernel
theorem d_Dc_mul_73 : decode b_Dc_multiplyByPowerOfTwo 73 = .ok (.aload_n 0, 1) := by decide +kernel
theorem d_Dc_mul_74 : decode b_Dc_multiplyByPowerOfTwo 74 = .ok (.dup, 1) := by decide +kernel
theorem d_Dc_mul_75 : decode b_Dc_multiplyByPowerOfTwo 75 = .ok (.getfield 13, 3) := by decide +kernel
theorem d_Dc_mul_78 : decode b_Dc_multiplyByPowerOfTwo 78 = .ok (.iconst 1, 1) := by decide +kernel
theorem d_Dc_mul_79 : decode b_Dc_multiplyByPowerOfTwo 79 = .ok (.isub, 1) := by decide +kernel
theorem d_Dc_mul_80 : decode b_Dc_multiplyByPowerOfTwo 80 = .ok (.putfield 13, 3) := by decide +kernel
theorem d_Dc_mul_83 : decode b_Dc_multiplyByPowerOfTwo 83 = .ok (.aload_n 0, 1) := by decide +kernel
theorem d_Dc_mul_84 : decode b_Dc_multiplyByPowerOfTwo 84 = .ok (.getfield 9, 3) := by decide +kernel
theorem d_Dc_mul_87 : decode b_Dc_multiplyByPowerOfTwo 87 = .ok (.aload_n 0, 1) := by decide +kernel
theorem d_Dc_mul_88 : decode b_Dc_multiplyByPowerOfTwo 88 = .ok (.getfield 13, 3) := by decide +kernel
theorem d_Dc_mul_91 : decode b_Dc_multiplyByPowerOfTwo 91 = .ok (.lload_n 2, 1) := by decide +kernel
theorem d_Dc_mul_92 : decode b_Dc_multiplyByPowerOfTwo 92 = .ok (.l2i, 1) := by decide +kernel
theorem d_Dc_mul_93 : decode b_Dc_multiplyByPowerOfTwo 93 = .ok (.iastore, 1) := by decide +kernel
theorem d_Dc_mul_94 : decode b_Dc_multiplyByPowerOfTwo 94 = .ok (.return_, 1) := by decide +kernel
set_option maxHeartbeats 4000000 in
set_option maxRecDepth 100000 in
theorem c_Dc_mul (l : Launch) (D : va_G) (cI cB : ClassId) (x d la t ba tt : Nat) (ad : Nat → Nat) (V : Int) (tx : List Int) (lt : Int) (bn : Nat) (P : Int) (hbn : 1 ≤ bn ∧ bn ≤ 29) (hPe : P = 2 ^ bn) (hV : P * V < 1000000000 ^ 155) : Ct l y_Dc_multiplyByPowerOfTwo (ws_Dc_multiplyByPowerOfTwo) 0 (AX x d la t ba) [.ref d, .int (iz (bn : Int))] (XL D cI cB x d la t ba tt ad V lt tx) (zR none (XL D cI cB x d la t ba tt ad (P * V) lt tx)) := by
  refine z_body zSt_XL (by decide +kernel) rfl (Nat.le_of_ble_eq_true rfl) ?_
  intro p e s m args below meth c ls hx hb hml hr hlk hts0 hown hpre0 H locs hpre hS hl
  have hts : ∀ w ∈ TBL, w.before args s = true := fun w hw => hts0 w (List.mem_cons_of_mem _ hw)
  have hl : lv_has ls 7 [(0, .ref d), (1, .int (iz (bn : Int)))] := hl
  have hw := hpre
  have hst0 := hpre0.st
  have hw9 := hw
  obtain ⟨f, fi, g, n, ⟨hK, hP, hD⟩, hdec, htx, -⟩ := hw9
  have hdr := hdec.1
  have htn := htx.1
  have htl := htx.2.1
  have hPb : 0 < P ∧ P ≤ 536870912 := by rw [hPe]; exact pow2_29 hbn.2
  have L8 : ∀ (N8 : Nat) (i : Int) (cy : Int) (h : Int → Int) (H : Heap) (locs : List Loc) (ls : Array Slot), va_P D vwCl [(x, .inr (0, [.ref d, .ref t])), (d, .inr (1, [.ref la, .int (iz fi), .int (iz lt)])), (la, .inl (cI, 155, .inl (az h))), (t, .inr (2, [.ref ba, .int (iz n)])), (ba, .inl (cB, 1612, .inl (az g)))] H → va_D (AX x d la t ba) [(x, .inr (0, [.ref d, .ref t])), (d, .inr (1, [.ref la, .int (iz fi), .int (iz lt)])), (la, .inl (cI, 155, .inl (az h))), (t, .inr (2, [.ref ba, .int (iz n)])), (ba, .inl (cB, 1612, .inl (az g)))] → va_S (AX x d la t ba) s.heap H locs → lv_has ls 7 [(0, .ref d), (1, .int (iz (bn : Int))), (2, .long (lz cy)), (4, .int (iz i))] → (MulI f h P V fi lt i cy) → (i - fi + 1).toNat < N8 → W p l e (zrm 0) s m args below meth c H locs 0 0 (MQ below (zQ (AX x d la t ba) (zR none (XL D cI cB x d la t ba tt ad (P * V) lt tx))) args s 0 0 (AX x d la t ba)) (F0 m 8 ls []) := by
    intro N8
    induction N8 with
    | zero => intro i cy h H locs ls hP hD hS hl hM hN8; exact absurd hN8 (Nat.not_lt_zero _)
    | succ N8 ih8 =>
      intro i cy h H locs ls hP hD hS hl hM hN8
      have hM1 := hM.1
      have hM2 := hM.2.1
      have hMi := hM.2.2.1 i
      have hb8 := mul_b hMi hPb
      have hc8 := mul_c hMi hPb.1 hM2
      refine lv_iload hx hb d_Dc_mul_8 (lv_at hl 3 rfl) ?_
      refine lv_aload_n hx hb d_Dc_mul_10 rfl (lv_at hl 0 rfl) ?_
      refine va_get (D := D) (ci := 1) (v := .int (iz fi)) (C := R_1) (T := T_1) (N := 3) hx hb hts in_1 hown hK hP 1 rfl rfl 1 (by decide) (hts _ tw_34) (fun _ h9 => h9) rfl d_Dc_mul_11 ?_
      refine z_icmp_lt (tgt := 60) hx hb d_Dc_mul_14 rfl ⟨by omega, by omega⟩ ⟨by omega, by omega⟩ (fun hc14 => ?_) (fun hc14 => ?_)
      · have e8 : i = fi - 1 := by omega
        rw [e8] at hM
        refine lv_lload_n hx hb d_Dc_mul_60 rfl (lv_at hl 2 rfl) ?_
        refine lv_lconst (v := lz 0) hx hb d_Dc_mul_61 (by decide) ?_
        refine z_lif_eq (tgt := 94) hx hb d_Dc_mul_62 d_Dc_mul_63 rfl ⟨by omega, by omega⟩ ⟨by omega, by omega⟩ (fun hc62 => ?_) (fun hc62 => ?_)
        · exact z_vret hx hb hr hlk hS (zR_st zSt_XL) (by
              first
                | exact ⟨rfl, _, _, _, _, ⟨hK, hP, hD⟩, (by rw [hc62] at hM; exact hM.stop0 hdec), htx, hst0.kept hS.2.1⟩
                | exact ⟨rfl, _, _, _, _, ⟨hK, hP, hD⟩, (hM.stop1 hdec (by omega) (by omega)), htx, hst0.kept hS.2.1⟩) d_Dc_mul_94
        · refine lv_aload_n hx hb d_Dc_mul_66 rfl (lv_at hl 0 rfl) ?_
          refine va_get (D := D) (ci := 1) (v := .int (iz fi)) (C := R_1) (T := T_1) (N := 3) hx hb hts in_1 hown hK hP 1 rfl rfl 1 (by decide) (hts _ tw_34) (fun _ h9 => h9) rfl d_Dc_mul_67 ?_
          refine z_if_le (tgt := 94) hx hb d_Dc_mul_70 rfl ⟨by omega, by omega⟩ (fun hc70 => ?_) (fun hc70 => ?_)
          · exfalso
            have e7 : fi = 0 := by omega
            rw [e7] at hM
            exact hc62 (hM.top hV)
          · refine lv_aload_n hx hb d_Dc_mul_73 rfl (lv_at hl 0 rfl) ?_
            refine lv_dup hx hb d_Dc_mul_74 rfl ?_
            refine va_get (D := D) (ci := 1) (v := .int (iz fi)) (C := R_1) (T := T_1) (N := 3) hx hb hts in_1 hown hK hP 1 rfl rfl 1 (by decide) (hts _ tw_34) (fun _ h9 => h9) rfl d_Dc_mul_75 ?_
            refine lv_iconst (v := iz 1) hx hb d_Dc_mul_78 rfl ?_
            refine z_isub hx hb d_Dc_mul_79 ?_
            refine va_put (D := D) (ci := 1) (v := .int (iz (fi - 1))) (ty := .int) (C := R_1) (T := T_1) (N := 3) hx hb hts in_1 ty_1 tyok_1 nm_1 hown hK hP hD hS 1 rfl rfl 1 (by decide) (hts _ tw_34) (fun _ h9 => h9) rfl (by decide +kernel) rfl rfl (Nat.le_of_ble_eq_true rfl) d_Dc_mul_80 (fun H locs hP hD hS => ?_)
            have hP : va_P D vwCl [(x, .inr (0, [.ref d, .ref t])), (d, .inr (1, [.ref la, .int (iz (fi - 1)), .int (iz lt)])), (la, .inl (cI, 155, .inl (az h))), (t, .inr (2, [.ref ba, .int (iz n)])), (ba, .inl (cB, 1612, .inl (az g)))] H := hP
            have hD : va_D (AX x d la t ba) [(x, .inr (0, [.ref d, .ref t])), (d, .inr (1, [.ref la, .int (iz (fi - 1)), .int (iz lt)])), (la, .inl (cI, 155, .inl (az h))), (t, .inr (2, [.ref ba, .int (iz n)])), (ba, .inl (cB, 1612, .inl (az g)))] := hD
            refine lv_aload_n hx hb d_Dc_mul_83 rfl (lv_at hl 0 rfl) ?_
            refine va_get (D := D) (ci := 1) (v := .ref la) (C := R_1) (T := T_1) (N := 3) hx hb hts in_1 hown hK hP 1 rfl rfl 0 (by decide) (hts _ tw_33) (fun _ h9 => h9) rfl d_Dc_mul_84 ?_
            refine lv_aload_n hx hb d_Dc_mul_87 rfl (lv_at hl 0 rfl) ?_
            refine va_get (D := D) (ci := 1) (v := .int (iz (fi - 1))) (C := R_1) (T := T_1) (N := 3) hx hb hts in_1 hown hK hP 1 rfl rfl 1 (by decide) (hts _ tw_34) (fun _ h9 => h9) rfl d_Dc_mul_88 ?_
            refine lv_lload_n hx hb d_Dc_mul_91 rfl (lv_at hl 2 rfl) ?_
            refine z_l2i hx hb d_Dc_mul_92 ?_
            refine z_iast hx hb hK hP hD hS 2 0 rfl rfl (by omega) (by omega) (by decide) d_Dc_mul_93 (fun H locs hP hD hS => ?_)
            have hP : va_P D vwCl [(x, .inr (0, [.ref d, .ref t])), (d, .inr (1, [.ref la, .int (iz (fi - 1)), .int (iz lt)])), (la, .inl (cI, 155, .inl (az (up h (fi - 1) cy)))), (t, .inr (2, [.ref ba, .int (iz n)])), (ba, .inl (cB, 1612, .inl (az g)))] H := hP
            have hD : va_D (AX x d la t ba) [(x, .inr (0, [.ref d, .ref t])), (d, .inr (1, [.ref la, .int (iz (fi - 1)), .int (iz lt)])), (la, .inl (cI, 155, .inl (az (up h (fi - 1) cy)))), (t, .inr (2, [.ref ba, .int (iz n)])), (ba, .inl (cB, 1612, .inl (az g)))] := hD
            exact z_vret hx hb hr hlk hS (zR_st zSt_XL) (by
                first
                  | exact ⟨rfl, _, _, _, _, ⟨hK, hP, hD⟩, (by rw [hc62] at hM; exact hM.stop0 hdec), htx, hst0.kept hS.2.1⟩
                  | exact ⟨rfl, _, _, _, _, ⟨hK, hP, hD⟩, (hM.stop1 hdec (by omega) (by omega)), htx, hst0.kept hS.2.1⟩) d_Dc_mul_94
      · refine lv_aload_n hx hb d_Dc_mul_17 rfl (lv_at hl 0 rfl) ?_
        refine va_get (D := D) (ci := 1) (v := .ref la) (C := R_1) (T := T_1) (N := 3) hx hb hts in_1 hown hK hP 1 rfl rfl 0 (by decide) (hts _ tw_33) (fun _ h9 => h9) rfl d_Dc_mul_18 ?_
        refine lv_iload hx hb d_Dc_mul_21 (lv_at hl 3 rfl) ?_
        refine z_iald hx hb hK hP 2 0 rfl rfl (by omega) (by omega) (by decide) d_Dc_mul_23 ?_
        refine z_i2l hx hb d_Dc_mul_24 ⟨by omega, by omega⟩ ?_
        refine lv_iload_n hx hb d_Dc_mul_25 rfl (lv_at hl 1 rfl) ?_
        refine z_lshl hx hb bn d_Dc_mul_26 rfl (by omega) ⟨by omega, by omega⟩ (by rw [← hPe]; exact ⟨by omega, by omega⟩) ?_
        refine z_rl (b := h i * P) (by rw [hPe]) ?_
        refine lv_lload_n hx hb d_Dc_mul_27 rfl (lv_at hl 2 rfl) ?_
        refine z_ladd hx hb d_Dc_mul_28 ?_
        refine lv_lstore hx hb d_Dc_mul_29 hl (by decide) rfl (fun ls hl => ?_)
        have hl : lv_has ls 7 [(5, .long (lz ((h i * P) + cy))), (0, .ref d), (1, .int (iz (bn : Int))), (2, .long (lz cy)), (4, .int (iz i))] := hl
        refine lv_lload hx hb d_Dc_mul_31 (lv_at hl 0 rfl) ?_
        refine lv_ldc2 (v := (1000000000 : Int64)) hx hb hown (hts _ tw_255) d_Dc_mul_33 ?_
        refine z_topl (y := lz (1000000000)) (by decide) ?_
        refine z_ldiv hx hb d_Dc_mul_36 ⟨by omega, by omega⟩ ⟨by omega, by omega⟩ ?_
        refine lv_lstore_n hx hb d_Dc_mul_37 rfl hl (by decide) rfl (fun ls hl => ?_)
        have hl : lv_has ls 7 [(2, .long (lz (((h i * P) + cy) / 1000000000))), (5, .long (lz ((h i * P) + cy))), (0, .ref d), (1, .int (iz (bn : Int))), (4, .int (iz i))] := hl
        refine lv_aload_n hx hb d_Dc_mul_38 rfl (lv_at hl 2 rfl) ?_
        refine va_get (D := D) (ci := 1) (v := .ref la) (C := R_1) (T := T_1) (N := 3) hx hb hts in_1 hown hK hP 1 rfl rfl 0 (by decide) (hts _ tw_33) (fun _ h9 => h9) rfl d_Dc_mul_39 ?_
        refine lv_iload hx hb d_Dc_mul_42 (lv_at hl 4 rfl) ?_
        refine lv_lload hx hb d_Dc_mul_44 (lv_at hl 1 rfl) ?_
        refine lv_lload_n hx hb d_Dc_mul_46 rfl (lv_at hl 0 rfl) ?_
        refine lv_ldc2 (v := (1000000000 : Int64)) hx hb hown (hts _ tw_255) d_Dc_mul_47 ?_
        refine z_topl (y := lz (1000000000)) (by decide) ?_
        refine z_lmul hx hb d_Dc_mul_50 ?_
        refine z_lsub hx hb d_Dc_mul_51 ?_
        refine z_l2i hx hb d_Dc_mul_52 ?_
        refine z_iast hx hb hK hP hD hS 2 0 rfl rfl (by omega) (by omega) (by decide) d_Dc_mul_53 (fun H locs hP hD hS => ?_)
        have hP : va_P D vwCl [(x, .inr (0, [.ref d, .ref t])), (d, .inr (1, [.ref la, .int (iz fi), .int (iz lt)])), (la, .inl (cI, 155, .inl (az (up h i (((h i * P) + cy) - ((((h i * P) + cy) / 1000000000) * 1000000000)))))), (t, .inr (2, [.ref ba, .int (iz n)])), (ba, .inl (cB, 1612, .inl (az g)))] H := hP
        have hD : va_D (AX x d la t ba) [(x, .inr (0, [.ref d, .ref t])), (d, .inr (1, [.ref la, .int (iz fi), .int (iz lt)])), (la, .inl (cI, 155, .inl (az (up h i (((h i * P) + cy) - ((((h i * P) + cy) / 1000000000) * 1000000000)))))), (t, .inr (2, [.ref ba, .int (iz n)])), (ba, .inl (cB, 1612, .inl (az g)))] := hD
        refine lv_iinc (k := 4) (v := (iz (i - 1))) hx hb d_Dc_mul_54 hl rfl (by show iz _ + iz (-1) = _; rw [← iz_add]; try rfl) (by decide) rfl (fun ls hl => ?_)
        have hl : lv_has ls 7 [(4, .int (iz (i - 1))), (2, .long (lz (((h i * P) + cy) / 1000000000))), (5, .long (lz ((h i * P) + cy))), (0, .ref d), (1, .int (iz (bn : Int)))] := hl
        refine lv_goto (tgt := 8) hx hb d_Dc_mul_57 rfl ?_
        exact ih8 (i - 1) ((h i * P + cy) / 1000000000) (up h i (h i * P + cy - (h i * P + cy) / 1000000000 * 1000000000)) _ _ _ hP hD hS (lv_sub hl [3, 4, 1, 0] rfl) (hM.step (by omega) (by omega) (by omega) (by omega)) (by omega)
  refine lv_lconst (v := lz 0) hx hb d_Dc_mul_0 (by decide) ?_
  refine lv_lstore_n hx hb d_Dc_mul_1 rfl hl (by decide) rfl (fun ls hl => ?_)
  have hl : lv_has ls 7 [(2, .long (lz 0)), (0, .ref d), (1, .int (iz (bn : Int)))] := hl
  refine lv_aload_n hx hb d_Dc_mul_2 rfl (lv_at hl 1 rfl) ?_
  refine va_get (D := D) (ci := 1) (v := .int (iz lt)) (C := R_1) (T := T_1) (N := 3) hx hb hts in_1 hown hK hP 1 rfl rfl 2 (by decide) (hts _ tw_35) (fun _ h9 => h9) rfl d_Dc_mul_3 ?_
  refine lv_istore hx hb d_Dc_mul_6 hl (by decide) rfl (fun ls hl => ?_)
  have hl : lv_has ls 7 [(4, .int (iz lt)), (2, .long (lz 0)), (0, .ref d), (1, .int (iz (bn : Int)))] := hl
  exact L8 _ lt 0 f _ _ _ hP hD hS (lv_sub hl [2, 3, 1, 0] rfl) (MulI.start hdec (by omega)) (Nat.lt_succ_self _)
theorem d_Dc_div_0 : decode b_Dc_divideByPowerOfTwo 0 = .ok (.iload_n 1, 1) := by decide +kernel
theorem d_Dc_div_1 : decode b_Dc_divideByPowerOfTwo 1 = .ok (.bipush (9), 2) := by decide +kernel
theorem d_Dc_div_3 : decode b_Dc_divideByPowerOfTwo 3 = .ok (.iadd, 1) := by decide +kernel
theorem d_Dc_div_4 : decode b_Dc_divideByPowerOfTwo 4 = .ok (.iconst 1, 1) := by decide +kernel
theorem d_Dc_div_5 : decode b_Dc_divideByPowerOfTwo 5 = .ok (.isub, 1) := by decide +kernel
theorem d_Dc_div_6 : decode b_Dc_divideByPowerOfTwo 6 = .ok (.bipush (9), 2) := by decide +kernel
theorem d_Dc_div_8 : decode b_Dc_divideByPowerOfTwo 8 = .ok (.idiv, 1) := by decide +kernel
theorem d_Dc_div_9 : decode b_Dc_divideByPowerOfTwo 9 = .ok (.istore_n 2, 1) := by decide +kernel
theorem d_Dc_div_10 : decode b_Dc_divideByPowerOfTwo 10 = .ok (.aload_n 0, 1) := by decide +kernel
theorem d_Dc_div_11 : decode b_Dc_divideByPowerOfTwo 11 = .ok (.aload_n 0, 1) := by decide +kernel
theorem d_Dc_div_12 : decode b_Dc_divideByPowerOfTwo 12 = .ok (.getfield 17, 3) := by decide +kernel
theorem d_Dc_div_15 : decode b_Dc_divideByPowerOfTwo 15 = .ok (.iload_n 2, 1) := by decide +kernel
theorem d_Dc_div_16 : decode b_Dc_divideByPowerOfTwo 16 = .ok (.iadd, 1) := by decide +kernel
theorem d_Dc_div_17 : decode b_Dc_divideByPowerOfTwo 17 = .ok (.aload_n 0, 1) := by decide +kernel
theorem d_Dc_div_18 : decode b_Dc_divideByPowerOfTwo 18 = .ok (.getfield 9, 3) := by decide +kernel
theorem d_Dc_div_21 : decode b_Dc_divideByPowerOfTwo 21 = .ok (.arraylength, 1) := by decide +kernel
theorem d_Dc_div_22 : decode b_Dc_divideByPowerOfTwo 22 = .ok (.iconst 1, 1) := by decide +kernel
theorem d_Dc_div_23 : decode b_Dc_divideByPowerOfTwo 23 = .ok (.isub, 1) := by decide +kernel
theorem d_Dc_div_24 : decode b_Dc_divideByPowerOfTwo 24 = .ok (.invokestatic 28, 3) := by decide +kernel
theorem d_Dc_div_27 : decode b_Dc_divideByPowerOfTwo 27 = .ok (.putfield 17, 3) := by decide +kernel
theorem d_Dc_div_30 : decode b_Dc_divideByPowerOfTwo 30 = .ok (.lconst 1, 1) := by decide +kernel
theorem d_Dc_div_31 : decode b_Dc_divideByPowerOfTwo 31 = .ok (.iload_n 1, 1) := by decide +kernel
theorem d_Dc_div_32 : decode b_Dc_divideByPowerOfTwo 32 = .ok (.lshl, 1) := by decide +kernel
theorem d_Dc_div_33 : decode b_Dc_divideByPowerOfTwo 33 = .ok (.lconst 1, 1) := by decide +kernel
theorem d_Dc_div_34 : decode b_Dc_divideByPowerOfTwo 34 = .ok (.lsub, 1) := by decide +kernel
theorem d_Dc_div_35 : decode b_Dc_divideByPowerOfTwo 35 = .ok (.lstore_n 3, 1) := by decide +kernel
theorem d_Dc_div_36 : decode b_Dc_divideByPowerOfTwo 36 = .ok (.lconst 0, 1) := by decide +kernel
theorem d_Dc_div_37 : decode b_Dc_divideByPowerOfTwo 37 = .ok (.lstore 5, 2) := by decide +kernel
theorem d_Dc_div_39 : decode b_Dc_divideByPowerOfTwo 39 = .ok (.aload_n 0, 1) := by decide +kernel
theorem d_Dc_div_40 : decode b_Dc_divideByPowerOfTwo 40 = .ok (.getfield 13, 3) := by decide +kernel
theorem d_Dc_div_43 : decode b_Dc_divideByPowerOfTwo 43 = .ok (.istore 7, 2) := by decide +kernel
theorem d_Dc_div_45 : decode b_Dc_divideByPowerOfTwo 45 = .ok (.iload 7, 2) := by decide +kernel
theorem d_Dc_div_47 : decode b_Dc_divideByPowerOfTwo 47 = .ok (.aload_n 0, 1) := by decide +kernel
theorem d_Dc_div_48 : decode b_Dc_divideByPowerOfTwo 48 = .ok (.getfield 17, 3) := by decide +kernel
theorem d_Dc_div_51 : decode b_Dc_divideByPowerOfTwo 51 = .ok (.if_icmp .gt (44), 3) := by decide +kernel
theorem d_Dc_div_54 : decode b_Dc_divideByPowerOfTwo 54 = .ok (.lload 5, 2) := by decide +kernel
theorem d_Dc_div_56 : decode b_Dc_divideByPowerOfTwo 56 = .ok (.ldc2_w 46, 3) := by decide +kernel
theorem d_Dc_div_59 : decode b_Dc_divideByPowerOfTwo 59 = .ok (.lmul, 1) := by decide +kernel
theorem d_Dc_div_60 : decode b_Dc_divideByPowerOfTwo 60 = .ok (.aload_n 0, 1) := by decide +kernel
theorem d_Dc_div_61 : decode b_Dc_divideByPowerOfTwo 61 = .ok (.getfield 9, 3) := by decide +kernel
theorem d_Dc_div_64 : decode b_Dc_divideByPowerOfTwo 64 = .ok (.iload 7, 2) := by decide +kernel
theorem d_Dc_div_66 : decode b_Dc_divideByPowerOfTwo 66 = .ok (.iaload, 1) := by decide +kernel
theorem d_Dc_div_67 : decode b_Dc_divideByPowerOfTwo 67 = .ok (.i2l, 1) := by decide +kernel
theorem d_Dc_div_68 : decode b_Dc_divideByPowerOfTwo 68 = .ok (.ladd, 1) := by decide +kernel
theorem d_Dc_div_69 : decode b_Dc_divideByPowerOfTwo 69 = .ok (.lstore 8, 2) := by decide +kernel
theorem d_Dc_div_71 : decode b_Dc_divideByPowerOfTwo 71 = .ok (.aload_n 0, 1) := by decide +kernel
theorem d_Dc_div_72 : decode b_Dc_divideByPowerOfTwo 72 = .ok (.getfield 9, 3) := by decide +kernel
theorem d_Dc_div_75 : decode b_Dc_divideByPowerOfTwo 75 = .ok (.iload 7, 2) := by decide +kernel
theorem d_Dc_div_77 : decode b_Dc_divideByPowerOfTwo 77 = .ok (.lload 8, 2) := by decide +kernel
theorem d_Dc_div_79 : decode b_Dc_divideByPowerOfTwo 79 = .ok (.iload_n 1, 1) := by decide +kernel
theorem d_Dc_div_80 : decode b_Dc_divideByPowerOfTwo 80 = .ok (.lushr, 1) := by decide +kernel
theorem d_Dc_div_81 : decode b_Dc_divideByPowerOfTwo 81 = .ok (.l2i, 1) := by decide +kernel
theorem d_Dc_div_82 : decode b_Dc_divideByPowerOfTwo 82 = .ok (.iastore, 1) := by decide +kernel
theorem d_Dc_div_83 : decode b_Dc_divideByPowerOfTwo 83 = .ok (.lload 8, 2) := by decide +kernel
theorem d_Dc_div_85 : decode b_Dc_divideByPowerOfTwo 85 = .ok (.lload_n 3, 1) := by decide +kernel
theorem d_Dc_div_86 : decode b_Dc_divideByPowerOfTwo 86 = .ok (.land, 1) := by decide +kernel
theorem d_Dc_div_87 : decode b_Dc_divideByPowerOfTwo 87 = .ok (.lstore 5, 2) := by decide +kernel
theorem d_Dc_div_89 : decode b_Dc_divideByPowerOfTwo 89 = .ok (.iinc 7 (1), 3) := by decide +kernel
theorem d_Dc_div_92 : decode b_Dc_divideByPowerOfTwo 92 = .ok (.goto (-47), 3) := by decide +kernel
theorem d_Dc_div_95 : decode b_Dc_divideByPowerOfTwo 95 = .ok (.aload_n 0, 1) := by decide +kernel
theorem d_Dc_div_96 : decode b_Dc_divideByPowerOfTwo 96 = .ok (.getfield 9, 3) := by decide +kernel
theorem d_Dc_div_99 : decode b_Dc_divideByPowerOfTwo 99 = .ok (.aload_n 0, 1) := by decide +kernel
theorem d_Dc_div_100 : decode b_Dc_divideByPowerOfTwo 100 = .ok (.getfield 13, 3) := by decide +kernel
theorem d_Dc_div_103 : decode b_Dc_divideByPowerOfTwo 103 = .ok (.iaload, 1) := by decide +kernel
theorem d_Dc_div_104 : decode b_Dc_divideByPowerOfTwo 104 = .ok (.ifCond .ne (24), 3) := by decide +kernel
theorem d_Dc_div_107 : decode b_Dc_divideByPowerOfTwo 107 = .ok (.aload_n 0, 1) := by decide +kernel
theorem d_Dc_div_108 : decode b_Dc_divideByPowerOfTwo 108 = .ok (.getfield 13, 3) := by decide +kernel
theorem d_Dc_div_111 : decode b_Dc_divideByPowerOfTwo 111 = .ok (.aload_n 0, 1) := by decide +kernel
theorem d_Dc_div_112 : decode b_Dc_divideByPowerOfTwo 112 = .ok (.getfield 17, 3) := by decide +kernel
theorem d_Dc_div_115 : decode b_Dc_divideByPowerOfTwo 115 = .ok (.if_icmp .ge (13), 3) := by decide +kernel
theorem d_Dc_div_118 : decode b_Dc_divideByPowerOfTwo 118 = .ok (.aload_n 0, 1) := by decide +kernel
theorem d_Dc_div_119 : decode b_Dc_divideByPowerOfTwo 119 = .ok (.dup, 1) := by decide +kernel
theorem d_Dc_div_120 : decode b_Dc_divideByPowerOfTwo 120 = .ok (.getfield 13, 3) := by decide +kernel
theorem d_Dc_div_123 : decode b_Dc_divideByPowerOfTwo 123 = .ok (.iconst 1, 1) := by decide +kernel
theorem d_Dc_div_124 : decode b_Dc_divideByPowerOfTwo 124 = .ok (.iadd, 1) := by decide +kernel
theorem d_Dc_div_125 : decode b_Dc_divideByPowerOfTwo 125 = .ok (.putfield 13, 3) := by decide +kernel
theorem d_Dc_div_128 : decode b_Dc_divideByPowerOfTwo 128 = .ok (.return_, 1) := by decide +kernel
set_option maxHeartbeats 4000000 in
set_option maxRecDepth 100000 in
theorem c_Dc_div (l : Launch) (D : va_G) (cI cB : ClassId) (x d la t ba tt : Nat) (ad : Nat → Nat) (V : Int) (tx : List Int) (lt : Int) (bn : Nat) (P V2 : Int) (hbn : 1 ≤ bn ∧ bn ≤ 27) (hPe : P = 2 ^ bn) (hV : P * V2 = V) (hlt : lt + ((bn + 8) / 9 : Nat) ≤ 154) : Ct l y_Dc_divideByPowerOfTwo (ws_Dc_divideByPowerOfTwo) 1 (AX x d la t ba) [.ref d, .int (iz (bn : Int))] (XL D cI cB x d la t ba tt ad V lt tx) (zR none (XL D cI cB x d la t ba tt ad V2 (lt + ((bn + 8) / 9 : Nat)) tx)) := by
  refine z_body zSt_XL (by decide +kernel) rfl (Nat.le_of_ble_eq_true rfl) ?_
  intro p e s m args below meth c ls hx hb hml hr hlk hts0 hown hpre0 H locs hpre hS hl
  have hts : ∀ w ∈ TBL, w.before args s = true := fun w hw => hts0 w (List.mem_cons_of_mem _ hw)
  have hl : lv_has ls 10 [(0, .ref d), (1, .int (iz (bn : Int)))] := hl
  have hw := hpre
  have hst0 := hpre0.st
  have hw9 := hw
  obtain ⟨f, fi, g, n, ⟨hK, hP, hD⟩, hdec, htx, -⟩ := hw9
  have hdr := hdec.1
  have htn := htx.1
  have htl := htx.2.1
  have hPb : 0 < P ∧ P ≤ 134217728 := by rw [hPe]; exact pow2_27 hbn.2
  have L45 : ∀ (N45 : Nat) (i : Int) (r : Int) (h : Int → Int) (H : Heap) (locs : List Loc) (ls : Array Slot), va_P D vwCl [(x, .inr (0, [.ref d, .ref t])), (d, .inr (1, [.ref la, .int (iz fi), .int (iz (lt + ((bn + 8) / 9 : Nat)))])), (la, .inl (cI, 155, .inl (az h))), (t, .inr (2, [.ref ba, .int (iz n)])), (ba, .inl (cB, 1612, .inl (az g)))] H → va_D (AX x d la t ba) [(x, .inr (0, [.ref d, .ref t])), (d, .inr (1, [.ref la, .int (iz fi), .int (iz (lt + ((bn + 8) / 9 : Nat)))])), (la, .inl (cI, 155, .inl (az h))), (t, .inr (2, [.ref ba, .int (iz n)])), (ba, .inl (cB, 1612, .inl (az g)))] → va_S (AX x d la t ba) s.heap H locs → lv_has ls 10 [(0, .ref d), (1, .int (iz (bn : Int))), (3, .long (lz (P - 1))), (5, .long (lz r)), (7, .int (iz i))] → (DivI f h P fi i r) → (i ≤ lt + ((bn + 8) / 9 : Nat) + 1) → (lt + ((bn + 8) / 9 : Nat) + 1 - i).toNat < N45 → W p l e (zrm 1) s m args below meth c H locs 0 0 (MQ below (zQ (AX x d la t ba) (zR none (XL D cI cB x d la t ba tt ad V2 (lt + ((bn + 8) / 9 : Nat)) tx))) args s 0 0 (AX x d la t ba)) (F0 m 45 ls []) := by
    intro N45
    induction N45 with
    | zero => intro i r h H locs ls hP hD hS hl hM hil hN45; exact absurd hN45 (Nat.not_lt_zero _)
    | succ N45 ih45 =>
      intro i r h H locs ls hP hD hS hl hM hil hN45
      have hM1 := hM.1
      have hM2 := hM.2.1
      have hMi := hM.2.2.1 i
      have hb8 := div_b hM2 hPb.2 hMi
      refine lv_iload hx hb d_Dc_div_45 (lv_at hl 4 rfl) ?_
      refine lv_aload_n hx hb d_Dc_div_47 rfl (lv_at hl 0 rfl) ?_
      refine va_get (D := D) (ci := 1) (v := .int (iz (lt + ((bn + 8) / 9 : Nat)))) (C := R_1) (T := T_1) (N := 3) hx hb hts in_1 hown hK hP 1 rfl rfl 2 (by decide) (hts _ tw_35) (fun _ h9 => h9) rfl d_Dc_div_48 ?_
      refine z_icmp_gt (tgt := 95) hx hb d_Dc_div_51 rfl ⟨by omega, by omega⟩ ⟨by omega, by omega⟩ (fun hc51 => ?_) (fun hc51 => ?_)
      · have e8 : i = lt + ((bn + 8) / 9 : Nat) + 1 := by omega
        rw [e8] at hM
        obtain ⟨V3, e9, hd9⟩ := DivI.stop hdec (by omega) hPe hlt hM
        have e10 : V3 = V2 := Int.eq_of_mul_eq_mul_left (by omega) (e9.trans hV.symm)
        subst e10
        have hfi := hd9.2.1 fi
        refine lv_aload_n hx hb d_Dc_div_95 rfl (lv_at hl 0 rfl) ?_
        refine va_get (D := D) (ci := 1) (v := .ref la) (C := R_1) (T := T_1) (N := 3) hx hb hts in_1 hown hK hP 1 rfl rfl 0 (by decide) (hts _ tw_33) (fun _ h9 => h9) rfl d_Dc_div_96 ?_
        refine lv_aload_n hx hb d_Dc_div_99 rfl (lv_at hl 0 rfl) ?_
        refine va_get (D := D) (ci := 1) (v := .int (iz fi)) (C := R_1) (T := T_1) (N := 3) hx hb hts in_1 hown hK hP 1 rfl rfl 1 (by decide) (hts _ tw_34) (fun _ h9 => h9) rfl d_Dc_div_100 ?_
        refine z_iald hx hb hK hP 2 0 rfl rfl (by omega) (by omega) (by decide) d_Dc_div_103 ?_
        refine z_if_ne (tgt := 128) hx hb d_Dc_div_104 rfl ⟨by omega, by omega⟩ (fun hc104 => ?_) (fun hc104 => ?_)
        · exact z_vret hx hb hr hlk hS (zR_st zSt_XL) (by
              first
                | exact ⟨rfl, _, _, _, _, ⟨hK, hP, hD⟩, hd9, htx, hst0.kept hS.2.1⟩
                | exact ⟨rfl, _, _, _, _, ⟨hK, hP, hD⟩, (hd9.next (by omega) (by omega)), htx, hst0.kept hS.2.1⟩) d_Dc_div_128
        · refine lv_aload_n hx hb d_Dc_div_107 rfl (lv_at hl 0 rfl) ?_
          refine va_get (D := D) (ci := 1) (v := .int (iz fi)) (C := R_1) (T := T_1) (N := 3) hx hb hts in_1 hown hK hP 1 rfl rfl 1 (by decide) (hts _ tw_34) (fun _ h9 => h9) rfl d_Dc_div_108 ?_
          refine lv_aload_n hx hb d_Dc_div_111 rfl (lv_at hl 0 rfl) ?_
          refine va_get (D := D) (ci := 1) (v := .int (iz (lt + ((bn + 8) / 9 : Nat)))) (C := R_1) (T := T_1) (N := 3) hx hb hts in_1 hown hK hP 1 rfl rfl 2 (by decide) (hts _ tw_35) (fun _ h9 => h9) rfl d_Dc_div_112 ?_
          refine z_icmp_ge (tgt := 128) hx hb d_Dc_div_115 rfl ⟨by omega, by omega⟩ ⟨by omega, by omega⟩ (fun hc115 => ?_) (fun hc115 => ?_)
          · exact z_vret hx hb hr hlk hS (zR_st zSt_XL) (by
                first
                  | exact ⟨rfl, _, _, _, _, ⟨hK, hP, hD⟩, hd9, htx, hst0.kept hS.2.1⟩
                  | exact ⟨rfl, _, _, _, _, ⟨hK, hP, hD⟩, (hd9.next (by omega) (by omega)), htx, hst0.kept hS.2.1⟩) d_Dc_div_128
          · refine lv_aload_n hx hb d_Dc_div_118 rfl (lv_at hl 0 rfl) ?_
            refine lv_dup hx hb d_Dc_div_119 rfl ?_
            refine va_get (D := D) (ci := 1) (v := .int (iz fi)) (C := R_1) (T := T_1) (N := 3) hx hb hts in_1 hown hK hP 1 rfl rfl 1 (by decide) (hts _ tw_34) (fun _ h9 => h9) rfl d_Dc_div_120 ?_
            refine lv_iconst (v := iz 1) hx hb d_Dc_div_123 rfl ?_
            refine z_iadd hx hb d_Dc_div_124 ?_
            refine va_put (D := D) (ci := 1) (v := .int (iz (fi + 1))) (ty := .int) (C := R_1) (T := T_1) (N := 3) hx hb hts in_1 ty_1 tyok_1 nm_1 hown hK hP hD hS 1 rfl rfl 1 (by decide) (hts _ tw_34) (fun _ h9 => h9) rfl (by decide +kernel) rfl rfl (Nat.le_of_ble_eq_true rfl) d_Dc_div_125 (fun H locs hP hD hS => ?_)
            have hP : va_P D vwCl [(x, .inr (0, [.ref d, .ref t])), (d, .inr (1, [.ref la, .int (iz (fi + 1)), .int (iz (lt + ((bn + 8) / 9 : Nat)))])), (la, .inl (cI, 155, .inl (az h))), (t, .inr (2, [.ref ba, .int (iz n)])), (ba, .inl (cB, 1612, .inl (az g)))] H := hP
            have hD : va_D (AX x d la t ba) [(x, .inr (0, [.ref d, .ref t])), (d, .inr (1, [.ref la, .int (iz (fi + 1)), .int (iz (lt + ((bn + 8) / 9 : Nat)))])), (la, .inl (cI, 155, .inl (az h))), (t, .inr (2, [.ref ba, .int (iz n)])), (ba, .inl (cB, 1612, .inl (az g)))] := hD
            exact z_vret hx hb hr hlk hS (zR_st zSt_XL) (by
                first
                  | exact ⟨rfl, _, _, _, _, ⟨hK, hP, hD⟩, hd9, htx, hst0.kept hS.2.1⟩
                  | exact ⟨rfl, _, _, _, _, ⟨hK, hP, hD⟩, (hd9.next (by omega) (by omega)), htx, hst0.kept hS.2.1⟩) d_Dc_div_128
      · refine lv_lload hx hb d_Dc_div_54 (lv_at hl 3 rfl) ?_
        refine lv_ldc2 (v := (1000000000 : Int64)) hx hb hown (hts _ tw_255) d_Dc_div_56 ?_
        refine z_topl (y := lz (1000000000)) (by decide) ?_
        refine z_lmul hx hb d_Dc_div_59 ?_
        refine lv_aload_n hx hb d_Dc_div_60 rfl (lv_at hl 0 rfl) ?_
        refine va_get (D := D) (ci := 1) (v := .ref la) (C := R_1) (T := T_1) (N := 3) hx hb hts in_1 hown hK hP 1 rfl rfl 0 (by decide) (hts _ tw_33) (fun _ h9 => h9) rfl d_Dc_div_61 ?_
        refine lv_iload hx hb d_Dc_div_64 (lv_at hl 4 rfl) ?_
        refine z_iald hx hb hK hP 2 0 rfl rfl (by omega) (by omega) (by decide) d_Dc_div_66 ?_
        refine z_i2l hx hb d_Dc_div_67 ⟨by omega, by omega⟩ ?_
        refine z_ladd hx hb d_Dc_div_68 ?_
        refine lv_lstore hx hb d_Dc_div_69 hl (by decide) rfl (fun ls hl => ?_)
        have hl : lv_has ls 10 [(8, .long (lz ((r * 1000000000) + (h i)))), (0, .ref d), (1, .int (iz (bn : Int))), (3, .long (lz (P - 1))), (5, .long (lz r)), (7, .int (iz i))] := hl
        refine lv_aload_n hx hb d_Dc_div_71 rfl (lv_at hl 1 rfl) ?_
        refine va_get (D := D) (ci := 1) (v := .ref la) (C := R_1) (T := T_1) (N := 3) hx hb hts in_1 hown hK hP 1 rfl rfl 0 (by decide) (hts _ tw_33) (fun _ h9 => h9) rfl d_Dc_div_72 ?_
        refine lv_iload hx hb d_Dc_div_75 (lv_at hl 5 rfl) ?_
        refine lv_lload hx hb d_Dc_div_77 (lv_at hl 0 rfl) ?_
        refine lv_iload_n hx hb d_Dc_div_79 rfl (lv_at hl 2 rfl) ?_
        refine z_lushr hx hb bn d_Dc_div_80 rfl (by omega) ⟨by omega, by omega⟩ ?_
        refine z_rl (b := (r * 1000000000 + h i) / P) (by rw [hPe]) ?_
        refine z_l2i hx hb d_Dc_div_81 ?_
        refine z_iast hx hb hK hP hD hS 2 0 rfl rfl (by omega) (by omega) (by decide) d_Dc_div_82 (fun H locs hP hD hS => ?_)
        have hP : va_P D vwCl [(x, .inr (0, [.ref d, .ref t])), (d, .inr (1, [.ref la, .int (iz fi), .int (iz (lt + ((bn + 8) / 9 : Nat)))])), (la, .inl (cI, 155, .inl (az (up h i ((r * 1000000000 + h i) / P))))), (t, .inr (2, [.ref ba, .int (iz n)])), (ba, .inl (cB, 1612, .inl (az g)))] H := hP
        have hD : va_D (AX x d la t ba) [(x, .inr (0, [.ref d, .ref t])), (d, .inr (1, [.ref la, .int (iz fi), .int (iz (lt + ((bn + 8) / 9 : Nat)))])), (la, .inl (cI, 155, .inl (az (up h i ((r * 1000000000 + h i) / P))))), (t, .inr (2, [.ref ba, .int (iz n)])), (ba, .inl (cB, 1612, .inl (az g)))] := hD
        refine lv_lload hx hb d_Dc_div_83 (lv_at hl 0 rfl) ?_
        refine lv_lload_n hx hb d_Dc_div_85 rfl (lv_at hl 3 rfl) ?_
        refine z_landm hx hb bn d_Dc_div_86 (by omega) (by rw [hPe]) ⟨by omega, by omega⟩ ?_
        refine z_rl (b := (r * 1000000000 + h i) % P) (by rw [hPe]) ?_
        refine lv_lstore hx hb d_Dc_div_87 hl (by decide) rfl (fun ls hl => ?_)
        have hl : lv_has ls 10 [(5, .long (lz ((r * 1000000000 + h i) % P))), (8, .long (lz ((r * 1000000000) + (h i)))), (0, .ref d), (1, .int (iz (bn : Int))), (3, .long (lz (P - 1))), (7, .int (iz i))] := hl
        refine lv_iinc (k := 5) (v := (iz (i + 1))) hx hb d_Dc_div_89 hl rfl (by show iz _ + iz (1) = _; rw [← iz_add]; try rfl) (by decide) rfl (fun ls hl => ?_)
        have hl : lv_has ls 10 [(7, .int (iz (i + 1))), (5, .long (lz ((r * 1000000000 + h i) % P))), (8, .long (lz ((r * 1000000000) + (h i)))), (0, .ref d), (1, .int (iz (bn : Int))), (3, .long (lz (P - 1)))] := hl
        refine lv_goto (tgt := 45) hx hb d_Dc_div_92 rfl ?_
        exact ih45 (i + 1) ((r * 1000000000 + h i) % P) (up h i ((r * 1000000000 + h i) / P)) _ _ _ hP hD hS (lv_sub hl [3, 4, 5, 1, 0] rfl) (hM.step (by omega) (by omega)) (by omega) (by omega)
  refine lv_iload_n hx hb d_Dc_div_0 rfl (lv_at hl 1 rfl) ?_
  refine lv_bipush (v := iz 9) hx hb d_Dc_div_1 (by decide) ?_
  refine z_iadd hx hb d_Dc_div_3 ?_
  refine lv_iconst (v := iz 1) hx hb d_Dc_div_4 rfl ?_
  refine z_isub hx hb d_Dc_div_5 ?_
  refine lv_bipush (v := iz 9) hx hb d_Dc_div_6 (by decide) ?_
  refine z_idiv hx hb d_Dc_div_8 ⟨by omega, by omega⟩ ⟨by omega, by omega⟩ ?_
  refine z_ri (b := ((bn + 8) / 9 : Nat)) (by omega) ?_
  refine lv_istore_n hx hb d_Dc_div_9 rfl hl (by decide) rfl (fun ls hl => ?_)
  have hl : lv_has ls 10 [(2, .int (iz ((bn + 8) / 9 : Nat))), (0, .ref d), (1, .int (iz (bn : Int)))] := hl
  refine lv_aload_n hx hb d_Dc_div_10 rfl (lv_at hl 1 rfl) ?_
  refine lv_aload_n hx hb d_Dc_div_11 rfl (lv_at hl 1 rfl) ?_
  refine va_get (D := D) (ci := 1) (v := .int (iz lt)) (C := R_1) (T := T_1) (N := 3) hx hb hts in_1 hown hK hP 1 rfl rfl 2 (by decide) (hts _ tw_35) (fun _ h9 => h9) rfl d_Dc_div_12 ?_
  refine lv_iload_n hx hb d_Dc_div_15 rfl (lv_at hl 0 rfl) ?_
  refine z_iadd hx hb d_Dc_div_16 ?_
  refine lv_aload_n hx hb d_Dc_div_17 rfl (lv_at hl 1 rfl) ?_
  refine va_get (D := D) (ci := 1) (v := .ref la) (C := R_1) (T := T_1) (N := 3) hx hb hts in_1 hown hK hP 1 rfl rfl 0 (by decide) (hts _ tw_33) (fun _ h9 => h9) rfl d_Dc_div_18 ?_
  refine z_alen hx hb hK hP 2 0 155 rfl rfl rfl d_Dc_div_21 ?_
  refine lv_iconst (v := iz 1) hx hb d_Dc_div_22 rfl ?_
  refine z_isub hx hb d_Dc_div_23 ?_
  refine z_mmin hx hb (hml.trans hl.1.symm) hown (hts _ tw_260) (hts _ tw_261) (hts _ tw_16) (hts _ twm_min) (Nat.le_of_ble_eq_true rfl) (Nat.le_of_ble_eq_true rfl) (Nat.zero_le _) (Nat.zero_le _) ⟨by omega, by omega⟩ ⟨by omega, by omega⟩ d_Dc_div_24 ?_
  refine z_ri (b := lt + ((bn + 8) / 9 : Nat)) (by omega) ?_
  refine va_put (D := D) (ci := 1) (v := .int (iz (lt + ((bn + 8) / 9 : Nat)))) (ty := .int) (C := R_1) (T := T_1) (N := 3) hx hb hts in_1 ty_1 tyok_1 nm_1 hown hK hP hD hS 1 rfl rfl 2 (by decide) (hts _ tw_35) (fun _ h9 => h9) rfl (by decide +kernel) rfl rfl (Nat.le_of_ble_eq_true rfl) d_Dc_div_27 (fun H locs hP hD hS => ?_)
  have hP : va_P D vwCl [(x, .inr (0, [.ref d, .ref t])), (d, .inr (1, [.ref la, .int (iz fi), .int (iz (lt + ((bn + 8) / 9 : Nat)))])), (la, .inl (cI, 155, .inl (az f))), (t, .inr (2, [.ref ba, .int (iz n)])), (ba, .inl (cB, 1612, .inl (az g)))] H := hP
  have hD : va_D (AX x d la t ba) [(x, .inr (0, [.ref d, .ref t])), (d, .inr (1, [.ref la, .int (iz fi), .int (iz (lt + ((bn + 8) / 9 : Nat)))])), (la, .inl (cI, 155, .inl (az f))), (t, .inr (2, [.ref ba, .int (iz n)])), (ba, .inl (cB, 1612, .inl (az g)))] := hD
  refine lv_lconst (v := lz 1) hx hb d_Dc_div_30 (by decide) ?_
  refine lv_iload_n hx hb d_Dc_div_31 rfl (lv_at hl 2 rfl) ?_
  refine z_lshl hx hb bn d_Dc_div_32 rfl (by omega) ⟨by omega, by omega⟩ (by rw [Int.one_mul, ← hPe]; exact ⟨by omega, by omega⟩) ?_
  refine z_rl (b := P) (by rw [hPe, Int.one_mul]) ?_
  refine lv_lconst (v := lz 1) hx hb d_Dc_div_33 (by decide) ?_
  refine z_lsub hx hb d_Dc_div_34 ?_
  refine lv_lstore_n hx hb d_Dc_div_35 rfl hl (by decide) rfl (fun ls hl => ?_)
  have hl : lv_has ls 10 [(3, .long (lz (P - 1))), (2, .int (iz ((bn + 8) / 9 : Nat))), (0, .ref d), (1, .int (iz (bn : Int)))] := hl
  refine lv_lconst (v := lz 0) hx hb d_Dc_div_36 (by decide) ?_
  refine lv_lstore hx hb d_Dc_div_37 hl (by decide) rfl (fun ls hl => ?_)
  have hl : lv_has ls 10 [(5, .long (lz 0)), (3, .long (lz (P - 1))), (2, .int (iz ((bn + 8) / 9 : Nat))), (0, .ref d), (1, .int (iz (bn : Int)))] := hl
  refine lv_aload_n hx hb d_Dc_div_39 rfl (lv_at hl 3 rfl) ?_
  refine va_get (D := D) (ci := 1) (v := .int (iz fi)) (C := R_1) (T := T_1) (N := 3) hx hb hts in_1 hown hK hP 1 rfl rfl 1 (by decide) (hts _ tw_34) (fun _ h9 => h9) rfl d_Dc_div_40 ?_
  refine lv_istore hx hb d_Dc_div_43 hl (by decide) rfl (fun ls hl => ?_)
  have hl : lv_has ls 10 [(7, .int (iz fi)), (5, .long (lz 0)), (3, .long (lz (P - 1))), (2, .int (iz ((bn + 8) / 9 : Nat))), (0, .ref d), (1, .int (iz (bn : Int)))] := hl
  exact L45 _ fi 0 f _ _ _ hP hD hS (lv_sub hl [4, 5, 2, 1, 0] rfl) (DivI.start hdec (by omega)) (by omega) (Nat.lt_succ_self _)
end
section
theorem d_Dc_scale_0 : decode b_Dc_scaleByPowerOfTwo 0 = .ok (.iload_n 1, 1) := by decide +kernel
theorem d_Dc_scale_1 : decode b_Dc_scaleByPowerOfTwo 1 = .ok (.istore_n 2, 1) := by decide +kernel
theorem d_Dc_scale_2 : decode b_Dc_scaleByPowerOfTwo 2 = .ok (.iload_n 2, 1) := by decide +kernel
theorem d_Dc_scale_3 : decode b_Dc_scaleByPowerOfTwo 3 = .ok (.ifCond .le (19), 3) := by decide +kernel
theorem d_Dc_scale_6 : decode b_Dc_scaleByPowerOfTwo 6 = .ok (.aload_n 0, 1) := by decide +kernel
theorem d_Dc_scale_7 : decode b_Dc_scaleByPowerOfTwo 7 = .ok (.iload_n 2, 1) := by decide +kernel
theorem d_Dc_scale_8 : decode b_Dc_scaleByPowerOfTwo 8 = .ok (.bipush (29), 2) := by decide +kernel
theorem d_Dc_scale_10 : decode b_Dc_scaleByPowerOfTwo 10 = .ok (.invokestatic 28, 3) := by decide +kernel
theorem d_Dc_scale_13 : decode b_Dc_scaleByPowerOfTwo 13 = .ok (.invokevirtual 34, 3) := by decide +kernel
theorem d_Dc_scale_16 : decode b_Dc_scaleByPowerOfTwo 16 = .ok (.iinc 2 (-29), 3) := by decide +kernel
theorem d_Dc_scale_19 : decode b_Dc_scaleByPowerOfTwo 19 = .ok (.goto (-17), 3) := by decide +kernel
theorem d_Dc_scale_22 : decode b_Dc_scaleByPowerOfTwo 22 = .ok (.iload_n 1, 1) := by decide +kernel
theorem d_Dc_scale_23 : decode b_Dc_scaleByPowerOfTwo 23 = .ok (.ineg, 1) := by decide +kernel
theorem d_Dc_scale_24 : decode b_Dc_scaleByPowerOfTwo 24 = .ok (.istore_n 2, 1) := by decide +kernel
theorem d_Dc_scale_25 : decode b_Dc_scaleByPowerOfTwo 25 = .ok (.iload_n 2, 1) := by decide +kernel
theorem d_Dc_scale_26 : decode b_Dc_scaleByPowerOfTwo 26 = .ok (.ifCond .le (19), 3) := by decide +kernel
theorem d_Dc_scale_29 : decode b_Dc_scaleByPowerOfTwo 29 = .ok (.aload_n 0, 1) := by decide +kernel
theorem d_Dc_scale_30 : decode b_Dc_scaleByPowerOfTwo 30 = .ok (.iload_n 2, 1) := by decide +kernel
theorem d_Dc_scale_31 : decode b_Dc_scaleByPowerOfTwo 31 = .ok (.bipush (27), 2) := by decide +kernel
theorem d_Dc_scale_33 : decode b_Dc_scaleByPowerOfTwo 33 = .ok (.invokestatic 28, 3) := by decide +kernel
theorem d_Dc_scale_36 : decode b_Dc_scaleByPowerOfTwo 36 = .ok (.invokevirtual 37, 3) := by decide +kernel
theorem d_Dc_scale_39 : decode b_Dc_scaleByPowerOfTwo 39 = .ok (.iinc 2 (-27), 3) := by decide +kernel
theorem d_Dc_scale_42 : decode b_Dc_scaleByPowerOfTwo 42 = .ok (.goto (-17), 3) := by decide +kernel
theorem d_Dc_scale_45 : decode b_Dc_scaleByPowerOfTwo 45 = .ok (.return_, 1) := by decide +kernel
set_option maxHeartbeats 4000000 in
set_option maxRecDepth 100000 in
theorem c_Dc_scale (l : Launch) (D : va_G) (cI cB : ClassId) (x d la t ba tt : Nat) (ad : Nat → Nat) (V : Int) (tx : List Int) (q : Int) (Wv : Int) (hq : -1074 ≤ q ∧ q ≤ 971) (hW0 : 0 ≤ Wv) (hVW : V * 2 ^ q.toNat = Wv * 2 ^ (-q).toNat) (hWb : 0 ≤ q → Wv < 1000000000 ^ 155) : Ct l y_Dc_scaleByPowerOfTwo (ws_Dc_scaleByPowerOfTwo) 2 (AX x d la t ba) [.ref d, .int (iz q)] (XL D cI cB x d la t ba tt ad V 34 tx) (zR none (XW D cI cB x d la t ba tt ad Wv tx)) := by
  refine z_body zSt_XL (by decide +kernel) rfl (Nat.le_of_ble_eq_true rfl) ?_
  intro p e s m args below meth c ls hx hb hml hr hlk hts0 hown hpre0 H locs hpre hS hl
  have hts : ∀ w ∈ TBL, w.before args s = true := fun w hw => hts0 w (List.mem_cons_of_mem _ hw)
  have hl : lv_has ls 3 [(0, .ref d), (1, .int (iz q))] := hl
  have hw := hpre
  have hst0 := hpre0.st
  have L25 : ∀ (N25 : Nat) (left : Int) (V2 : Int) (lt : Int) (H : Heap) (locs : List Loc) (ls : Array Slot), XL D cI cB x d la t ba tt ad V2 lt tx s H → va_S (AX x d la t ba) s.heap H locs → lv_has ls 3 [(0, .ref d), (1, .int (iz q)), (2, .int (iz left))] → (left ≤ 1074 ∧ -1000 ≤ left) → (lt + 3 * ((left + 26) / 27) ≤ 154 ∧ lt ≤ 154) → (V2 = Wv * 2 ^ left.toNat) → left.toNat < N25 → W p l e (zrm 2) s m args below meth c H locs 0 0 (MQ below (zQ (AX x d la t ba) (zR none (XW D cI cB x d la t ba tt ad Wv tx))) args s 0 0 (AX x d la t ba)) (F0 m 25 ls []) := by
    intro N25
    induction N25 with
    | zero => intro left V2 lt H locs ls hw hS hl hle hlt hv2 hN25; exact absurd hN25 (Nat.not_lt_zero _)
    | succ N25 ih25 =>
      intro left V2 lt H locs ls hw hS hl hle hlt hv2 hN25
      refine lv_iload_n hx hb d_Dc_scale_25 rfl (lv_at hl 2 rfl) ?_
      refine z_if_le (tgt := 45) hx hb d_Dc_scale_26 rfl ⟨by omega, by omega⟩ (fun hc26 => ?_) (fun hc26 => ?_)
      · exact z_vret hx hb hr hlk hS (zR_st zSt_XW) ⟨rfl, _, by rw [show left.toNat = 0 by omega, Int.pow_zero, Int.mul_one] at hv2; rw [← hv2]; exact hw⟩ d_Dc_scale_45
      · refine lv_aload_n hx hb d_Dc_scale_29 rfl (lv_at hl 0 rfl) ?_
        refine lv_iload_n hx hb d_Dc_scale_30 rfl (lv_at hl 2 rfl) ?_
        refine lv_bipush (v := iz 27) hx hb d_Dc_scale_31 (by decide) ?_
        refine z_mmin hx hb (hml.trans hl.1.symm) hown (hts _ tw_260) (hts _ tw_261) (hts _ tw_16) (hts _ twm_min) (Nat.le_of_ble_eq_true rfl) (Nat.le_of_ble_eq_true rfl) (Nat.zero_le _) (Nat.zero_le _) ⟨by omega, by omega⟩ ⟨by omega, by omega⟩ d_Dc_scale_33 ?_
        refine z_ri (b := ((min left 27).toNat : Int)) (by omega) ?_
        have hct := c_Dc_div l D cI cB x d la t ba tt ad V2 tx lt (min left 27).toNat (2 ^ (min left 27).toNat) (Wv * 2 ^ (left - 27).toNat) ⟨by omega, by omega⟩ rfl (scale_dn hc26 hv2) (by omega)
        refine z_go (va_runV (As := [.int (iz ((min left 27).toNat : Int))]) (rest := []) ⟨hx, hb, hml, hown, hts⟩ hct.2 (z_cwV hts w_Dc_divideByPowerOfTwo tw_267 (by decide)) (z_preV hct.1 (hw.recv) hw) rfl rfl hl.1 rfl (lv_room (Nat.le_of_ble_eq_true rfl)) d_Dc_scale_36 ⟨Nat.zero_le _, Nat.zero_le _⟩) hS (fun _ h9 => h9) (fun v9 t9 H locs hv9 hp9 hz9 hk9 hS => ?_)
        obtain ⟨rfl, hw⟩ := hp9
        have hw := XL.moved hv9.symm hw
        refine W.eq (g2 := F0 m 39 ls []) rfl ?_
        refine lv_iinc (k := 2) (v := (iz (left - 27))) hx hb d_Dc_scale_39 hl rfl (by show iz _ + iz (-27) = _; rw [← iz_add]; try rfl) (by decide) rfl (fun ls hl => ?_)
        have hl : lv_has ls 3 [(2, .int (iz (left - 27))), (0, .ref d), (1, .int (iz q))] := hl
        refine lv_goto (tgt := 25) hx hb d_Dc_scale_42 rfl ?_
        exact ih25 (left - 27) (Wv * 2 ^ (left - 27).toNat) (lt + (((min left 27).toNat + 8) / 9 : Nat)) _ _ _ hw hS (lv_sub hl [1, 2, 0] rfl) ⟨by omega, by omega⟩ ⟨by omega, by omega⟩ rfl (by omega)
  have L2 : ∀ (N2 : Nat) (left : Int) (V2 : Int) (H : Heap) (locs : List Loc) (ls : Array Slot), XL D cI cB x d la t ba tt ad V2 34 tx s H → va_S (AX x d la t ba) s.heap H locs → lv_has ls 3 [(0, .ref d), (1, .int (iz q)), (2, .int (iz left))] → (left ≤ q ∧ -1074 ≤ left ∧ (q ≤ 0 → left = q)) → (V2 * 2 ^ left.toNat = Wv * 2 ^ (-q).toNat) → left.toNat < N2 → W p l e (zrm 2) s m args below meth c H locs 0 0 (MQ below (zQ (AX x d la t ba) (zR none (XW D cI cB x d la t ba tt ad Wv tx))) args s 0 0 (AX x d la t ba)) (F0 m 2 ls []) := by
    intro N2
    induction N2 with
    | zero => intro left V2 H locs ls hw hS hl hle hv2 hN2; exact absurd hN2 (Nat.not_lt_zero _)
    | succ N2 ih2 =>
      intro left V2 H locs ls hw hS hl hle hv2 hN2
      refine lv_iload_n hx hb d_Dc_scale_2 rfl (lv_at hl 2 rfl) ?_
      refine z_if_le (tgt := 22) hx hb d_Dc_scale_3 rfl ⟨by omega, by omega⟩ (fun hc3 => ?_) (fun hc3 => ?_)
      · refine lv_iload_n hx hb d_Dc_scale_22 rfl (lv_at hl 1 rfl) ?_
        refine z_ineg hx hb d_Dc_scale_23 ?_
        refine lv_istore_n hx hb d_Dc_scale_24 rfl hl (by decide) rfl (fun ls hl => ?_)
        have hl : lv_has ls 3 [(2, .int (iz (-q))), (0, .ref d), (1, .int (iz q))] := hl
        exact L25 _ (-q) V2 34 _ _ _ hw hS (lv_sub hl [1, 2, 0] rfl) ⟨by omega, by omega⟩ ⟨by omega, by omega⟩ (by rw [show left.toNat = 0 by omega, Int.pow_zero, Int.mul_one] at hv2; exact hv2) (Nat.lt_succ_self _)
      · refine lv_aload_n hx hb d_Dc_scale_6 rfl (lv_at hl 0 rfl) ?_
        refine lv_iload_n hx hb d_Dc_scale_7 rfl (lv_at hl 2 rfl) ?_
        refine lv_bipush (v := iz 29) hx hb d_Dc_scale_8 (by decide) ?_
        refine z_mmin hx hb (hml.trans hl.1.symm) hown (hts _ tw_260) (hts _ tw_261) (hts _ tw_16) (hts _ twm_min) (Nat.le_of_ble_eq_true rfl) (Nat.le_of_ble_eq_true rfl) (Nat.zero_le _) (Nat.zero_le _) ⟨by omega, by omega⟩ ⟨by omega, by omega⟩ d_Dc_scale_10 ?_
        refine z_ri (b := ((min left 29).toNat : Int)) (by omega) ?_
        have hct := c_Dc_mul l D cI cB x d la t ba tt ad V2 tx 34 (min left 29).toNat (2 ^ (min left 29).toNat) ⟨by omega, by omega⟩ rfl (scale_lt hc3 hle.2.2 hv2 hWb hW0)
        refine z_go (va_runV (As := [.int (iz ((min left 29).toNat : Int))]) (rest := []) ⟨hx, hb, hml, hown, hts⟩ hct.2 (z_cwV hts w_Dc_multiplyByPowerOfTwo tw_263 (by decide)) (z_preV hct.1 (hw.recv) hw) rfl rfl hl.1 rfl (lv_room (Nat.le_of_ble_eq_true rfl)) d_Dc_scale_13 ⟨Nat.zero_le _, Nat.zero_le _⟩) hS (fun _ h9 => h9) (fun v9 t9 H locs hv9 hp9 hz9 hk9 hS => ?_)
        obtain ⟨rfl, hw⟩ := hp9
        have hw := XL.moved hv9.symm hw
        refine W.eq (g2 := F0 m 16 ls []) rfl ?_
        refine lv_iinc (k := 2) (v := (iz (left - 29))) hx hb d_Dc_scale_16 hl rfl (by show iz _ + iz (-29) = _; rw [← iz_add]; try rfl) (by decide) rfl (fun ls hl => ?_)
        have hl : lv_has ls 3 [(2, .int (iz (left - 29))), (0, .ref d), (1, .int (iz q))] := hl
        refine lv_goto (tgt := 2) hx hb d_Dc_scale_19 rfl ?_
        exact ih2 (left - 29) (2 ^ (min left 29).toNat * V2) _ _ _ hw hS (lv_sub hl [1, 2, 0] rfl) ⟨by omega, by omega, fun h => absurd h (by omega)⟩ (scale_up hc3 hv2) (by omega)
  refine lv_iload_n hx hb d_Dc_scale_0 rfl (lv_at hl 1 rfl) ?_
  refine lv_istore_n hx hb d_Dc_scale_1 rfl hl (by decide) rfl (fun ls hl => ?_)
  have hl : lv_has ls 3 [(2, .int (iz q)), (0, .ref d), (1, .int (iz q))] := hl
  exact L2 _ q V _ _ _ hw hS (lv_sub hl [1, 2, 0] rfl) ⟨by omega, by omega, fun _ => rfl⟩ hVW (Nat.lt_succ_self _)
theorem d_Dc_whole_0 : decode b_Dc_assignWhole 0 = .ok (.aload_n 0, 1) := by decide +kernel
theorem d_Dc_whole_1 : decode b_Dc_assignWhole 1 = .ok (.getfield 9, 3) := by decide +kernel
theorem d_Dc_whole_4 : decode b_Dc_assignWhole 4 = .ok (.iconst 0, 1) := by decide +kernel
theorem d_Dc_whole_5 : decode b_Dc_assignWhole 5 = .ok (.invokestatic 40, 3) := by decide +kernel
theorem d_Dc_whole_8 : decode b_Dc_assignWhole 8 = .ok (.aload_n 0, 1) := by decide +kernel
theorem d_Dc_whole_9 : decode b_Dc_assignWhole 9 = .ok (.getfield 9, 3) := by decide +kernel
theorem d_Dc_whole_12 : decode b_Dc_assignWhole 12 = .ok (.bipush (34), 2) := by decide +kernel
theorem d_Dc_whole_14 : decode b_Dc_assignWhole 14 = .ok (.lload_n 1, 1) := by decide +kernel
theorem d_Dc_whole_15 : decode b_Dc_assignWhole 15 = .ok (.ldc2_w 46, 3) := by decide +kernel
theorem d_Dc_whole_18 : decode b_Dc_assignWhole 18 = .ok (.lrem, 1) := by decide +kernel
theorem d_Dc_whole_19 : decode b_Dc_assignWhole 19 = .ok (.l2i, 1) := by decide +kernel
theorem d_Dc_whole_20 : decode b_Dc_assignWhole 20 = .ok (.iastore, 1) := by decide +kernel
theorem d_Dc_whole_21 : decode b_Dc_assignWhole 21 = .ok (.aload_n 0, 1) := by decide +kernel
theorem d_Dc_whole_22 : decode b_Dc_assignWhole 22 = .ok (.getfield 9, 3) := by decide +kernel
theorem d_Dc_whole_25 : decode b_Dc_assignWhole 25 = .ok (.bipush (33), 2) := by decide +kernel
theorem d_Dc_whole_27 : decode b_Dc_assignWhole 27 = .ok (.lload_n 1, 1) := by decide +kernel
theorem d_Dc_whole_28 : decode b_Dc_assignWhole 28 = .ok (.ldc2_w 46, 3) := by decide +kernel
theorem d_Dc_whole_31 : decode b_Dc_assignWhole 31 = .ok (.ldiv, 1) := by decide +kernel
theorem d_Dc_whole_32 : decode b_Dc_assignWhole 32 = .ok (.l2i, 1) := by decide +kernel
theorem d_Dc_whole_33 : decode b_Dc_assignWhole 33 = .ok (.iastore, 1) := by decide +kernel
theorem d_Dc_whole_34 : decode b_Dc_assignWhole 34 = .ok (.aload_n 0, 1) := by decide +kernel
theorem d_Dc_whole_35 : decode b_Dc_assignWhole 35 = .ok (.bipush (33), 2) := by decide +kernel
theorem d_Dc_whole_37 : decode b_Dc_assignWhole 37 = .ok (.putfield 13, 3) := by decide +kernel
theorem d_Dc_whole_40 : decode b_Dc_assignWhole 40 = .ok (.aload_n 0, 1) := by decide +kernel
theorem d_Dc_whole_41 : decode b_Dc_assignWhole 41 = .ok (.bipush (34), 2) := by decide +kernel
theorem d_Dc_whole_43 : decode b_Dc_assignWhole 43 = .ok (.putfield 17, 3) := by decide +kernel
theorem d_Dc_whole_46 : decode b_Dc_assignWhole 46 = .ok (.return_, 1) := by decide +kernel
set_option maxHeartbeats 4000000 in
set_option maxRecDepth 100000 in
theorem c_Dc_whole (l : Launch) (D : va_G) (cI cB : ClassId) (x d la t ba tt : Nat) (ad : Nat → Nat) (V : Int) (tx : List Int) (wc : Int) (hwc : 0 ≤ wc ∧ wc ≤ 18014398509481983) : Ct l y_Dc_assignWhole (ws_Dc_assignWhole) 1 (AX x d la t ba) [.ref d, .long (lz wc)] (XW D cI cB x d la t ba tt ad V tx) (zR none (XL D cI cB x d la t ba tt ad (wc * 10 ^ 1080) 34 tx)) := by
  refine z_body zSt_XW (by decide +kernel) rfl (Nat.le_of_ble_eq_true rfl) ?_
  intro p e s m args below meth c ls hx hb hml hr hlk hts0 hown hpre0 H locs hpre hS hl
  have hts : ∀ w ∈ TBL, w.before args s = true := fun w hw => hts0 w (List.mem_cons_of_mem _ hw)
  have hl : lv_has ls 3 [(0, .ref d), (1, .long (lz wc))] := hl
  have hw := hpre
  have hst0 := hpre0.st
  have hw9 := hw
  obtain ⟨lt, f, fi, g, n, ⟨hK, hP, hD⟩, hdec, htx, -⟩ := hw9
  have hdr := hdec.1
  have htn := htx.1
  have htl := htx.2.1
  refine lv_aload_n hx hb d_Dc_whole_0 rfl (lv_at hl 0 rfl) ?_
  refine va_get (D := D) (ci := 1) (v := .ref la) (C := R_1) (T := T_1) (N := 3) hx hb hts in_1 hown hK hP 1 rfl rfl 0 (by decide) (hts _ tw_33) (fun _ h9 => h9) rfl d_Dc_whole_1 ?_
  refine lv_iconst (v := iz 0) hx hb d_Dc_whole_4 rfl ?_
  have hct := c_fill l D cI cB x d la t ba fi lt f g n
  refine z_go (va_runS (As := [.ref la, .int (iz 0)]) (rest := []) ⟨hx, hb, hml, hown, hts⟩ hct.2 (z_cwS hts w_Ar_fill tw_252 (by decide)) (z_preS hct.1 ⟨hK, hP, hD⟩) rfl rfl hl.1 rfl (lv_room (Nat.le_of_ble_eq_true rfl)) d_Dc_whole_5 ⟨Nat.zero_le _, Nat.zero_le _⟩) hS (fun _ h9 => h9) (fun v9 t9 H locs hv9 hp9 hz9 hk9 hS => ?_)
  obtain ⟨rfl, hK, hP, hD⟩ := hp9
  have hK := va_K.moved hv9.symm hK
  have hP : va_P D vwCl [(x, .inr (0, [.ref d, .ref t])), (d, .inr (1, [.ref la, .int (iz fi), .int (iz lt)])), (la, .inl (cI, 155, .inl (az (fun _ => 0)))), (t, .inr (2, [.ref ba, .int (iz n)])), (ba, .inl (cB, 1612, .inl (az g)))] H := hP
  have hD : va_D (AX x d la t ba) [(x, .inr (0, [.ref d, .ref t])), (d, .inr (1, [.ref la, .int (iz fi), .int (iz lt)])), (la, .inl (cI, 155, .inl (az (fun _ => 0)))), (t, .inr (2, [.ref ba, .int (iz n)])), (ba, .inl (cB, 1612, .inl (az g)))] := hD
  refine W.eq (g2 := F0 m 8 ls []) rfl ?_
  refine lv_aload_n hx hb d_Dc_whole_8 rfl (lv_at hl 0 rfl) ?_
  refine va_get (D := D) (ci := 1) (v := .ref la) (C := R_1) (T := T_1) (N := 3) hx hb hts in_1 hown hK hP 1 rfl rfl 0 (by decide) (hts _ tw_33) (fun _ h9 => h9) rfl d_Dc_whole_9 ?_
  refine lv_bipush (v := iz 34) hx hb d_Dc_whole_12 (by decide) ?_
  refine lv_lload_n hx hb d_Dc_whole_14 rfl (lv_at hl 1 rfl) ?_
  refine lv_ldc2 (v := (1000000000 : Int64)) hx hb hown (hts _ tw_255) d_Dc_whole_15 ?_
  refine z_topl (y := lz (1000000000)) (by decide) ?_
  refine z_lrem hx hb d_Dc_whole_18 ⟨by omega, by omega⟩ ⟨by omega, by omega⟩ ?_
  refine z_l2i hx hb d_Dc_whole_19 ?_
  refine z_iast hx hb hK hP hD hS 2 0 rfl rfl (by omega) (by omega) (by decide) d_Dc_whole_20 (fun H locs hP hD hS => ?_)
  have hP : va_P D vwCl [(x, .inr (0, [.ref d, .ref t])), (d, .inr (1, [.ref la, .int (iz fi), .int (iz lt)])), (la, .inl (cI, 155, .inl (az (up (fun _ => 0) 34 (wc % 1000000000))))), (t, .inr (2, [.ref ba, .int (iz n)])), (ba, .inl (cB, 1612, .inl (az g)))] H := hP
  have hD : va_D (AX x d la t ba) [(x, .inr (0, [.ref d, .ref t])), (d, .inr (1, [.ref la, .int (iz fi), .int (iz lt)])), (la, .inl (cI, 155, .inl (az (up (fun _ => 0) 34 (wc % 1000000000))))), (t, .inr (2, [.ref ba, .int (iz n)])), (ba, .inl (cB, 1612, .inl (az g)))] := hD
  refine lv_aload_n hx hb d_Dc_whole_21 rfl (lv_at hl 0 rfl) ?_
  refine va_get (D := D) (ci := 1) (v := .ref la) (C := R_1) (T := T_1) (N := 3) hx hb hts in_1 hown hK hP 1 rfl rfl 0 (by decide) (hts _ tw_33) (fun _ h9 => h9) rfl d_Dc_whole_22 ?_
  refine lv_bipush (v := iz 33) hx hb d_Dc_whole_25 (by decide) ?_
  refine lv_lload_n hx hb d_Dc_whole_27 rfl (lv_at hl 1 rfl) ?_
  refine lv_ldc2 (v := (1000000000 : Int64)) hx hb hown (hts _ tw_255) d_Dc_whole_28 ?_
  refine z_topl (y := lz (1000000000)) (by decide) ?_
  refine z_ldiv hx hb d_Dc_whole_31 ⟨by omega, by omega⟩ ⟨by omega, by omega⟩ ?_
  refine z_l2i hx hb d_Dc_whole_32 ?_
  refine z_iast hx hb hK hP hD hS 2 0 rfl rfl (by omega) (by omega) (by decide) d_Dc_whole_33 (fun H locs hP hD hS => ?_)
  have hP : va_P D vwCl [(x, .inr (0, [.ref d, .ref t])), (d, .inr (1, [.ref la, .int (iz fi), .int (iz lt)])), (la, .inl (cI, 155, .inl (az (up (up (fun _ => 0) 34 (wc % 1000000000)) 33 (wc / 1000000000))))), (t, .inr (2, [.ref ba, .int (iz n)])), (ba, .inl (cB, 1612, .inl (az g)))] H := hP
  have hD : va_D (AX x d la t ba) [(x, .inr (0, [.ref d, .ref t])), (d, .inr (1, [.ref la, .int (iz fi), .int (iz lt)])), (la, .inl (cI, 155, .inl (az (up (up (fun _ => 0) 34 (wc % 1000000000)) 33 (wc / 1000000000))))), (t, .inr (2, [.ref ba, .int (iz n)])), (ba, .inl (cB, 1612, .inl (az g)))] := hD
  refine lv_aload_n hx hb d_Dc_whole_34 rfl (lv_at hl 0 rfl) ?_
  refine lv_bipush (v := iz 33) hx hb d_Dc_whole_35 (by decide) ?_
  refine va_put (D := D) (ci := 1) (v := .int (iz 33)) (ty := .int) (C := R_1) (T := T_1) (N := 3) hx hb hts in_1 ty_1 tyok_1 nm_1 hown hK hP hD hS 1 rfl rfl 1 (by decide) (hts _ tw_34) (fun _ h9 => h9) rfl (by decide +kernel) rfl rfl (Nat.le_of_ble_eq_true rfl) d_Dc_whole_37 (fun H locs hP hD hS => ?_)
  have hP : va_P D vwCl [(x, .inr (0, [.ref d, .ref t])), (d, .inr (1, [.ref la, .int (iz 33), .int (iz lt)])), (la, .inl (cI, 155, .inl (az (up (up (fun _ => 0) 34 (wc % 1000000000)) 33 (wc / 1000000000))))), (t, .inr (2, [.ref ba, .int (iz n)])), (ba, .inl (cB, 1612, .inl (az g)))] H := hP
  have hD : va_D (AX x d la t ba) [(x, .inr (0, [.ref d, .ref t])), (d, .inr (1, [.ref la, .int (iz 33), .int (iz lt)])), (la, .inl (cI, 155, .inl (az (up (up (fun _ => 0) 34 (wc % 1000000000)) 33 (wc / 1000000000))))), (t, .inr (2, [.ref ba, .int (iz n)])), (ba, .inl (cB, 1612, .inl (az g)))] := hD
  refine lv_aload_n hx hb d_Dc_whole_40 rfl (lv_at hl 0 rfl) ?_
  refine lv_bipush (v := iz 34) hx hb d_Dc_whole_41 (by decide) ?_
  refine va_put (D := D) (ci := 1) (v := .int (iz 34)) (ty := .int) (C := R_1) (T := T_1) (N := 3) hx hb hts in_1 ty_1 tyok_1 nm_1 hown hK hP hD hS 1 rfl rfl 2 (by decide) (hts _ tw_35) (fun _ h9 => h9) rfl (by decide +kernel) rfl rfl (Nat.le_of_ble_eq_true rfl) d_Dc_whole_43 (fun H locs hP hD hS => ?_)
  have hP : va_P D vwCl [(x, .inr (0, [.ref d, .ref t])), (d, .inr (1, [.ref la, .int (iz 33), .int (iz 34)])), (la, .inl (cI, 155, .inl (az (up (up (fun _ => 0) 34 (wc % 1000000000)) 33 (wc / 1000000000))))), (t, .inr (2, [.ref ba, .int (iz n)])), (ba, .inl (cB, 1612, .inl (az g)))] H := hP
  have hD : va_D (AX x d la t ba) [(x, .inr (0, [.ref d, .ref t])), (d, .inr (1, [.ref la, .int (iz 33), .int (iz 34)])), (la, .inl (cI, 155, .inl (az (up (up (fun _ => 0) 34 (wc % 1000000000)) 33 (wc / 1000000000))))), (t, .inr (2, [.ref ba, .int (iz n)])), (ba, .inl (cB, 1612, .inl (az g)))] := hD
  exact z_vret hx hb hr hlk hS (zR_st zSt_XL) ⟨rfl, _, _, _, _, ⟨hK, hP, hD⟩, (whole_ok hwc), htx, hst0.kept hS.2.1⟩ d_Dc_whole_46
theorem d_Dc_assign_0 : decode b_Dc_assign 0 = .ok (.aload_n 0, 1) := by decide +kernel
theorem d_Dc_assign_1 : decode b_Dc_assign 1 = .ok (.lload_n 1, 1) := by decide +kernel
theorem d_Dc_assign_2 : decode b_Dc_assign 2 = .ok (.invokevirtual 20, 3) := by decide +kernel
theorem d_Dc_assign_5 : decode b_Dc_assign 5 = .ok (.lload_n 1, 1) := by decide +kernel
theorem d_Dc_assign_6 : decode b_Dc_assign 6 = .ok (.lconst 0, 1) := by decide +kernel
theorem d_Dc_assign_7 : decode b_Dc_assign 7 = .ok (.lcmp, 1) := by decide +kernel
theorem d_Dc_assign_8 : decode b_Dc_assign 8 = .ok (.ifCond .eq (8), 3) := by decide +kernel
theorem d_Dc_assign_11 : decode b_Dc_assign 11 = .ok (.aload_n 0, 1) := by decide +kernel
theorem d_Dc_assign_12 : decode b_Dc_assign 12 = .ok (.iload_n 3, 1) := by decide +kernel
theorem d_Dc_assign_13 : decode b_Dc_assign 13 = .ok (.invokevirtual 24, 3) := by decide +kernel
theorem d_Dc_assign_16 : decode b_Dc_assign 16 = .ok (.return_, 1) := by decide +kernel
set_option maxHeartbeats 4000000 in
set_option maxRecDepth 100000 in
theorem c_Dc_assign (l : Launch) (D : va_G) (cI cB : ClassId) (x d la t ba tt : Nat) (ad : Nat → Nat) (V : Int) (tx : List Int) (wc q Wv : Int) (hwc : 0 ≤ wc ∧ wc ≤ 18014398509481983) (hq : -1074 ≤ q ∧ q ≤ 971) (hW0 : 0 ≤ Wv) (hVW : wc * 10 ^ 1080 * 2 ^ q.toNat = Wv * 2 ^ (-q).toNat) (hWb : 0 ≤ q → Wv < 1000000000 ^ 155) : Ct l y_Dc_assign (ws_Dc_assign) 3 (AX x d la t ba) [.ref d, .long (lz wc), .int (iz q)] (XW D cI cB x d la t ba tt ad V tx) (zR none (XW D cI cB x d la t ba tt ad Wv tx)) := by
  refine z_body zSt_XW (by decide +kernel) rfl (Nat.le_of_ble_eq_true rfl) ?_
  intro p e s m args below meth c ls hx hb hml hr hlk hts0 hown hpre0 H locs hpre hS hl
  have hts : ∀ w ∈ TBL, w.before args s = true := fun w hw => hts0 w (List.mem_cons_of_mem _ hw)
  have hl : lv_has ls 4 [(0, .ref d), (1, .long (lz wc)), (3, .int (iz q))] := hl
  have hw := hpre
  have hst0 := hpre0.st
  refine lv_aload_n hx hb d_Dc_assign_0 rfl (lv_at hl 0 rfl) ?_
  refine lv_lload_n hx hb d_Dc_assign_1 rfl (lv_at hl 1 rfl) ?_
  have hct := c_Dc_whole l D cI cB x d la t ba tt ad V tx wc hwc
  have hw9 := hw
  obtain ⟨lt, f, fi, g, n, ⟨hK, hP, hD⟩, hdec, htx, -⟩ := hw9
  have hdr := hdec.1
  have htn := htx.1
  have htl := htx.2.1
  have hP : va_P D vwCl [(x, .inr (0, [.ref d, .ref t])), (d, .inr (1, [.ref la, .int (iz fi), .int (iz lt)])), (la, .inl (cI, 155, .inl (az f))), (t, .inr (2, [.ref ba, .int (iz n)])), (ba, .inl (cB, 1612, .inl (az g)))] H := hP
  have hD : va_D (AX x d la t ba) [(x, .inr (0, [.ref d, .ref t])), (d, .inr (1, [.ref la, .int (iz fi), .int (iz lt)])), (la, .inl (cI, 155, .inl (az f))), (t, .inr (2, [.ref ba, .int (iz n)])), (ba, .inl (cB, 1612, .inl (az g)))] := hD
  refine z_go (va_runV (As := [.long (lz wc)]) (rest := []) ⟨hx, hb, hml, hown, hts⟩ hct.2 (z_cwV hts w_Dc_assignWhole tw_248 (by decide)) (z_preV hct.1 (va_recv hK hP (ci := 1) (q0 := 1) rfl rfl) hw) rfl rfl hl.1 rfl (lv_room (Nat.le_of_ble_eq_true rfl)) d_Dc_assign_2 ⟨Nat.zero_le _, Nat.zero_le _⟩) hS (fun _ h9 => h9) (fun v9 t9 H locs hv9 hp9 hz9 hk9 hS => ?_)
  obtain ⟨rfl, hw⟩ := hp9
  have hw := XL.moved hv9.symm hw
  refine W.eq (g2 := F0 m 5 ls []) rfl ?_
  refine lv_lload_n hx hb d_Dc_assign_5 rfl (lv_at hl 1 rfl) ?_
  refine lv_lconst (v := lz 0) hx hb d_Dc_assign_6 (by decide) ?_
  refine z_lif_eq (tgt := 16) hx hb d_Dc_assign_7 d_Dc_assign_8 rfl ⟨by omega, by omega⟩ ⟨by omega, by omega⟩ (fun hc7 => ?_) (fun hc7 => ?_)
  · exact z_vret hx hb hr hlk hS (zR_st zSt_XW) ⟨rfl, by
        first
          | exact hw
          | exact ⟨_, by rw [assign_0 hc7 hVW]; rw [hc7, Int.zero_mul] at hw; exact hw⟩⟩ d_Dc_assign_16
  · refine lv_aload_n hx hb d_Dc_assign_11 rfl (lv_at hl 0 rfl) ?_
    refine lv_iload_n hx hb d_Dc_assign_12 rfl (lv_at hl 2 rfl) ?_
    have hct := c_Dc_scale l D cI cB x d la t ba tt ad (wc * 10 ^ 1080) tx q Wv hq hW0 hVW hWb
    refine z_go (va_runV (As := [.int (iz q)]) (rest := []) ⟨hx, hb, hml, hown, hts⟩ hct.2 (z_cwV hts w_Dc_scaleByPowerOfTwo tw_256 (by decide)) (z_preV hct.1 (hw.recv) hw) rfl rfl hl.1 rfl (lv_room (Nat.le_of_ble_eq_true rfl)) d_Dc_assign_13 ⟨Nat.zero_le _, Nat.zero_le _⟩) hS (fun _ h9 => h9) (fun v9 t9 H locs hv9 hp9 hz9 hk9 hS => ?_)
    obtain ⟨rfl, hw⟩ := hp9
    have hw := XW.moved hv9.symm hw
    refine W.eq (g2 := F0 m 16 ls []) rfl ?_
    exact z_vret hx hb hr hlk hS (zR_st zSt_XW) ⟨rfl, by
        first
          | exact hw
          | exact ⟨_, by rw [assign_0 hc7 hVW]; rw [hc7, Int.zero_mul] at hw; exact hw⟩⟩ d_Dc_assign_16
end
section
theorem d_EN_digit_0 : decode b_EN_writeDigit 0 = .ok (.aload_n 0, 1) := by decide +kernel
theorem d_EN_digit_1 : decode b_EN_writeDigit 1 = .ok (.getfield 19, 3) := by decide +kernel
theorem d_EN_digit_4 : decode b_EN_writeDigit 4 = .ok (.bipush (48), 2) := by decide +kernel
theorem d_EN_digit_6 : decode b_EN_writeDigit 6 = .ok (.iload_n 1, 1) := by decide +kernel
theorem d_EN_digit_7 : decode b_EN_writeDigit 7 = .ok (.iadd, 1) := by decide +kernel
theorem d_EN_digit_8 : decode b_EN_writeDigit 8 = .ok (.i2c, 1) := by decide +kernel
theorem d_EN_digit_9 : decode b_EN_writeDigit 9 = .ok (.invokevirtual 122, 3) := by decide +kernel
theorem d_EN_digit_12 : decode b_EN_writeDigit 12 = .ok (.return_, 1) := by decide +kernel
set_option maxHeartbeats 4000000 in
set_option maxRecDepth 100000 in
theorem c_EN_digit (l : Launch) (D : va_G) (cI cB : ClassId) (x d la t ba tt : Nat) (ad : Nat → Nat) (V : Int) (tx : List Int) (dg : Int) (hdg : 0 ≤ dg ∧ dg ≤ 9) (hlen : tx.length < 1612) : Ct l y_EN_writeDigit (ws_EN_writeDigit) 1 (AX x d la t ba) [.ref x, .int (iz dg)] (XW D cI cB x d la t ba tt ad V tx) (zR none (XW D cI cB x d la t ba tt ad V (tx ++ [48 + dg]))) := by
  refine z_body zSt_XW (by decide +kernel) rfl (Nat.le_of_ble_eq_true rfl) ?_
  intro p e s m args below meth c ls hx hb hml hr hlk hts0 hown hpre0 H locs hpre hS hl
  have hts : ∀ w ∈ TBL, w.before args s = true := fun w hw => hts0 w (List.mem_cons_of_mem _ hw)
  have hl : lv_has ls 2 [(0, .ref x), (1, .int (iz dg))] := hl
  have hw := hpre
  have hst0 := hpre0.st
  refine lv_aload_n hx hb d_EN_digit_0 rfl (lv_at hl 0 rfl) ?_
  have hw9 := hw
  obtain ⟨lt, f, fi, g, n, ⟨hK, hP, hD⟩, hdec, htx, -⟩ := hw9
  have hdr := hdec.1
  have htn := htx.1
  have htl := htx.2.1
  have hP : va_P D vwCl [(x, .inr (0, [.ref d, .ref t])), (d, .inr (1, [.ref la, .int (iz fi), .int (iz lt)])), (la, .inl (cI, 155, .inl (az f))), (t, .inr (2, [.ref ba, .int (iz n)])), (ba, .inl (cB, 1612, .inl (az g)))] H := hP
  have hD : va_D (AX x d la t ba) [(x, .inr (0, [.ref d, .ref t])), (d, .inr (1, [.ref la, .int (iz fi), .int (iz lt)])), (la, .inl (cI, 155, .inl (az f))), (t, .inr (2, [.ref ba, .int (iz n)])), (ba, .inl (cB, 1612, .inl (az g)))] := hD
  refine va_get (D := D) (ci := 0) (v := .ref t) (C := R_0) (T := T_0) (N := 2) hx hb hts in_0 hown hK hP 0 rfl rfl 1 (by decide) (hts _ tw_59) (fun _ h9 => h9) rfl d_EN_digit_1 ?_
  refine lv_bipush (v := iz 48) hx hb d_EN_digit_4 (by decide) ?_
  refine lv_iload_n hx hb d_EN_digit_6 rfl (lv_at hl 1 rfl) ?_
  refine z_iadd hx hb d_EN_digit_7 ?_
  refine z_i2c hx hb d_EN_digit_8 ⟨by omega, by omega⟩ ?_
  have hct := c_Tx_add l D cI cB x d la t ba tt ad V tx (48 + dg) ⟨by omega, by omega⟩ hlen
  refine z_go (va_runV (As := [.int (iz (48 + dg))]) (rest := []) ⟨hx, hb, hml, hown, hts⟩ hct.2 (z_cwV hts w_Tx_add tw_311 (by decide)) (z_preV hct.1 (va_recv hK hP (ci := 2) (q0 := 3) rfl rfl) hw) rfl rfl hl.1 rfl (lv_room (Nat.le_of_ble_eq_true rfl)) d_EN_digit_9 ⟨Nat.zero_le _, Nat.zero_le _⟩) hS (fun _ h9 => h9) (fun v9 t9 H locs hv9 hp9 hz9 hk9 hS => ?_)
  obtain ⟨rfl, hw⟩ := hp9
  have hw := XW.moved hv9.symm hw
  refine W.eq (g2 := F0 m 12 ls []) rfl ?_
  exact z_vret hx hb hr hlk hS (zR_st zSt_XW) ⟨rfl, hw⟩ d_EN_digit_12
theorem d_EN_exp_0 : decode b_EN_writeExponent 0 = .ok (.iload_n 1, 1) := by decide +kernel
theorem d_EN_exp_1 : decode b_EN_writeExponent 1 = .ok (.invokestatic 133, 3) := by decide +kernel
theorem d_EN_exp_4 : decode b_EN_writeExponent 4 = .ok (.istore_n 2, 1) := by decide +kernel
theorem d_EN_exp_5 : decode b_EN_writeExponent 5 = .ok (.aload_n 0, 1) := by decide +kernel
theorem d_EN_exp_6 : decode b_EN_writeExponent 6 = .ok (.getfield 19, 3) := by decide +kernel
theorem d_EN_exp_9 : decode b_EN_writeExponent 9 = .ok (.bipush (101), 2) := by decide +kernel
theorem d_EN_exp_11 : decode b_EN_writeExponent 11 = .ok (.invokevirtual 122, 3) := by decide +kernel
theorem d_EN_exp_14 : decode b_EN_writeExponent 14 = .ok (.aload_n 0, 1) := by decide +kernel
theorem d_EN_exp_15 : decode b_EN_writeExponent 15 = .ok (.getfield 19, 3) := by decide +kernel
theorem d_EN_exp_18 : decode b_EN_writeExponent 18 = .ok (.iload_n 1, 1) := by decide +kernel
theorem d_EN_exp_19 : decode b_EN_writeExponent 19 = .ok (.ifCond .ge (8), 3) := by decide +kernel
theorem d_EN_exp_22 : decode b_EN_writeExponent 22 = .ok (.bipush (45), 2) := by decide +kernel
theorem d_EN_exp_24 : decode b_EN_writeExponent 24 = .ok (.goto (5), 3) := by decide +kernel
theorem d_EN_exp_27 : decode b_EN_writeExponent 27 = .ok (.bipush (43), 2) := by decide +kernel
theorem d_EN_exp_29 : decode b_EN_writeExponent 29 = .ok (.invokevirtual 122, 3) := by decide +kernel
theorem d_EN_exp_32 : decode b_EN_writeExponent 32 = .ok (.iload_n 2, 1) := by decide +kernel
theorem d_EN_exp_33 : decode b_EN_writeExponent 33 = .ok (.bipush (100), 2) := by decide +kernel
theorem d_EN_exp_35 : decode b_EN_writeExponent 35 = .ok (.if_icmp .lt (11), 3) := by decide +kernel
theorem d_EN_exp_38 : decode b_EN_writeExponent 38 = .ok (.aload_n 0, 1) := by decide +kernel
theorem d_EN_exp_39 : decode b_EN_writeExponent 39 = .ok (.iload_n 2, 1) := by decide +kernel
theorem d_EN_exp_40 : decode b_EN_writeExponent 40 = .ok (.bipush (100), 2) := by decide +kernel
theorem d_EN_exp_42 : decode b_EN_writeExponent 42 = .ok (.idiv, 1) := by decide +kernel
theorem d_EN_exp_43 : decode b_EN_writeExponent 43 = .ok (.invokevirtual 119, 3) := by decide +kernel
theorem d_EN_exp_46 : decode b_EN_writeExponent 46 = .ok (.aload_n 0, 1) := by decide +kernel
theorem d_EN_exp_47 : decode b_EN_writeExponent 47 = .ok (.iload_n 2, 1) := by decide +kernel
theorem d_EN_exp_48 : decode b_EN_writeExponent 48 = .ok (.bipush (10), 2) := by decide +kernel
theorem d_EN_exp_50 : decode b_EN_writeExponent 50 = .ok (.idiv, 1) := by decide +kernel
theorem d_EN_exp_51 : decode b_EN_writeExponent 51 = .ok (.bipush (10), 2) := by decide +kernel
theorem d_EN_exp_53 : decode b_EN_writeExponent 53 = .ok (.irem, 1) := by decide +kernel
theorem d_EN_exp_54 : decode b_EN_writeExponent 54 = .ok (.invokevirtual 119, 3) := by decide +kernel
theorem d_EN_exp_57 : decode b_EN_writeExponent 57 = .ok (.aload_n 0, 1) := by decide +kernel
theorem d_EN_exp_58 : decode b_EN_writeExponent 58 = .ok (.iload_n 2, 1) := by decide +kernel
theorem d_EN_exp_59 : decode b_EN_writeExponent 59 = .ok (.bipush (10), 2) := by decide +kernel
theorem d_EN_exp_61 : decode b_EN_writeExponent 61 = .ok (.irem, 1) := by decide +kernel
theorem d_EN_exp_62 : decode b_EN_writeExponent 62 = .ok (.invokevirtual 119, 3) := by decide +kernel
theorem d_EN_exp_65 : decode b_EN_writeExponent 65 = .ok (.return_, 1) := by decide +kernel
set_option maxHeartbeats 4000000 in
set_option maxRecDepth 100000 in
theorem c_EN_exp (l : Launch) (D : va_G) (cI cB : ClassId) (x d la t ba tt : Nat) (ad : Nat → Nat) (V : Int) (tx : List Int) (r : Int) (hr0 : -1100 ≤ r ∧ r ≤ 999) (hr1 : -999 ≤ r) (hlen : tx.length + 5 ≤ 1612) : Ct l y_EN_writeExponent (ws_EN_writeExponent) 2 (AX x d la t ba) [.ref x, .int (iz r)] (XW D cI cB x d la t ba tt ad V tx) (zR none (XW D cI cB x d la t ba tt ad V (tx ++ expL r))) := by
  refine z_body zSt_XW (by decide +kernel) rfl (Nat.le_of_ble_eq_true rfl) ?_
  intro p e s m args below meth c ls hx hb hml hr hlk hts0 hown hpre0 H locs hpre hS hl
  have hts : ∀ w ∈ TBL, w.before args s = true := fun w hw => hts0 w (List.mem_cons_of_mem _ hw)
  have hl : lv_has ls 3 [(0, .ref x), (1, .int (iz r))] := hl
  have hw := hpre
  have hst0 := hpre0.st
  refine lv_iload_n hx hb d_EN_exp_0 rfl (lv_at hl 1 rfl) ?_
  refine z_mabs hx hb (hml.trans hl.1.symm) hown (hts _ tw_320) (hts _ tw_321) (hts _ tw_16) (hts _ twm_abs) (Nat.le_of_ble_eq_true rfl) (Nat.le_of_ble_eq_true rfl) (Nat.zero_le _) (Nat.zero_le _) ⟨by omega, by omega⟩ d_EN_exp_1 ?_
  refine lv_istore_n hx hb d_EN_exp_4 rfl hl (by decide) rfl (fun ls hl => ?_)
  have hl : lv_has ls 3 [(2, .int (iz (max r (-r)))), (0, .ref x), (1, .int (iz r))] := hl
  refine lv_aload_n hx hb d_EN_exp_5 rfl (lv_at hl 1 rfl) ?_
  have hw9 := hw
  obtain ⟨lt, f, fi, g, n, ⟨hK, hP, hD⟩, hdec, htx, -⟩ := hw9
  have hdr := hdec.1
  have htn := htx.1
  have htl := htx.2.1
  have hP : va_P D vwCl [(x, .inr (0, [.ref d, .ref t])), (d, .inr (1, [.ref la, .int (iz fi), .int (iz lt)])), (la, .inl (cI, 155, .inl (az f))), (t, .inr (2, [.ref ba, .int (iz n)])), (ba, .inl (cB, 1612, .inl (az g)))] H := hP
  have hD : va_D (AX x d la t ba) [(x, .inr (0, [.ref d, .ref t])), (d, .inr (1, [.ref la, .int (iz fi), .int (iz lt)])), (la, .inl (cI, 155, .inl (az f))), (t, .inr (2, [.ref ba, .int (iz n)])), (ba, .inl (cB, 1612, .inl (az g)))] := hD
  refine va_get (D := D) (ci := 0) (v := .ref t) (C := R_0) (T := T_0) (N := 2) hx hb hts in_0 hown hK hP 0 rfl rfl 1 (by decide) (hts _ tw_59) (fun _ h9 => h9) rfl d_EN_exp_6 ?_
  refine lv_bipush (v := iz 101) hx hb d_EN_exp_9 (by decide) ?_
  have hct := c_Tx_add l D cI cB x d la t ba tt ad V (tx) (101) ⟨by omega, by omega⟩ (by (try simp only [List.length_append, List.length_cons, List.length_nil]); omega)
  refine z_go (va_runV (As := [.int (iz 101)]) (rest := []) ⟨hx, hb, hml, hown, hts⟩ hct.2 (z_cwV hts w_Tx_add tw_311 (by decide)) (z_preV hct.1 (va_recv hK hP (ci := 2) (q0 := 3) rfl rfl) hw) rfl rfl hl.1 rfl (lv_room (Nat.le_of_ble_eq_true rfl)) d_EN_exp_11 ⟨Nat.zero_le _, Nat.zero_le _⟩) hS (fun _ h9 => h9) (fun v9 t9 H locs hv9 hp9 hz9 hk9 hS => ?_)
  obtain ⟨rfl, hw⟩ := hp9
  have hw := XW.moved hv9.symm hw
  refine W.eq (g2 := F0 m 14 ls []) rfl ?_
  refine lv_aload_n hx hb d_EN_exp_14 rfl (lv_at hl 1 rfl) ?_
  have hw9 := hw
  obtain ⟨lt, f, fi, g, n, ⟨hK, hP, hD⟩, hdec, htx, -⟩ := hw9
  have hdr := hdec.1
  have htn := htx.1
  have htl := htx.2.1
  have hP : va_P D vwCl [(x, .inr (0, [.ref d, .ref t])), (d, .inr (1, [.ref la, .int (iz fi), .int (iz lt)])), (la, .inl (cI, 155, .inl (az f))), (t, .inr (2, [.ref ba, .int (iz n)])), (ba, .inl (cB, 1612, .inl (az g)))] H := hP
  have hD : va_D (AX x d la t ba) [(x, .inr (0, [.ref d, .ref t])), (d, .inr (1, [.ref la, .int (iz fi), .int (iz lt)])), (la, .inl (cI, 155, .inl (az f))), (t, .inr (2, [.ref ba, .int (iz n)])), (ba, .inl (cB, 1612, .inl (az g)))] := hD
  refine va_get (D := D) (ci := 0) (v := .ref t) (C := R_0) (T := T_0) (N := 2) hx hb hts in_0 hown hK hP 0 rfl rfl 1 (by decide) (hts _ tw_59) (fun _ h9 => h9) rfl d_EN_exp_15 ?_
  refine lv_iload_n hx hb d_EN_exp_18 rfl (lv_at hl 2 rfl) ?_
  refine z_if_ge (tgt := 27) hx hb d_EN_exp_19 rfl ⟨by omega, by omega⟩ (fun hc19 => ?_) (fun hc19 => ?_)
  · refine lv_bipush (v := iz 43) hx hb d_EN_exp_27 (by decide) ?_
    have hct := c_Tx_add l D cI cB x d la t ba tt ad V (tx ++ [101]) (43) ⟨by omega, by omega⟩ (by (try simp only [List.length_append, List.length_cons, List.length_nil]); omega)
    refine z_go (va_runV (As := [.int (iz 43)]) (rest := []) ⟨hx, hb, hml, hown, hts⟩ hct.2 (z_cwV hts w_Tx_add tw_311 (by decide)) (z_preV hct.1 (va_recv hK hP (ci := 2) (q0 := 3) rfl rfl) hw) rfl rfl hl.1 rfl (lv_room (Nat.le_of_ble_eq_true rfl)) d_EN_exp_29 ⟨Nat.zero_le _, Nat.zero_le _⟩) hS (fun _ h9 => h9) (fun v9 t9 H locs hv9 hp9 hz9 hk9 hS => ?_)
    obtain ⟨rfl, hw⟩ := hp9
    have hw := XW.moved hv9.symm hw
    refine W.eq (g2 := F0 m 32 ls []) rfl ?_
    refine lv_iload_n hx hb d_EN_exp_32 rfl (lv_at hl 0 rfl) ?_
    refine lv_bipush (v := iz 100) hx hb d_EN_exp_33 (by decide) ?_
    refine z_icmp_lt (tgt := 46) hx hb d_EN_exp_35 rfl ⟨by omega, by omega⟩ ⟨by omega, by omega⟩ (fun hc35 => ?_) (fun hc35 => ?_)
    · refine lv_aload_n hx hb d_EN_exp_46 rfl (lv_at hl 1 rfl) ?_
      refine lv_iload_n hx hb d_EN_exp_47 rfl (lv_at hl 0 rfl) ?_
      refine lv_bipush (v := iz 10) hx hb d_EN_exp_48 (by decide) ?_
      refine z_idiv hx hb d_EN_exp_50 ⟨by omega, by omega⟩ ⟨by omega, by omega⟩ ?_
      refine lv_bipush (v := iz 10) hx hb d_EN_exp_51 (by decide) ?_
      refine z_irem hx hb d_EN_exp_53 ⟨by omega, by omega⟩ ⟨by omega, by omega⟩ ?_
      have hct := c_EN_digit l D cI cB x d la t ba tt ad V ((tx ++ [101] ++ [43])) (((max r (-r)) / 10) % 10) ⟨by omega, by omega⟩ (by (try simp only [List.length_append, List.length_cons, List.length_nil]); omega)
      have hw9 := hw
      obtain ⟨lt, f, fi, g, n, ⟨hK, hP, hD⟩, hdec, htx, -⟩ := hw9
      have hdr := hdec.1
      have htn := htx.1
      have htl := htx.2.1
      have hP : va_P D vwCl [(x, .inr (0, [.ref d, .ref t])), (d, .inr (1, [.ref la, .int (iz fi), .int (iz lt)])), (la, .inl (cI, 155, .inl (az f))), (t, .inr (2, [.ref ba, .int (iz n)])), (ba, .inl (cB, 1612, .inl (az g)))] H := hP
      have hD : va_D (AX x d la t ba) [(x, .inr (0, [.ref d, .ref t])), (d, .inr (1, [.ref la, .int (iz fi), .int (iz lt)])), (la, .inl (cI, 155, .inl (az f))), (t, .inr (2, [.ref ba, .int (iz n)])), (ba, .inl (cB, 1612, .inl (az g)))] := hD
      refine z_go (va_runV (As := [.int (iz (((max r (-r)) / 10) % 10))]) (rest := []) ⟨hx, hb, hml, hown, hts⟩ hct.2 (z_cwV hts w_EN_writeDigit tw_307 (by decide)) (z_preV hct.1 (va_recv hK hP (ci := 0) (q0 := 0) rfl rfl) hw) rfl rfl hl.1 rfl (lv_room (Nat.le_of_ble_eq_true rfl)) d_EN_exp_54 ⟨Nat.zero_le _, Nat.zero_le _⟩) hS (fun _ h9 => h9) (fun v9 t9 H locs hv9 hp9 hz9 hk9 hS => ?_)
      obtain ⟨rfl, hw⟩ := hp9
      have hw := XW.moved hv9.symm hw
      refine W.eq (g2 := F0 m 57 ls []) rfl ?_
      refine lv_aload_n hx hb d_EN_exp_57 rfl (lv_at hl 1 rfl) ?_
      refine lv_iload_n hx hb d_EN_exp_58 rfl (lv_at hl 0 rfl) ?_
      refine lv_bipush (v := iz 10) hx hb d_EN_exp_59 (by decide) ?_
      refine z_irem hx hb d_EN_exp_61 ⟨by omega, by omega⟩ ⟨by omega, by omega⟩ ?_
      have hct := c_EN_digit l D cI cB x d la t ba tt ad V (((tx ++ [101] ++ [43]) ++ [48 + (((max r (-r)) / 10) % 10)])) ((max r (-r)) % 10) ⟨by omega, by omega⟩ (by (try simp only [List.length_append, List.length_cons, List.length_nil]); omega)
      have hw9 := hw
      obtain ⟨lt, f, fi, g, n, ⟨hK, hP, hD⟩, hdec, htx, -⟩ := hw9
      have hdr := hdec.1
      have htn := htx.1
      have htl := htx.2.1
      have hP : va_P D vwCl [(x, .inr (0, [.ref d, .ref t])), (d, .inr (1, [.ref la, .int (iz fi), .int (iz lt)])), (la, .inl (cI, 155, .inl (az f))), (t, .inr (2, [.ref ba, .int (iz n)])), (ba, .inl (cB, 1612, .inl (az g)))] H := hP
      have hD : va_D (AX x d la t ba) [(x, .inr (0, [.ref d, .ref t])), (d, .inr (1, [.ref la, .int (iz fi), .int (iz lt)])), (la, .inl (cI, 155, .inl (az f))), (t, .inr (2, [.ref ba, .int (iz n)])), (ba, .inl (cB, 1612, .inl (az g)))] := hD
      refine z_go (va_runV (As := [.int (iz ((max r (-r)) % 10))]) (rest := []) ⟨hx, hb, hml, hown, hts⟩ hct.2 (z_cwV hts w_EN_writeDigit tw_307 (by decide)) (z_preV hct.1 (va_recv hK hP (ci := 0) (q0 := 0) rfl rfl) hw) rfl rfl hl.1 rfl (lv_room (Nat.le_of_ble_eq_true rfl)) d_EN_exp_62 ⟨Nat.zero_le _, Nat.zero_le _⟩) hS (fun _ h9 => h9) (fun v9 t9 H locs hv9 hp9 hz9 hk9 hS => ?_)
      obtain ⟨rfl, hw⟩ := hp9
      have hw := XW.moved hv9.symm hw
      refine W.eq (g2 := F0 m 65 ls []) rfl ?_
      exact z_vret hx hb hr hlk hS (zR_st zSt_XW) ⟨rfl, by
          unfold expL
          first
            | rw [if_pos (show r < 0 by omega)]
            | rw [if_neg (show ¬ r < 0 by omega)]
          first
            | rw [if_pos (show 100 ≤ max r (-r) by omega)]
            | rw [if_neg (show ¬ 100 ≤ max r (-r) by omega)]
          simpa [List.append_assoc] using hw⟩ d_EN_exp_65
    · refine lv_aload_n hx hb d_EN_exp_38 rfl (lv_at hl 1 rfl) ?_
      refine lv_iload_n hx hb d_EN_exp_39 rfl (lv_at hl 0 rfl) ?_
      refine lv_bipush (v := iz 100) hx hb d_EN_exp_40 (by decide) ?_
      refine z_idiv hx hb d_EN_exp_42 ⟨by omega, by omega⟩ ⟨by omega, by omega⟩ ?_
      have hct := c_EN_digit l D cI cB x d la t ba tt ad V ((tx ++ [101] ++ [43])) ((max r (-r)) / 100) ⟨by omega, by omega⟩ (by (try simp only [List.length_append, List.length_cons, List.length_nil]); omega)
      have hw9 := hw
      obtain ⟨lt, f, fi, g, n, ⟨hK, hP, hD⟩, hdec, htx, -⟩ := hw9
      have hdr := hdec.1
      have htn := htx.1
      have htl := htx.2.1
      have hP : va_P D vwCl [(x, .inr (0, [.ref d, .ref t])), (d, .inr (1, [.ref la, .int (iz fi), .int (iz lt)])), (la, .inl (cI, 155, .inl (az f))), (t, .inr (2, [.ref ba, .int (iz n)])), (ba, .inl (cB, 1612, .inl (az g)))] H := hP
      have hD : va_D (AX x d la t ba) [(x, .inr (0, [.ref d, .ref t])), (d, .inr (1, [.ref la, .int (iz fi), .int (iz lt)])), (la, .inl (cI, 155, .inl (az f))), (t, .inr (2, [.ref ba, .int (iz n)])), (ba, .inl (cB, 1612, .inl (az g)))] := hD
      refine z_go (va_runV (As := [.int (iz ((max r (-r)) / 100))]) (rest := []) ⟨hx, hb, hml, hown, hts⟩ hct.2 (z_cwV hts w_EN_writeDigit tw_307 (by decide)) (z_preV hct.1 (va_recv hK hP (ci := 0) (q0 := 0) rfl rfl) hw) rfl rfl hl.1 rfl (lv_room (Nat.le_of_ble_eq_true rfl)) d_EN_exp_43 ⟨Nat.zero_le _, Nat.zero_le _⟩) hS (fun _ h9 => h9) (fun v9 t9 H locs hv9 hp9 hz9 hk9 hS => ?_)
      obtain ⟨rfl, hw⟩ := hp9
      have hw := XW.moved hv9.symm hw
      refine W.eq (g2 := F0 m 46 ls []) rfl ?_
      refine lv_aload_n hx hb d_EN_exp_46 rfl (lv_at hl 1 rfl) ?_
      refine lv_iload_n hx hb d_EN_exp_47 rfl (lv_at hl 0 rfl) ?_
      refine lv_bipush (v := iz 10) hx hb d_EN_exp_48 (by decide) ?_
      refine z_idiv hx hb d_EN_exp_50 ⟨by omega, by omega⟩ ⟨by omega, by omega⟩ ?_
      refine lv_bipush (v := iz 10) hx hb d_EN_exp_51 (by decide) ?_
      refine z_irem hx hb d_EN_exp_53 ⟨by omega, by omega⟩ ⟨by omega, by omega⟩ ?_
      have hct := c_EN_digit l D cI cB x d la t ba tt ad V (((tx ++ [101] ++ [43]) ++ [48 + ((max r (-r)) / 100)])) (((max r (-r)) / 10) % 10) ⟨by omega, by omega⟩ (by (try simp only [List.length_append, List.length_cons, List.length_nil]); omega)
      have hw9 := hw
      obtain ⟨lt, f, fi, g, n, ⟨hK, hP, hD⟩, hdec, htx, -⟩ := hw9
      have hdr := hdec.1
      have htn := htx.1
      have htl := htx.2.1
      have hP : va_P D vwCl [(x, .inr (0, [.ref d, .ref t])), (d, .inr (1, [.ref la, .int (iz fi), .int (iz lt)])), (la, .inl (cI, 155, .inl (az f))), (t, .inr (2, [.ref ba, .int (iz n)])), (ba, .inl (cB, 1612, .inl (az g)))] H := hP
      have hD : va_D (AX x d la t ba) [(x, .inr (0, [.ref d, .ref t])), (d, .inr (1, [.ref la, .int (iz fi), .int (iz lt)])), (la, .inl (cI, 155, .inl (az f))), (t, .inr (2, [.ref ba, .int (iz n)])), (ba, .inl (cB, 1612, .inl (az g)))] := hD
      refine z_go (va_runV (As := [.int (iz (((max r (-r)) / 10) % 10))]) (rest := []) ⟨hx, hb, hml, hown, hts⟩ hct.2 (z_cwV hts w_EN_writeDigit tw_307 (by decide)) (z_preV hct.1 (va_recv hK hP (ci := 0) (q0 := 0) rfl rfl) hw) rfl rfl hl.1 rfl (lv_room (Nat.le_of_ble_eq_true rfl)) d_EN_exp_54 ⟨Nat.zero_le _, Nat.zero_le _⟩) hS (fun _ h9 => h9) (fun v9 t9 H locs hv9 hp9 hz9 hk9 hS => ?_)
      obtain ⟨rfl, hw⟩ := hp9
      have hw := XW.moved hv9.symm hw
      refine W.eq (g2 := F0 m 57 ls []) rfl ?_
      refine lv_aload_n hx hb d_EN_exp_57 rfl (lv_at hl 1 rfl) ?_
      refine lv_iload_n hx hb d_EN_exp_58 rfl (lv_at hl 0 rfl) ?_
      refine lv_bipush (v := iz 10) hx hb d_EN_exp_59 (by decide) ?_
      refine z_irem hx hb d_EN_exp_61 ⟨by omega, by omega⟩ ⟨by omega, by omega⟩ ?_
      have hct := c_EN_digit l D cI cB x d la t ba tt ad V ((((tx ++ [101] ++ [43]) ++ [48 + ((max r (-r)) / 100)]) ++ [48 + (((max r (-r)) / 10) % 10)])) ((max r (-r)) % 10) ⟨by omega, by omega⟩ (by (try simp only [List.length_append, List.length_cons, List.length_nil]); omega)
      have hw9 := hw
      obtain ⟨lt, f, fi, g, n, ⟨hK, hP, hD⟩, hdec, htx, -⟩ := hw9
      have hdr := hdec.1
      have htn := htx.1
      have htl := htx.2.1
      have hP : va_P D vwCl [(x, .inr (0, [.ref d, .ref t])), (d, .inr (1, [.ref la, .int (iz fi), .int (iz lt)])), (la, .inl (cI, 155, .inl (az f))), (t, .inr (2, [.ref ba, .int (iz n)])), (ba, .inl (cB, 1612, .inl (az g)))] H := hP
      have hD : va_D (AX x d la t ba) [(x, .inr (0, [.ref d, .ref t])), (d, .inr (1, [.ref la, .int (iz fi), .int (iz lt)])), (la, .inl (cI, 155, .inl (az f))), (t, .inr (2, [.ref ba, .int (iz n)])), (ba, .inl (cB, 1612, .inl (az g)))] := hD
      refine z_go (va_runV (As := [.int (iz ((max r (-r)) % 10))]) (rest := []) ⟨hx, hb, hml, hown, hts⟩ hct.2 (z_cwV hts w_EN_writeDigit tw_307 (by decide)) (z_preV hct.1 (va_recv hK hP (ci := 0) (q0 := 0) rfl rfl) hw) rfl rfl hl.1 rfl (lv_room (Nat.le_of_ble_eq_true rfl)) d_EN_exp_62 ⟨Nat.zero_le _, Nat.zero_le _⟩) hS (fun _ h9 => h9) (fun v9 t9 H locs hv9 hp9 hz9 hk9 hS => ?_)
      obtain ⟨rfl, hw⟩ := hp9
      have hw := XW.moved hv9.symm hw
      refine W.eq (g2 := F0 m 65 ls []) rfl ?_
      exact z_vret hx hb hr hlk hS (zR_st zSt_XW) ⟨rfl, by
          unfold expL
          first
            | rw [if_pos (show r < 0 by omega)]
            | rw [if_neg (show ¬ r < 0 by omega)]
          first
            | rw [if_pos (show 100 ≤ max r (-r) by omega)]
            | rw [if_neg (show ¬ 100 ≤ max r (-r) by omega)]
          simpa [List.append_assoc] using hw⟩ d_EN_exp_65
  · refine lv_bipush (v := iz 45) hx hb d_EN_exp_22 (by decide) ?_
    refine lv_goto (tgt := 29) hx hb d_EN_exp_24 rfl ?_
    have hct := c_Tx_add l D cI cB x d la t ba tt ad V (tx ++ [101]) (45) ⟨by omega, by omega⟩ (by (try simp only [List.length_append, List.length_cons, List.length_nil]); omega)
    refine z_go (va_runV (As := [.int (iz 45)]) (rest := []) ⟨hx, hb, hml, hown, hts⟩ hct.2 (z_cwV hts w_Tx_add tw_311 (by decide)) (z_preV hct.1 (va_recv hK hP (ci := 2) (q0 := 3) rfl rfl) hw) rfl rfl hl.1 rfl (lv_room (Nat.le_of_ble_eq_true rfl)) d_EN_exp_29 ⟨Nat.zero_le _, Nat.zero_le _⟩) hS (fun _ h9 => h9) (fun v9 t9 H locs hv9 hp9 hz9 hk9 hS => ?_)
    obtain ⟨rfl, hw⟩ := hp9
    have hw := XW.moved hv9.symm hw
    refine W.eq (g2 := F0 m 32 ls []) rfl ?_
    refine lv_iload_n hx hb d_EN_exp_32 rfl (lv_at hl 0 rfl) ?_
    refine lv_bipush (v := iz 100) hx hb d_EN_exp_33 (by decide) ?_
    refine z_icmp_lt (tgt := 46) hx hb d_EN_exp_35 rfl ⟨by omega, by omega⟩ ⟨by omega, by omega⟩ (fun hc35 => ?_) (fun hc35 => ?_)
    · refine lv_aload_n hx hb d_EN_exp_46 rfl (lv_at hl 1 rfl) ?_
      refine lv_iload_n hx hb d_EN_exp_47 rfl (lv_at hl 0 rfl) ?_
      refine lv_bipush (v := iz 10) hx hb d_EN_exp_48 (by decide) ?_
      refine z_idiv hx hb d_EN_exp_50 ⟨by omega, by omega⟩ ⟨by omega, by omega⟩ ?_
      refine lv_bipush (v := iz 10) hx hb d_EN_exp_51 (by decide) ?_
      refine z_irem hx hb d_EN_exp_53 ⟨by omega, by omega⟩ ⟨by omega, by omega⟩ ?_
      have hct := c_EN_digit l D cI cB x d la t ba tt ad V ((tx ++ [101] ++ [45])) (((max r (-r)) / 10) % 10) ⟨by omega, by omega⟩ (by (try simp only [List.length_append, List.length_cons, List.length_nil]); omega)
      have hw9 := hw
      obtain ⟨lt, f, fi, g, n, ⟨hK, hP, hD⟩, hdec, htx, -⟩ := hw9
      have hdr := hdec.1
      have htn := htx.1
      have htl := htx.2.1
      have hP : va_P D vwCl [(x, .inr (0, [.ref d, .ref t])), (d, .inr (1, [.ref la, .int (iz fi), .int (iz lt)])), (la, .inl (cI, 155, .inl (az f))), (t, .inr (2, [.ref ba, .int (iz n)])), (ba, .inl (cB, 1612, .inl (az g)))] H := hP
      have hD : va_D (AX x d la t ba) [(x, .inr (0, [.ref d, .ref t])), (d, .inr (1, [.ref la, .int (iz fi), .int (iz lt)])), (la, .inl (cI, 155, .inl (az f))), (t, .inr (2, [.ref ba, .int (iz n)])), (ba, .inl (cB, 1612, .inl (az g)))] := hD
      refine z_go (va_runV (As := [.int (iz (((max r (-r)) / 10) % 10))]) (rest := []) ⟨hx, hb, hml, hown, hts⟩ hct.2 (z_cwV hts w_EN_writeDigit tw_307 (by decide)) (z_preV hct.1 (va_recv hK hP (ci := 0) (q0 := 0) rfl rfl) hw) rfl rfl hl.1 rfl (lv_room (Nat.le_of_ble_eq_true rfl)) d_EN_exp_54 ⟨Nat.zero_le _, Nat.zero_le _⟩) hS (fun _ h9 => h9) (fun v9 t9 H locs hv9 hp9 hz9 hk9 hS => ?_)
      obtain ⟨rfl, hw⟩ := hp9
      have hw := XW.moved hv9.symm hw
      refine W.eq (g2 := F0 m 57 ls []) rfl ?_
      refine lv_aload_n hx hb d_EN_exp_57 rfl (lv_at hl 1 rfl) ?_
      refine lv_iload_n hx hb d_EN_exp_58 rfl (lv_at hl 0 rfl) ?_
      refine lv_bipush (v := iz 10) hx hb d_EN_exp_59 (by decide) ?_
      refine z_irem hx hb d_EN_exp_61 ⟨by omega, by omega⟩ ⟨by omega, by omega⟩ ?_
      have hct := c_EN_digit l D cI cB x d la t ba tt ad V (((tx ++ [101] ++ [45]) ++ [48 + (((max r (-r)) / 10) % 10)])) ((max r (-r)) % 10) ⟨by omega, by omega⟩ (by (try simp only [List.length_append, List.length_cons, List.length_nil]); omega)
      have hw9 := hw
      obtain ⟨lt, f, fi, g, n, ⟨hK, hP, hD⟩, hdec, htx, -⟩ := hw9
      have hdr := hdec.1
      have htn := htx.1
      have htl := htx.2.1
      have hP : va_P D vwCl [(x, .inr (0, [.ref d, .ref t])), (d, .inr (1, [.ref la, .int (iz fi), .int (iz lt)])), (la, .inl (cI, 155, .inl (az f))), (t, .inr (2, [.ref ba, .int (iz n)])), (ba, .inl (cB, 1612, .inl (az g)))] H := hP
      have hD : va_D (AX x d la t ba) [(x, .inr (0, [.ref d, .ref t])), (d, .inr (1, [.ref la, .int (iz fi), .int (iz lt)])), (la, .inl (cI, 155, .inl (az f))), (t, .inr (2, [.ref ba, .int (iz n)])), (ba, .inl (cB, 1612, .inl (az g)))] := hD
      refine z_go (va_runV (As := [.int (iz ((max r (-r)) % 10))]) (rest := []) ⟨hx, hb, hml, hown, hts⟩ hct.2 (z_cwV hts w_EN_writeDigit tw_307 (by decide)) (z_preV hct.1 (va_recv hK hP (ci := 0) (q0 := 0) rfl rfl) hw) rfl rfl hl.1 rfl (lv_room (Nat.le_of_ble_eq_true rfl)) d_EN_exp_62 ⟨Nat.zero_le _, Nat.zero_le _⟩) hS (fun _ h9 => h9) (fun v9 t9 H locs hv9 hp9 hz9 hk9 hS => ?_)
      obtain ⟨rfl, hw⟩ := hp9
      have hw := XW.moved hv9.symm hw
      refine W.eq (g2 := F0 m 65 ls []) rfl ?_
      exact z_vret hx hb hr hlk hS (zR_st zSt_XW) ⟨rfl, by
          unfold expL
          first
            | rw [if_pos (show r < 0 by omega)]
            | rw [if_neg (show ¬ r < 0 by omega)]
          first
            | rw [if_pos (show 100 ≤ max r (-r) by omega)]
            | rw [if_neg (show ¬ 100 ≤ max r (-r) by omega)]
          simpa [List.append_assoc] using hw⟩ d_EN_exp_65
    · refine lv_aload_n hx hb d_EN_exp_38 rfl (lv_at hl 1 rfl) ?_
      refine lv_iload_n hx hb d_EN_exp_39 rfl (lv_at hl 0 rfl) ?_
      refine lv_bipush (v := iz 100) hx hb d_EN_exp_40 (by decide) ?_
      refine z_idiv hx hb d_EN_exp_42 ⟨by omega, by omega⟩ ⟨by omega, by omega⟩ ?_
      have hct := c_EN_digit l D cI cB x d la t ba tt ad V ((tx ++ [101] ++ [45])) ((max r (-r)) / 100) ⟨by omega, by omega⟩ (by (try simp only [List.length_append, List.length_cons, List.length_nil]); omega)
      have hw9 := hw
      obtain ⟨lt, f, fi, g, n, ⟨hK, hP, hD⟩, hdec, htx, -⟩ := hw9
      have hdr := hdec.1
      have htn := htx.1
      have htl := htx.2.1
      have hP : va_P D vwCl [(x, .inr (0, [.ref d, .ref t])), (d, .inr (1, [.ref la, .int (iz fi), .int (iz lt)])), (la, .inl (cI, 155, .inl (az f))), (t, .inr (2, [.ref ba, .int (iz n)])), (ba, .inl (cB, 1612, .inl (az g)))] H := hP
      have hD : va_D (AX x d la t ba) [(x, .inr (0, [.ref d, .ref t])), (d, .inr (1, [.ref la, .int (iz fi), .int (iz lt)])), (la, .inl (cI, 155, .inl (az f))), (t, .inr (2, [.ref ba, .int (iz n)])), (ba, .inl (cB, 1612, .inl (az g)))] := hD
      refine z_go (va_runV (As := [.int (iz ((max r (-r)) / 100))]) (rest := []) ⟨hx, hb, hml, hown, hts⟩ hct.2 (z_cwV hts w_EN_writeDigit tw_307 (by decide)) (z_preV hct.1 (va_recv hK hP (ci := 0) (q0 := 0) rfl rfl) hw) rfl rfl hl.1 rfl (lv_room (Nat.le_of_ble_eq_true rfl)) d_EN_exp_43 ⟨Nat.zero_le _, Nat.zero_le _⟩) hS (fun _ h9 => h9) (fun v9 t9 H locs hv9 hp9 hz9 hk9 hS => ?_)
      obtain ⟨rfl, hw⟩ := hp9
      have hw := XW.moved hv9.symm hw
      refine W.eq (g2 := F0 m 46 ls []) rfl ?_
      refine lv_aload_n hx hb d_EN_exp_46 rfl (lv_at hl 1 rfl) ?_
      refine lv_iload_n hx hb d_EN_exp_47 rfl (lv_at hl 0 rfl) ?_
      refine lv_bipush (v := iz 10) hx hb d_EN_exp_48 (by decide) ?_
      refine z_idiv hx hb d_EN_exp_50 ⟨by omega, by omega⟩ ⟨by omega, by omega⟩ ?_
      refine lv_bipush (v := iz 10) hx hb d_EN_exp_51 (by decide) ?_
      refine z_irem hx hb d_EN_exp_53 ⟨by omega, by omega⟩ ⟨by omega, by omega⟩ ?_
      have hct := c_EN_digit l D cI cB x d la t ba tt ad V (((tx ++ [101] ++ [45]) ++ [48 + ((max r (-r)) / 100)])) (((max r (-r)) / 10) % 10) ⟨by omega, by omega⟩ (by (try simp only [List.length_append, List.length_cons, List.length_nil]); omega)
      have hw9 := hw
      obtain ⟨lt, f, fi, g, n, ⟨hK, hP, hD⟩, hdec, htx, -⟩ := hw9
      have hdr := hdec.1
      have htn := htx.1
      have htl := htx.2.1
      have hP : va_P D vwCl [(x, .inr (0, [.ref d, .ref t])), (d, .inr (1, [.ref la, .int (iz fi), .int (iz lt)])), (la, .inl (cI, 155, .inl (az f))), (t, .inr (2, [.ref ba, .int (iz n)])), (ba, .inl (cB, 1612, .inl (az g)))] H := hP
      have hD : va_D (AX x d la t ba) [(x, .inr (0, [.ref d, .ref t])), (d, .inr (1, [.ref la, .int (iz fi), .int (iz lt)])), (la, .inl (cI, 155, .inl (az f))), (t, .inr (2, [.ref ba, .int (iz n)])), (ba, .inl (cB, 1612, .inl (az g)))] := hD
      refine z_go (va_runV (As := [.int (iz (((max r (-r)) / 10) % 10))]) (rest := []) ⟨hx, hb, hml, hown, hts⟩ hct.2 (z_cwV hts w_EN_writeDigit tw_307 (by decide)) (z_preV hct.1 (va_recv hK hP (ci := 0) (q0 := 0) rfl rfl) hw) rfl rfl hl.1 rfl (lv_room (Nat.le_of_ble_eq_true rfl)) d_EN_exp_54 ⟨Nat.zero_le _, Nat.zero_le _⟩) hS (fun _ h9 => h9) (fun v9 t9 H locs hv9 hp9 hz9 hk9 hS => ?_)
      obtain ⟨rfl, hw⟩ := hp9
      have hw := XW.moved hv9.symm hw
      refine W.eq (g2 := F0 m 57 ls []) rfl ?_
      refine lv_aload_n hx hb d_EN_exp_57 rfl (lv_at hl 1 rfl) ?_
      refine lv_iload_n hx hb d_EN_exp_58 rfl (lv_at hl 0 rfl) ?_
      refine lv_bipush (v := iz 10) hx hb d_EN_exp_59 (by decide) ?_
      refine z_irem hx hb d_EN_exp_61 ⟨by omega, by omega⟩ ⟨by omega, by omega⟩ ?_
      have hct := c_EN_digit l D cI cB x d la t ba tt ad V ((((tx ++ [101] ++ [45]) ++ [48 + ((max r (-r)) / 100)]) ++ [48 + (((max r (-r)) / 10) % 10)])) ((max r (-r)) % 10) ⟨by omega, by omega⟩ (by (try simp only [List.length_append, List.length_cons, List.length_nil]); omega)
      have hw9 := hw
      obtain ⟨lt, f, fi, g, n, ⟨hK, hP, hD⟩, hdec, htx, -⟩ := hw9
      have hdr := hdec.1
      have htn := htx.1
      have htl := htx.2.1
      have hP : va_P D vwCl [(x, .inr (0, [.ref d, .ref t])), (d, .inr (1, [.ref la, .int (iz fi), .int (iz lt)])), (la, .inl (cI, 155, .inl (az f))), (t, .inr (2, [.ref ba, .int (iz n)])), (ba, .inl (cB, 1612, .inl (az g)))] H := hP
      have hD : va_D (AX x d la t ba) [(x, .inr (0, [.ref d, .ref t])), (d, .inr (1, [.ref la, .int (iz fi), .int (iz lt)])), (la, .inl (cI, 155, .inl (az f))), (t, .inr (2, [.ref ba, .int (iz n)])), (ba, .inl (cB, 1612, .inl (az g)))] := hD
      refine z_go (va_runV (As := [.int (iz ((max r (-r)) % 10))]) (rest := []) ⟨hx, hb, hml, hown, hts⟩ hct.2 (z_cwV hts w_EN_writeDigit tw_307 (by decide)) (z_preV hct.1 (va_recv hK hP (ci := 0) (q0 := 0) rfl rfl) hw) rfl rfl hl.1 rfl (lv_room (Nat.le_of_ble_eq_true rfl)) d_EN_exp_62 ⟨Nat.zero_le _, Nat.zero_le _⟩) hS (fun _ h9 => h9) (fun v9 t9 H locs hv9 hp9 hz9 hk9 hS => ?_)
      obtain ⟨rfl, hw⟩ := hp9
      have hw := XW.moved hv9.symm hw
      refine W.eq (g2 := F0 m 65 ls []) rfl ?_
      exact z_vret hx hb hr hlk hS (zR_st zSt_XW) ⟨rfl, by
          unfold expL
          first
            | rw [if_pos (show r < 0 by omega)]
            | rw [if_neg (show ¬ r < 0 by omega)]
          first
            | rw [if_pos (show 100 ≤ max r (-r) by omega)]
            | rw [if_neg (show ¬ 100 ≤ max r (-r) by omega)]
          simpa [List.append_assoc] using hw⟩ d_EN_exp_65
theorem d_EN_behind_0 : decode b_EN_writeBehindPoint 0 = .ok (.iload_n 2, 1) := by decide +kernel
theorem d_EN_behind_1 : decode b_EN_writeBehindPoint 1 = .ok (.ifCond .gt (7), 3) := by decide +kernel
theorem d_EN_behind_4 : decode b_EN_writeBehindPoint 4 = .ok (.iload_n 3, 1) := by decide +kernel
theorem d_EN_behind_5 : decode b_EN_writeBehindPoint 5 = .ok (.ifCond .eq (12), 3) := by decide +kernel
theorem d_EN_behind_8 : decode b_EN_writeBehindPoint 8 = .ok (.aload_n 0, 1) := by decide +kernel
theorem d_EN_behind_9 : decode b_EN_writeBehindPoint 9 = .ok (.getfield 19, 3) := by decide +kernel
theorem d_EN_behind_12 : decode b_EN_writeBehindPoint 12 = .ok (.bipush (46), 2) := by decide +kernel
theorem d_EN_behind_14 : decode b_EN_writeBehindPoint 14 = .ok (.invokevirtual 122, 3) := by decide +kernel
theorem d_EN_behind_17 : decode b_EN_writeBehindPoint 17 = .ok (.iconst 0, 1) := by decide +kernel
theorem d_EN_behind_18 : decode b_EN_writeBehindPoint 18 = .ok (.istore 4, 2) := by decide +kernel
theorem d_EN_behind_20 : decode b_EN_writeBehindPoint 20 = .ok (.iload 4, 2) := by decide +kernel
theorem d_EN_behind_22 : decode b_EN_writeBehindPoint 22 = .ok (.iload_n 2, 1) := by decide +kernel
theorem d_EN_behind_23 : decode b_EN_writeBehindPoint 23 = .ok (.if_icmp .ge (24), 3) := by decide +kernel
theorem d_EN_behind_26 : decode b_EN_writeBehindPoint 26 = .ok (.aload_n 0, 1) := by decide +kernel
theorem d_EN_behind_27 : decode b_EN_writeBehindPoint 27 = .ok (.aload_n 0, 1) := by decide +kernel
theorem d_EN_behind_28 : decode b_EN_writeBehindPoint 28 = .ok (.getfield 10, 3) := by decide +kernel
theorem d_EN_behind_31 : decode b_EN_writeBehindPoint 31 = .ok (.iload_n 1, 1) := by decide +kernel
theorem d_EN_behind_32 : decode b_EN_writeBehindPoint 32 = .ok (.iload 4, 2) := by decide +kernel
theorem d_EN_behind_34 : decode b_EN_writeBehindPoint 34 = .ok (.isub, 1) := by decide +kernel
theorem d_EN_behind_35 : decode b_EN_writeBehindPoint 35 = .ok (.invokevirtual 115, 3) := by decide +kernel
theorem d_EN_behind_38 : decode b_EN_writeBehindPoint 38 = .ok (.invokevirtual 119, 3) := by decide +kernel
theorem d_EN_behind_41 : decode b_EN_writeBehindPoint 41 = .ok (.iinc 4 (1), 3) := by decide +kernel
theorem d_EN_behind_44 : decode b_EN_writeBehindPoint 44 = .ok (.goto (-24), 3) := by decide +kernel
theorem d_EN_behind_47 : decode b_EN_writeBehindPoint 47 = .ok (.return_, 1) := by decide +kernel
set_option maxHeartbeats 4000000 in
set_option maxRecDepth 100000 in
theorem c_EN_behind (l : Launch) (D : va_G) (cI cB : ClassId) (x d la t ba tt : Nat) (ad : Nat → Nat) (V : Int) (tx : List Int) (fp : Int) (cn : Nat) (pt : Int) (hfp : -2000 ≤ fp ∧ fp ≤ 2000) (hcn : cn ≤ 2000) (hpt : pt = 0 ∨ pt = 1) (hlen : tx.length + cn + 1 ≤ 1612) : Ct l y_EN_writeBehindPoint (ws_EN_writeBehindPoint) 3 (AX x d la t ba) [.ref x, .int (iz fp), .int (iz (cn : Int)), .int (iz pt)] (XW D cI cB x d la t ba tt ad V tx) (zR none (XW D cI cB x d la t ba tt ad V (tx ++ behL V fp cn pt))) := by
  refine z_body zSt_XW (by decide +kernel) rfl (Nat.le_of_ble_eq_true rfl) ?_
  intro p e s m args below meth c ls hx hb hml hr hlk hts0 hown hpre0 H locs hpre hS hl
  have hts : ∀ w ∈ TBL, w.before args s = true := fun w hw => hts0 w (List.mem_cons_of_mem _ hw)
  have hl : lv_has ls 5 [(0, .ref x), (1, .int (iz fp)), (2, .int (iz (cn : Int))), (3, .int (iz pt))] := hl
  have hw := hpre
  have hst0 := hpre0.st
  have L20 : ∀ (N20 : Nat) (tx0 : List Int) (i : Nat) (k : Int) (H : Heap) (locs : List Loc) (ls : Array Slot), XW D cI cB x d la t ba tt ad V (tx0 ++ dl V fp i) s H → va_S (AX x d la t ba) s.heap H locs → lv_has ls 5 [(0, .ref x), (1, .int (iz fp)), (2, .int (iz (cn : Int))), (4, .int (iz k))] → (k = (i : Int) ∧ i ≤ cn) → (tx0 = tx ++ dotL cn pt) → cn - i < N20 → W p l e (zrm 3) s m args below meth c H locs 0 0 (MQ below (zQ (AX x d la t ba) (zR none (XW D cI cB x d la t ba tt ad V (tx ++ behL V fp cn pt)))) args s 0 0 (AX x d la t ba)) (F0 m 20 ls []) := by
    intro N20
    induction N20 with
    | zero => intro tx0 i k H locs ls hw hS hl hk htx0 hN20; exact absurd hN20 (Nat.not_lt_zero _)
    | succ N20 ih20 =>
      intro tx0 i k H locs ls hw hS hl hk htx0 hN20
      have hl1 := dl_len V fp i
      have hl2 := dotL_len cn pt
      have hl3 : tx0.length = tx.length + (dotL cn pt).length := by rw [htx0, List.length_append]
      refine lv_iload hx hb d_EN_behind_20 (lv_at hl 3 rfl) ?_
      refine lv_iload_n hx hb d_EN_behind_22 rfl (lv_at hl 2 rfl) ?_
      refine z_icmp_ge (tgt := 47) hx hb d_EN_behind_23 rfl ⟨by omega, by omega⟩ ⟨by omega, by omega⟩ (fun hc23 => ?_) (fun hc23 => ?_)
      · exact z_vret hx hb hr hlk hS (zR_st zSt_XW) ⟨rfl, by
            have e8 : i = cn := by omega
            rw [e8, htx0, List.append_assoc] at hw
            exact hw⟩ d_EN_behind_47
      · refine lv_aload_n hx hb d_EN_behind_26 rfl (lv_at hl 0 rfl) ?_
        refine lv_aload_n hx hb d_EN_behind_27 rfl (lv_at hl 0 rfl) ?_
        have hw9 := hw
        obtain ⟨lt, f, fi, g, n, ⟨hK, hP, hD⟩, hdec, htx, -⟩ := hw9
        have hdr := hdec.1
        have htn := htx.1
        have htl := htx.2.1
        have hP : va_P D vwCl [(x, .inr (0, [.ref d, .ref t])), (d, .inr (1, [.ref la, .int (iz fi), .int (iz lt)])), (la, .inl (cI, 155, .inl (az f))), (t, .inr (2, [.ref ba, .int (iz n)])), (ba, .inl (cB, 1612, .inl (az g)))] H := hP
        have hD : va_D (AX x d la t ba) [(x, .inr (0, [.ref d, .ref t])), (d, .inr (1, [.ref la, .int (iz fi), .int (iz lt)])), (la, .inl (cI, 155, .inl (az f))), (t, .inr (2, [.ref ba, .int (iz n)])), (ba, .inl (cB, 1612, .inl (az g)))] := hD
        refine va_get (D := D) (ci := 0) (v := .ref d) (C := R_0) (T := T_0) (N := 2) hx hb hts in_0 hown hK hP 0 rfl rfl 0 (by decide) (hts _ tw_58) (fun _ h9 => h9) rfl d_EN_behind_28 ?_
        refine lv_iload_n hx hb d_EN_behind_31 rfl (lv_at hl 1 rfl) ?_
        refine lv_iload hx hb d_EN_behind_32 (lv_at hl 3 rfl) ?_
        refine z_isub hx hb d_EN_behind_34 ?_
        have hct := c_Dc_digitAt l D cI cB x d la t ba tt ad V (tx0 ++ dl V fp i) (fp - k) ⟨by omega, by omega⟩
        refine z_go (va_runV (As := [.int (iz (fp - k))]) (rest := [.ref x]) ⟨hx, hb, hml, hown, hts⟩ hct.2 (z_cwV hts w_Dc_digitAt tw_306 (by decide)) (z_preV hct.1 (va_recv hK hP (ci := 1) (q0 := 1) rfl rfl) hw) rfl rfl hl.1 rfl (lv_room (Nat.le_of_ble_eq_true rfl)) d_EN_behind_35 ⟨Nat.zero_le _, Nat.zero_le _⟩) hS (fun _ h9 => h9) (fun v9 t9 H locs hv9 hp9 hz9 hk9 hS => ?_)
        obtain ⟨rfl, hw⟩ := hp9
        have hw := XW.moved hv9.symm hw
        refine W.eq (g2 := F0 m 38 ls [.int (iz (dgt V (fp - k))), .ref x]) rfl ?_
        have hct := c_EN_digit l D cI cB x d la t ba tt ad V (tx0 ++ dl V fp i) (dgt V (fp - k)) (dgt_r _ _) (by (try simp only [List.length_append, List.length_cons, List.length_nil]); omega)
        have hw9 := hw
        obtain ⟨lt, f, fi, g, n, ⟨hK, hP, hD⟩, hdec, htx, -⟩ := hw9
        have hdr := hdec.1
        have htn := htx.1
        have htl := htx.2.1
        have hP : va_P D vwCl [(x, .inr (0, [.ref d, .ref t])), (d, .inr (1, [.ref la, .int (iz fi), .int (iz lt)])), (la, .inl (cI, 155, .inl (az f))), (t, .inr (2, [.ref ba, .int (iz n)])), (ba, .inl (cB, 1612, .inl (az g)))] H := hP
        have hD : va_D (AX x d la t ba) [(x, .inr (0, [.ref d, .ref t])), (d, .inr (1, [.ref la, .int (iz fi), .int (iz lt)])), (la, .inl (cI, 155, .inl (az f))), (t, .inr (2, [.ref ba, .int (iz n)])), (ba, .inl (cB, 1612, .inl (az g)))] := hD
        refine z_go (va_runV (As := [.int (iz (dgt V (fp - k)))]) (rest := []) ⟨hx, hb, hml, hown, hts⟩ hct.2 (z_cwV hts w_EN_writeDigit tw_307 (by decide)) (z_preV hct.1 (va_recv hK hP (ci := 0) (q0 := 0) rfl rfl) hw) rfl rfl hl.1 rfl (lv_room (Nat.le_of_ble_eq_true rfl)) d_EN_behind_38 ⟨Nat.zero_le _, Nat.zero_le _⟩) hS (fun _ h9 => h9) (fun v9 t9 H locs hv9 hp9 hz9 hk9 hS => ?_)
        obtain ⟨rfl, hw⟩ := hp9
        have hw := XW.moved hv9.symm hw
        refine W.eq (g2 := F0 m 41 ls []) rfl ?_
        refine lv_iinc (k := 3) (v := (iz (k + 1))) hx hb d_EN_behind_41 hl rfl (by show iz _ + iz (1) = _; rw [← iz_add]; try rfl) (by decide) rfl (fun ls hl => ?_)
        have hl : lv_has ls 5 [(4, .int (iz (k + 1))), (0, .ref x), (1, .int (iz fp)), (2, .int (iz (cn : Int)))] := hl
        refine lv_goto (tgt := 20) hx hb d_EN_behind_44 rfl ?_
        have hw : XW D cI cB x d la t ba tt ad V (tx0 ++ dl V fp (i + 1)) s H := by
          show XW _ _ _ _ _ _ _ _ _ _ _ (_ ++ (_ ++ _)) _ _
          rw [← List.append_assoc, ← hk.1]
          exact hw
        exact ih20 tx0 (i + 1) (k + 1) _ _ _ hw hS (lv_sub hl [1, 2, 3, 0] rfl) ⟨by omega, by omega⟩ htx0 (by omega)
  refine lv_iload_n hx hb d_EN_behind_0 rfl (lv_at hl 2 rfl) ?_
  refine z_if_gt (tgt := 8) hx hb d_EN_behind_1 rfl ⟨by omega, by omega⟩ (fun hc1 => ?_) (fun hc1 => ?_)
  · refine lv_aload_n hx hb d_EN_behind_8 rfl (lv_at hl 0 rfl) ?_
    have hw9 := hw
    obtain ⟨lt, f, fi, g, n, ⟨hK, hP, hD⟩, hdec, htx, -⟩ := hw9
    have hdr := hdec.1
    have htn := htx.1
    have htl := htx.2.1
    have hP : va_P D vwCl [(x, .inr (0, [.ref d, .ref t])), (d, .inr (1, [.ref la, .int (iz fi), .int (iz lt)])), (la, .inl (cI, 155, .inl (az f))), (t, .inr (2, [.ref ba, .int (iz n)])), (ba, .inl (cB, 1612, .inl (az g)))] H := hP
    have hD : va_D (AX x d la t ba) [(x, .inr (0, [.ref d, .ref t])), (d, .inr (1, [.ref la, .int (iz fi), .int (iz lt)])), (la, .inl (cI, 155, .inl (az f))), (t, .inr (2, [.ref ba, .int (iz n)])), (ba, .inl (cB, 1612, .inl (az g)))] := hD
    refine va_get (D := D) (ci := 0) (v := .ref t) (C := R_0) (T := T_0) (N := 2) hx hb hts in_0 hown hK hP 0 rfl rfl 1 (by decide) (hts _ tw_59) (fun _ h9 => h9) rfl d_EN_behind_9 ?_
    refine lv_bipush (v := iz 46) hx hb d_EN_behind_12 (by decide) ?_
    have hct := c_Tx_add l D cI cB x d la t ba tt ad V (tx) (46) ⟨by omega, by omega⟩ (by (try simp only [List.length_append, List.length_cons, List.length_nil]); omega)
    refine z_go (va_runV (As := [.int (iz 46)]) (rest := []) ⟨hx, hb, hml, hown, hts⟩ hct.2 (z_cwV hts w_Tx_add tw_311 (by decide)) (z_preV hct.1 (va_recv hK hP (ci := 2) (q0 := 3) rfl rfl) hw) rfl rfl hl.1 rfl (lv_room (Nat.le_of_ble_eq_true rfl)) d_EN_behind_14 ⟨Nat.zero_le _, Nat.zero_le _⟩) hS (fun _ h9 => h9) (fun v9 t9 H locs hv9 hp9 hz9 hk9 hS => ?_)
    obtain ⟨rfl, hw⟩ := hp9
    have hw := XW.moved hv9.symm hw
    refine W.eq (g2 := F0 m 17 ls []) rfl ?_
    refine lv_iconst (v := iz 0) hx hb d_EN_behind_17 rfl ?_
    refine lv_istore hx hb d_EN_behind_18 hl (by decide) rfl (fun ls hl => ?_)
    have hl : lv_has ls 5 [(4, .int (iz 0)), (0, .ref x), (1, .int (iz fp)), (2, .int (iz (cn : Int))), (3, .int (iz pt))] := hl
    have hw : XW D cI cB x d la t ba tt ad V ((tx ++ [46]) ++ dl V fp 0) s H := by
      show XW _ _ _ _ _ _ _ _ _ _ _ (_ ++ []) _ _
      rw [List.append_nil]
      exact hw
    exact L20 _ (tx ++ [46]) 0 0 _ _ _ hw hS (lv_sub hl [1, 2, 3, 0] rfl) ⟨rfl, Nat.zero_le _⟩ (by unfold dotL; first | rw [if_pos (by omega)] | (rw [if_neg (by omega), List.append_nil])) (Nat.lt_succ_self _)
  · refine lv_iload_n hx hb d_EN_behind_4 rfl (lv_at hl 3 rfl) ?_
    refine z_if_eq (tgt := 17) hx hb d_EN_behind_5 rfl ⟨by omega, by omega⟩ (fun hc5 => ?_) (fun hc5 => ?_)
    · refine lv_iconst (v := iz 0) hx hb d_EN_behind_17 rfl ?_
      refine lv_istore hx hb d_EN_behind_18 hl (by decide) rfl (fun ls hl => ?_)
      have hl : lv_has ls 5 [(4, .int (iz 0)), (0, .ref x), (1, .int (iz fp)), (2, .int (iz (cn : Int))), (3, .int (iz pt))] := hl
      have hw : XW D cI cB x d la t ba tt ad V (tx ++ dl V fp 0) s H := by
        show XW _ _ _ _ _ _ _ _ _ _ _ (_ ++ []) _ _
        rw [List.append_nil]
        exact hw
      exact L20 _ tx 0 0 _ _ _ hw hS (lv_sub hl [1, 2, 3, 0] rfl) ⟨rfl, Nat.zero_le _⟩ (by unfold dotL; first | rw [if_pos (by omega)] | (rw [if_neg (by omega), List.append_nil])) (Nat.lt_succ_self _)
    · refine lv_aload_n hx hb d_EN_behind_8 rfl (lv_at hl 0 rfl) ?_
      have hw9 := hw
      obtain ⟨lt, f, fi, g, n, ⟨hK, hP, hD⟩, hdec, htx, -⟩ := hw9
      have hdr := hdec.1
      have htn := htx.1
      have htl := htx.2.1
      have hP : va_P D vwCl [(x, .inr (0, [.ref d, .ref t])), (d, .inr (1, [.ref la, .int (iz fi), .int (iz lt)])), (la, .inl (cI, 155, .inl (az f))), (t, .inr (2, [.ref ba, .int (iz n)])), (ba, .inl (cB, 1612, .inl (az g)))] H := hP
      have hD : va_D (AX x d la t ba) [(x, .inr (0, [.ref d, .ref t])), (d, .inr (1, [.ref la, .int (iz fi), .int (iz lt)])), (la, .inl (cI, 155, .inl (az f))), (t, .inr (2, [.ref ba, .int (iz n)])), (ba, .inl (cB, 1612, .inl (az g)))] := hD
      refine va_get (D := D) (ci := 0) (v := .ref t) (C := R_0) (T := T_0) (N := 2) hx hb hts in_0 hown hK hP 0 rfl rfl 1 (by decide) (hts _ tw_59) (fun _ h9 => h9) rfl d_EN_behind_9 ?_
      refine lv_bipush (v := iz 46) hx hb d_EN_behind_12 (by decide) ?_
      have hct := c_Tx_add l D cI cB x d la t ba tt ad V (tx) (46) ⟨by omega, by omega⟩ (by (try simp only [List.length_append, List.length_cons, List.length_nil]); omega)
      refine z_go (va_runV (As := [.int (iz 46)]) (rest := []) ⟨hx, hb, hml, hown, hts⟩ hct.2 (z_cwV hts w_Tx_add tw_311 (by decide)) (z_preV hct.1 (va_recv hK hP (ci := 2) (q0 := 3) rfl rfl) hw) rfl rfl hl.1 rfl (lv_room (Nat.le_of_ble_eq_true rfl)) d_EN_behind_14 ⟨Nat.zero_le _, Nat.zero_le _⟩) hS (fun _ h9 => h9) (fun v9 t9 H locs hv9 hp9 hz9 hk9 hS => ?_)
      obtain ⟨rfl, hw⟩ := hp9
      have hw := XW.moved hv9.symm hw
      refine W.eq (g2 := F0 m 17 ls []) rfl ?_
      refine lv_iconst (v := iz 0) hx hb d_EN_behind_17 rfl ?_
      refine lv_istore hx hb d_EN_behind_18 hl (by decide) rfl (fun ls hl => ?_)
      have hl : lv_has ls 5 [(4, .int (iz 0)), (0, .ref x), (1, .int (iz fp)), (2, .int (iz (cn : Int))), (3, .int (iz pt))] := hl
      have hw : XW D cI cB x d la t ba tt ad V ((tx ++ [46]) ++ dl V fp 0) s H := by
        show XW _ _ _ _ _ _ _ _ _ _ _ (_ ++ []) _ _
        rw [List.append_nil]
        exact hw
      exact L20 _ (tx ++ [46]) 0 0 _ _ _ hw hS (lv_sub hl [1, 2, 3, 0] rfl) ⟨rfl, Nat.zero_le _⟩ (by unfold dotL; first | rw [if_pos (by omega)] | (rw [if_neg (by omega), List.append_nil])) (Nat.lt_succ_self _)
end
section
theorem d_EN_sci_0 : decode b_EN_writeScientific 0 = .ok (.aload_n 0, 1) := by decide +kernel
theorem d_EN_sci_1 : decode b_EN_writeScientific 1 = .ok (.getfield 10, 3) := by decide +kernel
theorem d_EN_sci_4 : decode b_EN_writeScientific 4 = .ok (.invokevirtual 91, 3) := by decide +kernel
theorem d_EN_sci_7 : decode b_EN_writeScientific 7 = .ok (.istore_n 3, 1) := by decide +kernel
theorem d_EN_sci_8 : decode b_EN_writeScientific 8 = .ok (.aload_n 0, 1) := by decide +kernel
theorem d_EN_sci_9 : decode b_EN_writeScientific 9 = .ok (.aload_n 0, 1) := by decide +kernel
theorem d_EN_sci_10 : decode b_EN_writeScientific 10 = .ok (.getfield 10, 3) := by decide +kernel
theorem d_EN_sci_13 : decode b_EN_writeScientific 13 = .ok (.iload_n 3, 1) := by decide +kernel
theorem d_EN_sci_14 : decode b_EN_writeScientific 14 = .ok (.invokevirtual 115, 3) := by decide +kernel
theorem d_EN_sci_17 : decode b_EN_writeScientific 17 = .ok (.invokevirtual 119, 3) := by decide +kernel
theorem d_EN_sci_20 : decode b_EN_writeScientific 20 = .ok (.aload_n 0, 1) := by decide +kernel
theorem d_EN_sci_21 : decode b_EN_writeScientific 21 = .ok (.iload_n 3, 1) := by decide +kernel
theorem d_EN_sci_22 : decode b_EN_writeScientific 22 = .ok (.iconst 1, 1) := by decide +kernel
theorem d_EN_sci_23 : decode b_EN_writeScientific 23 = .ok (.isub, 1) := by decide +kernel
theorem d_EN_sci_24 : decode b_EN_writeScientific 24 = .ok (.iload_n 1, 1) := by decide +kernel
theorem d_EN_sci_25 : decode b_EN_writeScientific 25 = .ok (.iload_n 2, 1) := by decide +kernel
theorem d_EN_sci_26 : decode b_EN_writeScientific 26 = .ok (.invokevirtual 126, 3) := by decide +kernel
theorem d_EN_sci_29 : decode b_EN_writeScientific 29 = .ok (.aload_n 0, 1) := by decide +kernel
theorem d_EN_sci_30 : decode b_EN_writeScientific 30 = .ok (.iload_n 3, 1) := by decide +kernel
theorem d_EN_sci_31 : decode b_EN_writeScientific 31 = .ok (.invokevirtual 130, 3) := by decide +kernel
theorem d_EN_sci_34 : decode b_EN_writeScientific 34 = .ok (.return_, 1) := by decide +kernel
set_option maxHeartbeats 4000000 in
set_option maxRecDepth 100000 in
theorem c_EN_sci (l : Launch) (D : va_G) (cI cB : ClassId) (x d la t ba tt : Nat) (ad : Nat → Nat) (V : Int) (tx : List Int) (r : Int) (cn : Nat) (pt : Int) (hlead : IsLead V r) (hr0 : -999 ≤ r ∧ r ≤ 999) (hcn : cn ≤ 2000) (hpt : pt = 0 ∨ pt = 1) (hlen : tx.length + cn + 7 ≤ 1612) : Ct l y_EN_writeScientific (ws_EN_writeScientific) 4 (AX x d la t ba) [.ref x, .int (iz (cn : Int)), .int (iz pt)] (XW D cI cB x d la t ba tt ad V tx) (zR none (XW D cI cB x d la t ba tt ad V (tx ++ sciL V r cn pt))) := by
  refine z_body zSt_XW (by decide +kernel) rfl (Nat.le_of_ble_eq_true rfl) ?_
  intro p e s m args below meth c ls hx hb hml hr hlk hts0 hown hpre0 H locs hpre hS hl
  have hts : ∀ w ∈ TBL, w.before args s = true := fun w hw => hts0 w (List.mem_cons_of_mem _ hw)
  have hl : lv_has ls 4 [(0, .ref x), (1, .int (iz (cn : Int))), (2, .int (iz pt))] := hl
  have hw := hpre
  have hst0 := hpre0.st
  refine lv_aload_n hx hb d_EN_sci_0 rfl (lv_at hl 0 rfl) ?_
  have hw9 := hw
  obtain ⟨lt, f, fi, g, n, ⟨hK, hP, hD⟩, hdec, htx, -⟩ := hw9
  have hdr := hdec.1
  have htn := htx.1
  have htl := htx.2.1
  have hP : va_P D vwCl [(x, .inr (0, [.ref d, .ref t])), (d, .inr (1, [.ref la, .int (iz fi), .int (iz lt)])), (la, .inl (cI, 155, .inl (az f))), (t, .inr (2, [.ref ba, .int (iz n)])), (ba, .inl (cB, 1612, .inl (az g)))] H := hP
  have hD : va_D (AX x d la t ba) [(x, .inr (0, [.ref d, .ref t])), (d, .inr (1, [.ref la, .int (iz fi), .int (iz lt)])), (la, .inl (cI, 155, .inl (az f))), (t, .inr (2, [.ref ba, .int (iz n)])), (ba, .inl (cB, 1612, .inl (az g)))] := hD
  refine va_get (D := D) (ci := 0) (v := .ref d) (C := R_0) (T := T_0) (N := 2) hx hb hts in_0 hown hK hP 0 rfl rfl 0 (by decide) (hts _ tw_58) (fun _ h9 => h9) rfl d_EN_sci_1 ?_
  have hct := c_Dc_lead l D cI cB x d la t ba tt ad V tx r hlead
  refine z_go (va_runV (As := []) (rest := []) ⟨hx, hb, hml, hown, hts⟩ hct.2 (z_cwV hts w_Dc_leadingPlace tw_271 (by decide)) (z_preV hct.1 (va_recv hK hP (ci := 1) (q0 := 1) rfl rfl) hw) rfl rfl hl.1 rfl (lv_room (Nat.le_of_ble_eq_true rfl)) d_EN_sci_4 ⟨Nat.zero_le _, Nat.zero_le _⟩) hS (fun _ h9 => h9) (fun v9 t9 H locs hv9 hp9 hz9 hk9 hS => ?_)
  obtain ⟨rfl, hw⟩ := hp9
  have hw := XW.moved hv9.symm hw
  refine W.eq (g2 := F0 m 7 ls [.int (iz r)]) rfl ?_
  refine lv_istore_n hx hb d_EN_sci_7 rfl hl (by decide) rfl (fun ls hl => ?_)
  have hl : lv_has ls 4 [(3, .int (iz r)), (0, .ref x), (1, .int (iz (cn : Int))), (2, .int (iz pt))] := hl
  refine lv_aload_n hx hb d_EN_sci_8 rfl (lv_at hl 1 rfl) ?_
  refine lv_aload_n hx hb d_EN_sci_9 rfl (lv_at hl 1 rfl) ?_
  have hw9 := hw
  obtain ⟨lt, f, fi, g, n, ⟨hK, hP, hD⟩, hdec, htx, -⟩ := hw9
  have hdr := hdec.1
  have htn := htx.1
  have htl := htx.2.1
  have hP : va_P D vwCl [(x, .inr (0, [.ref d, .ref t])), (d, .inr (1, [.ref la, .int (iz fi), .int (iz lt)])), (la, .inl (cI, 155, .inl (az f))), (t, .inr (2, [.ref ba, .int (iz n)])), (ba, .inl (cB, 1612, .inl (az g)))] H := hP
  have hD : va_D (AX x d la t ba) [(x, .inr (0, [.ref d, .ref t])), (d, .inr (1, [.ref la, .int (iz fi), .int (iz lt)])), (la, .inl (cI, 155, .inl (az f))), (t, .inr (2, [.ref ba, .int (iz n)])), (ba, .inl (cB, 1612, .inl (az g)))] := hD
  refine va_get (D := D) (ci := 0) (v := .ref d) (C := R_0) (T := T_0) (N := 2) hx hb hts in_0 hown hK hP 0 rfl rfl 0 (by decide) (hts _ tw_58) (fun _ h9 => h9) rfl d_EN_sci_10 ?_
  refine lv_iload_n hx hb d_EN_sci_13 rfl (lv_at hl 0 rfl) ?_
  have hct := c_Dc_digitAt l D cI cB x d la t ba tt ad V tx r ⟨by omega, by omega⟩
  refine z_go (va_runV (As := [.int (iz r)]) (rest := [.ref x]) ⟨hx, hb, hml, hown, hts⟩ hct.2 (z_cwV hts w_Dc_digitAt tw_306 (by decide)) (z_preV hct.1 (va_recv hK hP (ci := 1) (q0 := 1) rfl rfl) hw) rfl rfl hl.1 rfl (lv_room (Nat.le_of_ble_eq_true rfl)) d_EN_sci_14 ⟨Nat.zero_le _, Nat.zero_le _⟩) hS (fun _ h9 => h9) (fun v9 t9 H locs hv9 hp9 hz9 hk9 hS => ?_)
  obtain ⟨rfl, hw⟩ := hp9
  have hw := XW.moved hv9.symm hw
  refine W.eq (g2 := F0 m 17 ls [.int (iz (dgt V r)), .ref x]) rfl ?_
  have hct := c_EN_digit l D cI cB x d la t ba tt ad V (tx) (dgt V r) (dgt_r _ _) (by (try simp only [List.length_append, List.length_cons, List.length_nil]); omega)
  have hw9 := hw
  obtain ⟨lt, f, fi, g, n, ⟨hK, hP, hD⟩, hdec, htx, -⟩ := hw9
  have hdr := hdec.1
  have htn := htx.1
  have htl := htx.2.1
  have hP : va_P D vwCl [(x, .inr (0, [.ref d, .ref t])), (d, .inr (1, [.ref la, .int (iz fi), .int (iz lt)])), (la, .inl (cI, 155, .inl (az f))), (t, .inr (2, [.ref ba, .int (iz n)])), (ba, .inl (cB, 1612, .inl (az g)))] H := hP
  have hD : va_D (AX x d la t ba) [(x, .inr (0, [.ref d, .ref t])), (d, .inr (1, [.ref la, .int (iz fi), .int (iz lt)])), (la, .inl (cI, 155, .inl (az f))), (t, .inr (2, [.ref ba, .int (iz n)])), (ba, .inl (cB, 1612, .inl (az g)))] := hD
  refine z_go (va_runV (As := [.int (iz (dgt V r))]) (rest := []) ⟨hx, hb, hml, hown, hts⟩ hct.2 (z_cwV hts w_EN_writeDigit tw_307 (by decide)) (z_preV hct.1 (va_recv hK hP (ci := 0) (q0 := 0) rfl rfl) hw) rfl rfl hl.1 rfl (lv_room (Nat.le_of_ble_eq_true rfl)) d_EN_sci_17 ⟨Nat.zero_le _, Nat.zero_le _⟩) hS (fun _ h9 => h9) (fun v9 t9 H locs hv9 hp9 hz9 hk9 hS => ?_)
  obtain ⟨rfl, hw⟩ := hp9
  have hw := XW.moved hv9.symm hw
  refine W.eq (g2 := F0 m 20 ls []) rfl ?_
  refine lv_aload_n hx hb d_EN_sci_20 rfl (lv_at hl 1 rfl) ?_
  refine lv_iload_n hx hb d_EN_sci_21 rfl (lv_at hl 0 rfl) ?_
  refine lv_iconst (v := iz 1) hx hb d_EN_sci_22 rfl ?_
  refine z_isub hx hb d_EN_sci_23 ?_
  refine lv_iload_n hx hb d_EN_sci_24 rfl (lv_at hl 2 rfl) ?_
  refine lv_iload_n hx hb d_EN_sci_25 rfl (lv_at hl 3 rfl) ?_
  have hct := c_EN_behind l D cI cB x d la t ba tt ad V (tx ++ [48 + dgt V r]) (r - 1) cn pt ⟨by omega, by omega⟩ hcn hpt (by (try simp only [List.length_append, List.length_cons, List.length_nil]); omega)
  have hw9 := hw
  obtain ⟨lt, f, fi, g, n, ⟨hK, hP, hD⟩, hdec, htx, -⟩ := hw9
  have hdr := hdec.1
  have htn := htx.1
  have htl := htx.2.1
  have hP : va_P D vwCl [(x, .inr (0, [.ref d, .ref t])), (d, .inr (1, [.ref la, .int (iz fi), .int (iz lt)])), (la, .inl (cI, 155, .inl (az f))), (t, .inr (2, [.ref ba, .int (iz n)])), (ba, .inl (cB, 1612, .inl (az g)))] H := hP
  have hD : va_D (AX x d la t ba) [(x, .inr (0, [.ref d, .ref t])), (d, .inr (1, [.ref la, .int (iz fi), .int (iz lt)])), (la, .inl (cI, 155, .inl (az f))), (t, .inr (2, [.ref ba, .int (iz n)])), (ba, .inl (cB, 1612, .inl (az g)))] := hD
  refine z_go (va_runV (As := [.int (iz (r - 1)), .int (iz (cn : Int)), .int (iz pt)]) (rest := []) ⟨hx, hb, hml, hown, hts⟩ hct.2 (z_cwV hts w_EN_writeBehindPoint tw_312 (by decide)) (z_preV hct.1 (va_recv hK hP (ci := 0) (q0 := 0) rfl rfl) hw) rfl rfl hl.1 rfl (lv_room (Nat.le_of_ble_eq_true rfl)) d_EN_sci_26 ⟨Nat.zero_le _, Nat.zero_le _⟩) hS (fun _ h9 => h9) (fun v9 t9 H locs hv9 hp9 hz9 hk9 hS => ?_)
  obtain ⟨rfl, hw⟩ := hp9
  have hw := XW.moved hv9.symm hw
  refine W.eq (g2 := F0 m 29 ls []) rfl ?_
  refine lv_aload_n hx hb d_EN_sci_29 rfl (lv_at hl 1 rfl) ?_
  refine lv_iload_n hx hb d_EN_sci_30 rfl (lv_at hl 0 rfl) ?_
  have hct := c_EN_exp l D cI cB x d la t ba tt ad V ((tx ++ [48 + dgt V r]) ++ behL V (r - 1) cn pt) r ⟨by omega, by omega⟩ (by omega) (by have := behL_len V (r - 1) cn pt; (try simp only [List.length_append, List.length_cons, List.length_nil]); omega)
  have hw9 := hw
  obtain ⟨lt, f, fi, g, n, ⟨hK, hP, hD⟩, hdec, htx, -⟩ := hw9
  have hdr := hdec.1
  have htn := htx.1
  have htl := htx.2.1
  have hP : va_P D vwCl [(x, .inr (0, [.ref d, .ref t])), (d, .inr (1, [.ref la, .int (iz fi), .int (iz lt)])), (la, .inl (cI, 155, .inl (az f))), (t, .inr (2, [.ref ba, .int (iz n)])), (ba, .inl (cB, 1612, .inl (az g)))] H := hP
  have hD : va_D (AX x d la t ba) [(x, .inr (0, [.ref d, .ref t])), (d, .inr (1, [.ref la, .int (iz fi), .int (iz lt)])), (la, .inl (cI, 155, .inl (az f))), (t, .inr (2, [.ref ba, .int (iz n)])), (ba, .inl (cB, 1612, .inl (az g)))] := hD
  refine z_go (va_runV (As := [.int (iz r)]) (rest := []) ⟨hx, hb, hml, hown, hts⟩ hct.2 (z_cwV hts w_EN_writeExponent tw_316 (by decide)) (z_preV hct.1 (va_recv hK hP (ci := 0) (q0 := 0) rfl rfl) hw) rfl rfl hl.1 rfl (lv_room (Nat.le_of_ble_eq_true rfl)) d_EN_sci_31 ⟨Nat.zero_le _, Nat.zero_le _⟩) hS (fun _ h9 => h9) (fun v9 t9 H locs hv9 hp9 hz9 hk9 hS => ?_)
  obtain ⟨rfl, hw⟩ := hp9
  have hw := XW.moved hv9.symm hw
  refine W.eq (g2 := F0 m 34 ls []) rfl ?_
  exact z_vret hx hb hr hlk hS (zR_st zSt_XW) ⟨rfl, by
      unfold sciL
      simpa [List.append_assoc] using hw⟩ d_EN_sci_34
theorem d_EN_fix_0 : decode b_EN_writeFixed 0 = .ok (.aload_n 0, 1) := by decide +kernel
theorem d_EN_fix_1 : decode b_EN_writeFixed 1 = .ok (.getfield 10, 3) := by decide +kernel
theorem d_EN_fix_4 : decode b_EN_writeFixed 4 = .ok (.invokevirtual 91, 3) := by decide +kernel
theorem d_EN_fix_7 : decode b_EN_writeFixed 7 = .ok (.iconst 0, 1) := by decide +kernel
theorem d_EN_fix_8 : decode b_EN_writeFixed 8 = .ok (.invokestatic 106, 3) := by decide +kernel
theorem d_EN_fix_11 : decode b_EN_writeFixed 11 = .ok (.istore 4, 2) := by decide +kernel
theorem d_EN_fix_13 : decode b_EN_writeFixed 13 = .ok (.iload 4, 2) := by decide +kernel
theorem d_EN_fix_15 : decode b_EN_writeFixed 15 = .ok (.ifCond .lt (47), 3) := by decide +kernel
theorem d_EN_fix_18 : decode b_EN_writeFixed 18 = .ok (.aload_n 0, 1) := by decide +kernel
theorem d_EN_fix_19 : decode b_EN_writeFixed 19 = .ok (.aload_n 0, 1) := by decide +kernel
theorem d_EN_fix_20 : decode b_EN_writeFixed 20 = .ok (.getfield 10, 3) := by decide +kernel
theorem d_EN_fix_23 : decode b_EN_writeFixed 23 = .ok (.iload 4, 2) := by decide +kernel
theorem d_EN_fix_25 : decode b_EN_writeFixed 25 = .ok (.invokevirtual 115, 3) := by decide +kernel
theorem d_EN_fix_28 : decode b_EN_writeFixed 28 = .ok (.invokevirtual 119, 3) := by decide +kernel
theorem d_EN_fix_31 : decode b_EN_writeFixed 31 = .ok (.iload_n 2, 1) := by decide +kernel
theorem d_EN_fix_32 : decode b_EN_writeFixed 32 = .ok (.ifCond .eq (24), 3) := by decide +kernel
theorem d_EN_fix_35 : decode b_EN_writeFixed 35 = .ok (.iload 4, 2) := by decide +kernel
theorem d_EN_fix_37 : decode b_EN_writeFixed 37 = .ok (.ifCond .le (19), 3) := by decide +kernel
theorem d_EN_fix_40 : decode b_EN_writeFixed 40 = .ok (.iload 4, 2) := by decide +kernel
theorem d_EN_fix_42 : decode b_EN_writeFixed 42 = .ok (.iconst 3, 1) := by decide +kernel
theorem d_EN_fix_43 : decode b_EN_writeFixed 43 = .ok (.irem, 1) := by decide +kernel
theorem d_EN_fix_44 : decode b_EN_writeFixed 44 = .ok (.ifCond .ne (12), 3) := by decide +kernel
theorem d_EN_fix_47 : decode b_EN_writeFixed 47 = .ok (.aload_n 0, 1) := by decide +kernel
theorem d_EN_fix_48 : decode b_EN_writeFixed 48 = .ok (.getfield 19, 3) := by decide +kernel
theorem d_EN_fix_51 : decode b_EN_writeFixed 51 = .ok (.bipush (44), 2) := by decide +kernel
theorem d_EN_fix_53 : decode b_EN_writeFixed 53 = .ok (.invokevirtual 122, 3) := by decide +kernel
theorem d_EN_fix_56 : decode b_EN_writeFixed 56 = .ok (.iinc 4 (-1), 3) := by decide +kernel
theorem d_EN_fix_59 : decode b_EN_writeFixed 59 = .ok (.goto (-46), 3) := by decide +kernel
theorem d_EN_fix_62 : decode b_EN_writeFixed 62 = .ok (.aload_n 0, 1) := by decide +kernel
theorem d_EN_fix_63 : decode b_EN_writeFixed 63 = .ok (.iconst (-1), 1) := by decide +kernel
theorem d_EN_fix_64 : decode b_EN_writeFixed 64 = .ok (.iload_n 1, 1) := by decide +kernel
theorem d_EN_fix_65 : decode b_EN_writeFixed 65 = .ok (.iload_n 3, 1) := by decide +kernel
theorem d_EN_fix_66 : decode b_EN_writeFixed 66 = .ok (.invokevirtual 126, 3) := by decide +kernel
theorem d_EN_fix_69 : decode b_EN_writeFixed 69 = .ok (.return_, 1) := by decide +kernel
set_option maxHeartbeats 4000000 in
set_option maxRecDepth 100000 in
theorem c_EN_fix (l : Launch) (D : va_G) (cI cB : ClassId) (x d la t ba tt : Nat) (ad : Nat → Nat) (V : Int) (tx : List Int) (r : Int) (cn : Nat) (gr pt : Int) (hlead : IsLead V r) (hr0 : -1999 ≤ r ∧ r ≤ 999) (hcn : cn ≤ 2000) (hgr : gr = 0 ∨ gr = 1) (hpt : pt = 0 ∨ pt = 1) (hlen : tx.length + (ipR V gr (max r 0)).length + cn + 1 ≤ 1612) : Ct l y_EN_writeFixed (ws_EN_writeFixed) 4 (AX x d la t ba) [.ref x, .int (iz (cn : Int)), .int (iz gr), .int (iz pt)] (XW D cI cB x d la t ba tt ad V tx) (zR none (XW D cI cB x d la t ba tt ad V (tx ++ fixL V r cn gr pt))) := by
  refine z_body zSt_XW (by decide +kernel) rfl (Nat.le_of_ble_eq_true rfl) ?_
  intro p e s m args below meth c ls hx hb hml hr hlk hts0 hown hpre0 H locs hpre hS hl
  have hts : ∀ w ∈ TBL, w.before args s = true := fun w hw => hts0 w (List.mem_cons_of_mem _ hw)
  have hl : lv_has ls 5 [(0, .ref x), (1, .int (iz (cn : Int))), (2, .int (iz gr)), (3, .int (iz pt))] := hl
  have hw := hpre
  have hst0 := hpre0.st
  have L13 : ∀ (N13 : Nat) (tx0 : List Int) (k : Int) (H : Heap) (locs : List Loc) (ls : Array Slot), XW D cI cB x d la t ba tt ad V tx0 s H → va_S (AX x d la t ba) s.heap H locs → lv_has ls 5 [(0, .ref x), (1, .int (iz (cn : Int))), (2, .int (iz gr)), (3, .int (iz pt)), (4, .int (iz k))] → (-1 ≤ k ∧ k ≤ 999) → (tx0 ++ ipR V gr k = tx ++ ipR V gr (max r 0)) → (k + 1).toNat < N13 → W p l e (zrm 4) s m args below meth c H locs 0 0 (MQ below (zQ (AX x d la t ba) (zR none (XW D cI cB x d la t ba tt ad V (tx ++ fixL V r cn gr pt)))) args s 0 0 (AX x d la t ba)) (F0 m 13 ls []) := by
    intro N13
    induction N13 with
    | zero => intro tx0 k H locs ls hw hS hl hk htx0 hN13; exact absurd hN13 (Nat.not_lt_zero _)
    | succ N13 ih13 =>
      intro tx0 k H locs ls hw hS hl hk htx0 hN13
      refine lv_iload hx hb d_EN_fix_13 (lv_at hl 4 rfl) ?_
      refine z_if_lt (tgt := 62) hx hb d_EN_fix_15 rfl ⟨by omega, by omega⟩ (fun hc15 => ?_) (fun hc15 => ?_)
      · refine lv_aload_n hx hb d_EN_fix_62 rfl (lv_at hl 0 rfl) ?_
        refine lv_iconst (v := iz (-1)) hx hb d_EN_fix_63 rfl ?_
        refine lv_iload_n hx hb d_EN_fix_64 rfl (lv_at hl 1 rfl) ?_
        refine lv_iload_n hx hb d_EN_fix_65 rfl (lv_at hl 3 rfl) ?_
        have hct := c_EN_behind l D cI cB x d la t ba tt ad V tx0 (-1) cn pt ⟨by omega, by omega⟩ hcn hpt (by have h8 := congrArg List.length htx0; rw [ipR_neg V gr k (by omega), List.append_nil] at htx0; rw [htx0, List.length_append]; omega)
        have hw9 := hw
        obtain ⟨lt, f, fi, g, n, ⟨hK, hP, hD⟩, hdec, htx, -⟩ := hw9
        have hdr := hdec.1
        have htn := htx.1
        have htl := htx.2.1
        have hP : va_P D vwCl [(x, .inr (0, [.ref d, .ref t])), (d, .inr (1, [.ref la, .int (iz fi), .int (iz lt)])), (la, .inl (cI, 155, .inl (az f))), (t, .inr (2, [.ref ba, .int (iz n)])), (ba, .inl (cB, 1612, .inl (az g)))] H := hP
        have hD : va_D (AX x d la t ba) [(x, .inr (0, [.ref d, .ref t])), (d, .inr (1, [.ref la, .int (iz fi), .int (iz lt)])), (la, .inl (cI, 155, .inl (az f))), (t, .inr (2, [.ref ba, .int (iz n)])), (ba, .inl (cB, 1612, .inl (az g)))] := hD
        refine z_go (va_runV (As := [.int (iz (-1)), .int (iz (cn : Int)), .int (iz pt)]) (rest := []) ⟨hx, hb, hml, hown, hts⟩ hct.2 (z_cwV hts w_EN_writeBehindPoint tw_312 (by decide)) (z_preV hct.1 (va_recv hK hP (ci := 0) (q0 := 0) rfl rfl) hw) rfl rfl hl.1 rfl (lv_room (Nat.le_of_ble_eq_true rfl)) d_EN_fix_66 ⟨Nat.zero_le _, Nat.zero_le _⟩) hS (fun _ h9 => h9) (fun v9 t9 H locs hv9 hp9 hz9 hk9 hS => ?_)
        obtain ⟨rfl, hw⟩ := hp9
        have hw := XW.moved hv9.symm hw
        refine W.eq (g2 := F0 m 69 ls []) rfl ?_
        exact z_vret hx hb hr hlk hS (zR_st zSt_XW) ⟨rfl, by
            unfold fixL
            rw [ipR_neg V gr k (by omega), List.append_nil] at htx0
            rw [htx0, List.append_assoc] at hw
            exact hw⟩ d_EN_fix_69
      · have hl8 := congrArg List.length htx0
        rw [ipR_step V gr k (by omega)] at hl8
        simp only [List.length_append, List.length_cons, List.length_nil] at hl8
        refine lv_aload_n hx hb d_EN_fix_18 rfl (lv_at hl 0 rfl) ?_
        refine lv_aload_n hx hb d_EN_fix_19 rfl (lv_at hl 0 rfl) ?_
        have hw9 := hw
        obtain ⟨lt, f, fi, g, n, ⟨hK, hP, hD⟩, hdec, htx, -⟩ := hw9
        have hdr := hdec.1
        have htn := htx.1
        have htl := htx.2.1
        have hP : va_P D vwCl [(x, .inr (0, [.ref d, .ref t])), (d, .inr (1, [.ref la, .int (iz fi), .int (iz lt)])), (la, .inl (cI, 155, .inl (az f))), (t, .inr (2, [.ref ba, .int (iz n)])), (ba, .inl (cB, 1612, .inl (az g)))] H := hP
        have hD : va_D (AX x d la t ba) [(x, .inr (0, [.ref d, .ref t])), (d, .inr (1, [.ref la, .int (iz fi), .int (iz lt)])), (la, .inl (cI, 155, .inl (az f))), (t, .inr (2, [.ref ba, .int (iz n)])), (ba, .inl (cB, 1612, .inl (az g)))] := hD
        refine va_get (D := D) (ci := 0) (v := .ref d) (C := R_0) (T := T_0) (N := 2) hx hb hts in_0 hown hK hP 0 rfl rfl 0 (by decide) (hts _ tw_58) (fun _ h9 => h9) rfl d_EN_fix_20 ?_
        refine lv_iload hx hb d_EN_fix_23 (lv_at hl 4 rfl) ?_
        have hct := c_Dc_digitAt l D cI cB x d la t ba tt ad V tx0 k ⟨by omega, by omega⟩
        refine z_go (va_runV (As := [.int (iz k)]) (rest := [.ref x]) ⟨hx, hb, hml, hown, hts⟩ hct.2 (z_cwV hts w_Dc_digitAt tw_306 (by decide)) (z_preV hct.1 (va_recv hK hP (ci := 1) (q0 := 1) rfl rfl) hw) rfl rfl hl.1 rfl (lv_room (Nat.le_of_ble_eq_true rfl)) d_EN_fix_25 ⟨Nat.zero_le _, Nat.zero_le _⟩) hS (fun _ h9 => h9) (fun v9 t9 H locs hv9 hp9 hz9 hk9 hS => ?_)
        obtain ⟨rfl, hw⟩ := hp9
        have hw := XW.moved hv9.symm hw
        refine W.eq (g2 := F0 m 28 ls [.int (iz (dgt V k)), .ref x]) rfl ?_
        have hct := c_EN_digit l D cI cB x d la t ba tt ad V (tx0) (dgt V k) (dgt_r _ _) (by (try simp only [List.length_append, List.length_cons, List.length_nil]); omega)
        have hw9 := hw
        obtain ⟨lt, f, fi, g, n, ⟨hK, hP, hD⟩, hdec, htx, -⟩ := hw9
        have hdr := hdec.1
        have htn := htx.1
        have htl := htx.2.1
        have hP : va_P D vwCl [(x, .inr (0, [.ref d, .ref t])), (d, .inr (1, [.ref la, .int (iz fi), .int (iz lt)])), (la, .inl (cI, 155, .inl (az f))), (t, .inr (2, [.ref ba, .int (iz n)])), (ba, .inl (cB, 1612, .inl (az g)))] H := hP
        have hD : va_D (AX x d la t ba) [(x, .inr (0, [.ref d, .ref t])), (d, .inr (1, [.ref la, .int (iz fi), .int (iz lt)])), (la, .inl (cI, 155, .inl (az f))), (t, .inr (2, [.ref ba, .int (iz n)])), (ba, .inl (cB, 1612, .inl (az g)))] := hD
        refine z_go (va_runV (As := [.int (iz (dgt V k))]) (rest := []) ⟨hx, hb, hml, hown, hts⟩ hct.2 (z_cwV hts w_EN_writeDigit tw_307 (by decide)) (z_preV hct.1 (va_recv hK hP (ci := 0) (q0 := 0) rfl rfl) hw) rfl rfl hl.1 rfl (lv_room (Nat.le_of_ble_eq_true rfl)) d_EN_fix_28 ⟨Nat.zero_le _, Nat.zero_le _⟩) hS (fun _ h9 => h9) (fun v9 t9 H locs hv9 hp9 hz9 hk9 hS => ?_)
        obtain ⟨rfl, hw⟩ := hp9
        have hw := XW.moved hv9.symm hw
        refine W.eq (g2 := F0 m 31 ls []) rfl ?_
        refine lv_iload_n hx hb d_EN_fix_31 rfl (lv_at hl 2 rfl) ?_
        refine z_if_eq (tgt := 56) hx hb d_EN_fix_32 rfl ⟨by omega, by omega⟩ (fun hc32 => ?_) (fun hc32 => ?_)
        · refine lv_iinc (k := 4) (v := (iz (k - 1))) hx hb d_EN_fix_56 hl rfl (by show iz _ + iz (-1) = _; rw [← iz_add]; try rfl) (by decide) rfl (fun ls hl => ?_)
          have hl : lv_has ls 5 [(4, .int (iz (k - 1))), (0, .ref x), (1, .int (iz (cn : Int))), (2, .int (iz gr)), (3, .int (iz pt))] := hl
          refine lv_goto (tgt := 13) hx hb d_EN_fix_59 rfl ?_
          exact ih13 (tx0 ++ [48 + (dgt V k)]) (k - 1) _ _ _ hw hS (lv_sub hl [1, 2, 3, 4, 0] rfl) ⟨by omega, by omega⟩ (by
                rw [← htx0, ipR_step V gr k (by omega)]
                first
                  | rw [if_pos ⟨by omega, by omega, by omega⟩]
                  | rw [if_neg (by omega)]
                simp [List.append_assoc]) (by omega)
        · refine lv_iload hx hb d_EN_fix_35 (lv_at hl 4 rfl) ?_
          refine z_if_le (tgt := 56) hx hb d_EN_fix_37 rfl ⟨by omega, by omega⟩ (fun hc37 => ?_) (fun hc37 => ?_)
          · refine lv_iinc (k := 4) (v := (iz (k - 1))) hx hb d_EN_fix_56 hl rfl (by show iz _ + iz (-1) = _; rw [← iz_add]; try rfl) (by decide) rfl (fun ls hl => ?_)
            have hl : lv_has ls 5 [(4, .int (iz (k - 1))), (0, .ref x), (1, .int (iz (cn : Int))), (2, .int (iz gr)), (3, .int (iz pt))] := hl
            refine lv_goto (tgt := 13) hx hb d_EN_fix_59 rfl ?_
            exact ih13 (tx0 ++ [48 + (dgt V k)]) (k - 1) _ _ _ hw hS (lv_sub hl [1, 2, 3, 4, 0] rfl) ⟨by omega, by omega⟩ (by
                  rw [← htx0, ipR_step V gr k (by omega)]
                  first
                    | rw [if_pos ⟨by omega, by omega, by omega⟩]
                    | rw [if_neg (by omega)]
                  simp [List.append_assoc]) (by omega)
          · refine lv_iload hx hb d_EN_fix_40 (lv_at hl 4 rfl) ?_
            refine lv_iconst (v := iz 3) hx hb d_EN_fix_42 rfl ?_
            refine z_irem hx hb d_EN_fix_43 ⟨by omega, by omega⟩ ⟨by omega, by omega⟩ ?_
            refine z_if_ne (tgt := 56) hx hb d_EN_fix_44 rfl ⟨by omega, by omega⟩ (fun hc44 => ?_) (fun hc44 => ?_)
            · refine lv_iinc (k := 4) (v := (iz (k - 1))) hx hb d_EN_fix_56 hl rfl (by show iz _ + iz (-1) = _; rw [← iz_add]; try rfl) (by decide) rfl (fun ls hl => ?_)
              have hl : lv_has ls 5 [(4, .int (iz (k - 1))), (0, .ref x), (1, .int (iz (cn : Int))), (2, .int (iz gr)), (3, .int (iz pt))] := hl
              refine lv_goto (tgt := 13) hx hb d_EN_fix_59 rfl ?_
              exact ih13 (tx0 ++ [48 + (dgt V k)]) (k - 1) _ _ _ hw hS (lv_sub hl [1, 2, 3, 4, 0] rfl) ⟨by omega, by omega⟩ (by
                    rw [← htx0, ipR_step V gr k (by omega)]
                    first
                      | rw [if_pos ⟨by omega, by omega, by omega⟩]
                      | rw [if_neg (by omega)]
                    simp [List.append_assoc]) (by omega)
            · rw [if_pos ⟨by omega, by omega, by omega⟩] at hl8
              simp only [List.length_cons, List.length_nil] at hl8
              refine lv_aload_n hx hb d_EN_fix_47 rfl (lv_at hl 0 rfl) ?_
              have hw9 := hw
              obtain ⟨lt, f, fi, g, n, ⟨hK, hP, hD⟩, hdec, htx, -⟩ := hw9
              have hdr := hdec.1
              have htn := htx.1
              have htl := htx.2.1
              have hP : va_P D vwCl [(x, .inr (0, [.ref d, .ref t])), (d, .inr (1, [.ref la, .int (iz fi), .int (iz lt)])), (la, .inl (cI, 155, .inl (az f))), (t, .inr (2, [.ref ba, .int (iz n)])), (ba, .inl (cB, 1612, .inl (az g)))] H := hP
              have hD : va_D (AX x d la t ba) [(x, .inr (0, [.ref d, .ref t])), (d, .inr (1, [.ref la, .int (iz fi), .int (iz lt)])), (la, .inl (cI, 155, .inl (az f))), (t, .inr (2, [.ref ba, .int (iz n)])), (ba, .inl (cB, 1612, .inl (az g)))] := hD
              refine va_get (D := D) (ci := 0) (v := .ref t) (C := R_0) (T := T_0) (N := 2) hx hb hts in_0 hown hK hP 0 rfl rfl 1 (by decide) (hts _ tw_59) (fun _ h9 => h9) rfl d_EN_fix_48 ?_
              refine lv_bipush (v := iz 44) hx hb d_EN_fix_51 (by decide) ?_
              have hct := c_Tx_add l D cI cB x d la t ba tt ad V (tx0 ++ [48 + dgt V k]) (44) ⟨by omega, by omega⟩ (by (try simp only [List.length_append, List.length_cons, List.length_nil]); omega)
              refine z_go (va_runV (As := [.int (iz 44)]) (rest := []) ⟨hx, hb, hml, hown, hts⟩ hct.2 (z_cwV hts w_Tx_add tw_311 (by decide)) (z_preV hct.1 (va_recv hK hP (ci := 2) (q0 := 3) rfl rfl) hw) rfl rfl hl.1 rfl (lv_room (Nat.le_of_ble_eq_true rfl)) d_EN_fix_53 ⟨Nat.zero_le _, Nat.zero_le _⟩) hS (fun _ h9 => h9) (fun v9 t9 H locs hv9 hp9 hz9 hk9 hS => ?_)
              obtain ⟨rfl, hw⟩ := hp9
              have hw := XW.moved hv9.symm hw
              refine W.eq (g2 := F0 m 56 ls []) rfl ?_
              refine lv_iinc (k := 4) (v := (iz (k - 1))) hx hb d_EN_fix_56 hl rfl (by show iz _ + iz (-1) = _; rw [← iz_add]; try rfl) (by decide) rfl (fun ls hl => ?_)
              have hl : lv_has ls 5 [(4, .int (iz (k - 1))), (0, .ref x), (1, .int (iz (cn : Int))), (2, .int (iz gr)), (3, .int (iz pt))] := hl
              refine lv_goto (tgt := 13) hx hb d_EN_fix_59 rfl ?_
              exact ih13 (tx0 ++ [48 + dgt V k] ++ [44]) (k - 1) _ _ _ hw hS (lv_sub hl [1, 2, 3, 4, 0] rfl) ⟨by omega, by omega⟩ (by
                    rw [← htx0, ipR_step V gr k (by omega)]
                    first
                      | rw [if_pos ⟨by omega, by omega, by omega⟩]
                      | rw [if_neg (by omega)]
                    simp [List.append_assoc]) (by omega)
  refine lv_aload_n hx hb d_EN_fix_0 rfl (lv_at hl 0 rfl) ?_
  have hw9 := hw
  obtain ⟨lt, f, fi, g, n, ⟨hK, hP, hD⟩, hdec, htx, -⟩ := hw9
  have hdr := hdec.1
  have htn := htx.1
  have htl := htx.2.1
  have hP : va_P D vwCl [(x, .inr (0, [.ref d, .ref t])), (d, .inr (1, [.ref la, .int (iz fi), .int (iz lt)])), (la, .inl (cI, 155, .inl (az f))), (t, .inr (2, [.ref ba, .int (iz n)])), (ba, .inl (cB, 1612, .inl (az g)))] H := hP
  have hD : va_D (AX x d la t ba) [(x, .inr (0, [.ref d, .ref t])), (d, .inr (1, [.ref la, .int (iz fi), .int (iz lt)])), (la, .inl (cI, 155, .inl (az f))), (t, .inr (2, [.ref ba, .int (iz n)])), (ba, .inl (cB, 1612, .inl (az g)))] := hD
  refine va_get (D := D) (ci := 0) (v := .ref d) (C := R_0) (T := T_0) (N := 2) hx hb hts in_0 hown hK hP 0 rfl rfl 0 (by decide) (hts _ tw_58) (fun _ h9 => h9) rfl d_EN_fix_1 ?_
  have hct := c_Dc_lead l D cI cB x d la t ba tt ad V tx r hlead
  refine z_go (va_runV (As := []) (rest := []) ⟨hx, hb, hml, hown, hts⟩ hct.2 (z_cwV hts w_Dc_leadingPlace tw_271 (by decide)) (z_preV hct.1 (va_recv hK hP (ci := 1) (q0 := 1) rfl rfl) hw) rfl rfl hl.1 rfl (lv_room (Nat.le_of_ble_eq_true rfl)) d_EN_fix_4 ⟨Nat.zero_le _, Nat.zero_le _⟩) hS (fun _ h9 => h9) (fun v9 t9 H locs hv9 hp9 hz9 hk9 hS => ?_)
  obtain ⟨rfl, hw⟩ := hp9
  have hw := XW.moved hv9.symm hw
  refine W.eq (g2 := F0 m 7 ls [.int (iz r)]) rfl ?_
  refine lv_iconst (v := iz 0) hx hb d_EN_fix_7 rfl ?_
  refine z_mmax hx hb (hml.trans hl.1.symm) hown (hts _ tw_327) (hts _ tw_242) (hts _ tw_16) (hts _ twm_max) (Nat.le_of_ble_eq_true rfl) (Nat.le_of_ble_eq_true rfl) (Nat.zero_le _) (Nat.zero_le _) ⟨by omega, by omega⟩ ⟨by omega, by omega⟩ d_EN_fix_8 ?_
  refine lv_istore hx hb d_EN_fix_11 hl (by decide) rfl (fun ls hl => ?_)
  have hl : lv_has ls 5 [(4, .int (iz (max r 0))), (0, .ref x), (1, .int (iz (cn : Int))), (2, .int (iz gr)), (3, .int (iz pt))] := hl
  exact L13 _ tx (max r 0) _ _ _ hw hS (lv_sub hl [1, 2, 3, 4, 0] rfl) ⟨by omega, by omega⟩ rfl (Nat.lt_succ_self _)
end
section

def uN (x : Int64) : Nat := x.toUInt64.toNat
theorem uN_lt (x : Int64) : uN x < 18446744073709551616 := x.toUInt64.toNat_lt
theorem uN_inj {x y : Int64} (h : uN x = uN y) : x = y := congrArg UInt64.toInt64 (UInt64.toNat_inj.mp h)
theorem uN_add (x y : Int64) : uN (x + y) = (uN x + uN y) % 18446744073709551616 := by
  show (x.toUInt64 + y.toUInt64).toNat = _
  exact UInt64.toNat_add _ _
theorem uN_mul (x y : Int64) : uN (x * y) = (uN x * uN y) % 18446744073709551616 := by
  show (x.toUInt64 * y.toUInt64).toNat = _
  exact UInt64.toNat_mul _ _
theorem uN_shl (x : Int64) : uN (x <<< ((1 : Int32).toInt64 &&& 63)) = (2 * uN x) % 18446744073709551616 := by
  have h : (((1 : Int32).toInt64 &&& 63).toBitVec.smod 64).toNat = 1 := by decide
  show (x.toBitVec <<< (((1 : Int32).toInt64 &&& 63).toBitVec.smod 64).toNat).toNat = _
  rw [h, BitVec.toNat_shiftLeft, Nat.shiftLeft_eq, Nat.mul_comm]
  rfl
theorem uN_shr (x : Int64) (s : UInt64) : uN (x.toUInt64 >>> s).toInt64 = uN x / 2 ^ (s.toNat % 64) := by
  show (x.toUInt64 >>> s).toNat = _
  rw [UInt64.toNat_shiftRight, Nat.shiftRight_eq_div_pow]
  rfl
theorem uN_s32 (x : Int64) : uN (x.toUInt64 >>> ((32 : Int32).toInt64.toUInt64 &&& Int64.toUInt64 63)).toInt64 = uN x / 4294967296 := by
  have h : ((32 : Int32).toInt64.toUInt64 &&& Int64.toUInt64 63).toNat % 64 = 32 := by decide
  rw [uN_shr, h]
theorem uN_s63 (x : Int64) : uN (x.toUInt64 >>> ((63 : Int32).toInt64.toUInt64 &&& Int64.toUInt64 63)).toInt64 = uN x / 9223372036854775808 := by
  have h : ((63 : Int32).toInt64.toUInt64 &&& Int64.toUInt64 63).toNat % 64 = 63 := by decide
  rw [uN_shr, h]
theorem uN_lo (x : Int64) : uN (x &&& 4294967295) = uN x % 4294967296 := by
  show (x.toUInt64 &&& Int64.toUInt64 4294967295).toNat = _
  rw [UInt64.toNat_and]
  exact Nat.and_two_pow_sub_one_eq_mod _ 32
theorem uN_bit (x : Int64) : (x &&& 1) = 0 ↔ uN x % 2 = 0 := by
  have h : uN (x &&& 1) = uN x % 2 := by
    show (x.toUInt64 &&& Int64.toUInt64 1).toNat = _
    rw [UInt64.toNat_and]
    exact Nat.and_two_pow_sub_one_eq_mod _ 1
  rw [← h]
  exact ⟨fun z => by rw [z]; rfl, fun z => uN_inj (z.trans rfl)⟩
theorem uN_or {x y : Int64} (hy : uN y < 2) : uN ((x <<< ((1 : Int32).toInt64 &&& 63)) ||| y) = (2 * uN x) % 18446744073709551616 + uN y := by
  have h1 : uN ((x <<< ((1 : Int32).toInt64 &&& 63)) ||| y) = uN (x <<< ((1 : Int32).toInt64 &&& 63)) ||| uN y := UInt64.toNat_or _ _
  have h2 : (2 * uN x) % 18446744073709551616 = 2 ^ 1 * (uN x % 9223372036854775808) := by omega
  rw [h1, uN_shl, h2]
  exact (Nat.two_pow_add_eq_or_of_lt (i := 1) hy _).symm
theorem nat_xor {a : Nat} (h : a < 18446744073709551616) : a ^^^ 2 ^ 63 = (a + 9223372036854775808) % 18446744073709551616 := by
  have h1 : (a ^^^ 2 ^ 63) % 2 ^ 63 = a % 2 ^ 63 := by rw [Nat.xor_mod_two_pow, Nat.mod_self, Nat.xor_zero]
  have h2 : (a ^^^ 2 ^ 63) / 2 ^ 63 = (a / 2 ^ 63) ^^^ 1 := by rw [Nat.xor_div_two_pow, Nat.div_self (Nat.two_pow_pos 63)]
  have h3 : a / 2 ^ 63 = 0 ∨ a / 2 ^ 63 = 1 := by omega
  generalize a ^^^ 2 ^ 63 = t at h1 h2
  rcases h3 with h3 | h3
  · rw [h3] at h2
    have h2 : t / 2 ^ 63 = 1 := h2
    omega
  · rw [h3] at h2
    have h2 : t / 2 ^ 63 = 0 := h2
    omega
theorem uN_xor (x : Int64) : uN (x ^^^ (-9223372036854775808)) = (uN x + 9223372036854775808) % 18446744073709551616 := by
  rw [← nat_xor (uN_lt x)]
  exact UInt64.toNat_xor _ _
theorem uN_int (x : Int64) : x.toInt = if 2 * uN x < 18446744073709551616 then (uN x : Int) else (uN x : Int) - 18446744073709551616 := BitVec.toInt_eq_toNat_cond _
theorem uN_le (x y : Int64) : (x ^^^ (-9223372036854775808)) ≤ (y ^^^ (-9223372036854775808)) ↔ uN x ≤ uN y := by
  have hx := uN_lt x
  have hy := uN_lt y
  rw [Int64.le_iff_toInt_le, uN_int, uN_int, uN_xor, uN_xor]
  omega
theorem uN_sk (x : Int64) {k : Nat} (hk : k < 64) : uN (x.toUInt64 >>> ((nI k).toInt64.toUInt64 &&& Int64.toUInt64 63)).toInt64 = uN x / 2 ^ k := by
  have h : ((nI k).toInt64.toUInt64 &&& Int64.toUInt64 63).toNat % 64 = k := by
    rw [nI_l (by omega), UInt64.toNat_and]
    have e : (lN k).toUInt64.toNat = k % 2 ^ 64 := rfl
    have e2 : (Int64.toUInt64 63).toNat = 2 ^ 6 - 1 := by decide
    rw [e, e2, Nat.and_two_pow_sub_one_eq_mod]
    omega
  rw [uN_shr, h]
/-! the bits of a number -/
def exB (fb eo : Nat) (B : Int64) : Int := ((uN B / 2 ^ fb % eo : Nat) : Int)
def frB (fb : Nat) (B : Int64) : Int := ((uN B % 2 ^ fb : Nat) : Int)
def cfB (fb eo : Nat) (B : Int64) : Int := if exB fb eo B = 0 then frB fb B else 2 ^ fb + frB fb B
theorem exB_r (fb eo : Nat) (h : 0 < eo ∧ eo ≤ 2048) (B : Int64) : 0 ≤ exB fb eo B ∧ exB fb eo B ≤ 2047 := by
  have := Nat.mod_lt (uN B / 2 ^ fb) h.1
  unfold exB
  omega
theorem frB_lt (fb : Nat) (B : Int64) : 0 ≤ frB fb B ∧ frB fb B < 2 ^ fb := by
  have h := Nat.mod_lt (uN B) (Nat.two_pow_pos fb)
  unfold frB
  refine ⟨Int.natCast_nonneg _, ?_⟩
  have e : ((2 : Int) ^ fb) = ((2 ^ fb : Nat) : Int) := by simp
  rw [e]
  exact Int.ofNat_lt.mpr h
theorem frB_r (fb : Nat) (B : Int64) (h : fb ≤ 52) : 0 ≤ frB fb B ∧ frB fb B ≤ 4503599627370495 := by
  have h1 := frB_lt fb B
  have h2 : (2 : Int) ^ fb ≤ 2 ^ 52 := by
    have e : (52 : Nat) = fb + (52 - fb) := by omega
    rw [e, Int.pow_add]
    exact le_mul_pow2 _ (Int.le_of_lt (pow2_pos fb))
  have h3 : (2 : Int) ^ 52 = 4503599627370496 := by decide
  omega
theorem uN_lz {n : Nat} (h : n < 18446744073709551616) : uN (lz (n : Int)) = n := by
  rw [lz_nat]
  show (BitVec.ofNat 64 n).toNat = n
  rw [BitVec.toNat_ofNat]
  omega
theorem uN_and (x y : Int64) : uN (x &&& y) = uN x &&& uN y := UInt64.toNat_and _ _
theorem uN_or2 (x y : Int64) : uN (x ||| y) = uN x ||| uN y := UInt64.toNat_or _ _
theorem l2i_nat (y : Int64) : y.toInt32.toBitVec.toNat = uN y % 2 ^ 32 := by
  show (y.toBitVec.signExtend 32).toNat = _
  rw [BitVec.signExtend_eq_setWidth_of_le _ (by decide), BitVec.toNat_setWidth]
  rfl
theorem exB_bits (B : Int64) (k j : Nat) (m : Int32) (hk : k < 64) (hj : j ≤ 30) (hm : m.toBitVec.toNat = 2 ^ j - 1) : (B.toUInt64 >>> ((iz (k : Int)).toInt64.toUInt64 &&& Int64.toUInt64 63)).toInt64.toInt32 &&& m = iz (exB k (2 ^ j) B) := by
  rw [pk_and _ j hm, l2i_nat, iz_nat k, uN_sk B hk]
  unfold exB
  rw [iz_nat, Nat.mod_mod_of_dvd _ (Nat.pow_dvd_pow 2 (by omega))]
theorem exB_eq0 (B : Int64) : (B.toUInt64 >>> ((iz (52 : Int)).toInt64.toUInt64 &&& Int64.toUInt64 63)).toInt64.toInt32 &&& iz 2047 = iz (exB 52 2048 B) := exB_bits B 52 11 (iz 2047) (by decide) (by decide) (by decide)
theorem exB_eq1 (B : Int64) : (B.toUInt64 >>> ((iz (23 : Int)).toInt64.toUInt64 &&& Int64.toUInt64 63)).toInt64.toInt32 &&& iz 255 = iz (exB 23 256 B) := exB_bits B 23 8 (iz 255) (by decide) (by decide) (by decide)
theorem frB_bits (B : Int64) (k : Nat) (hk : k < 63) : B &&& lz (2 ^ k - 1) = lz (frB k B) := by
  refine uN_inj ?_
  have h2 : 2 ^ k < 2 ^ 64 := Nat.pow_lt_pow_right (by decide) (by omega)
  have h1 := Nat.mod_lt (uN B) (Nat.two_pow_pos k)
  have e : ((2 : Int) ^ k - 1) = ((2 ^ k - 1 : Nat) : Int) := by
    rw [Int.natCast_sub (Nat.one_le_two_pow)]
    simp
  unfold frB
  rw [uN_and, e, uN_lz (by omega), uN_lz (by omega), Nat.and_two_pow_sub_one_eq_mod]
theorem frB_eq0 (B : Int64) : B &&& lz (1 * 2 ^ 52 - 1) = lz (frB 52 B) := frB_bits B 52 (by decide)
theorem frB_eq1 (B : Int64) : B &&& lz (1 * 2 ^ 23 - 1) = lz (frB 23 B) := frB_bits B 23 (by decide)
theorem cfB_or (fb eo : Nat) (h : fb ≤ 52) (B : Int64) : lz (1 * 2 ^ fb) ||| lz (frB fb B) = lz (2 ^ fb + frB fb B) := by
  have h1 := frB_lt fb B
  have h2 := frB_r fb B h
  have h3 := lz_or (a := 1) (b := frB fb B) fb (by decide) h1.1 h1.2 (by
    have h4 : (2 : Int) ^ fb ≤ 2 ^ 52 := by
      have e : (52 : Nat) = fb + (52 - fb) := by omega
      rw [e, Int.pow_add]
      exact le_mul_pow2 _ (Int.le_of_lt (pow2_pos fb))
    have h5 : (2 : Int) ^ 52 = 4503599627370496 := by decide
    omega)
  rw [h3, Int.one_mul]
theorem cfB_1 {fb eo : Nat} (h : fb ≤ 52) {B : Int64} (hx : exB fb eo B ≠ 0) : lz (1 * 2 ^ fb) ||| lz (frB fb B) = lz (cfB fb eo B) := by
  unfold cfB
  rw [if_neg hx]
  exact cfB_or fb eo h B
theorem cfB_0 {fb eo : Nat} (h : fb ≤ 52) {B : Int64} (hx : exB fb eo B = 0) : lz 0 ||| lz (frB fb B) = lz (cfB fb eo B) := by
  unfold cfB
  rw [if_pos hx]
  refine uN_inj ?_
  rw [uN_or2]
  show 0 ||| _ = _
  rw [Nat.zero_or]
end
section
theorem d_Fm_exp0_0 : decode b_Fm_exponent 0 = .ok (.lload_n 1, 1) := by decide +kernel
theorem d_Fm_exp0_1 : decode b_Fm_exponent 1 = .ok (.aload_n 0, 1) := by decide +kernel
theorem d_Fm_exp0_2 : decode b_Fm_exponent 2 = .ok (.getfield 29, 3) := by decide +kernel
theorem d_Fm_exp0_5 : decode b_Fm_exponent 5 = .ok (.lushr, 1) := by decide +kernel
theorem d_Fm_exp0_6 : decode b_Fm_exponent 6 = .ok (.l2i, 1) := by decide +kernel
theorem d_Fm_exp0_7 : decode b_Fm_exponent 7 = .ok (.aload_n 0, 1) := by decide +kernel
theorem d_Fm_exp0_8 : decode b_Fm_exponent 8 = .ok (.getfield 33, 3) := by decide +kernel
theorem d_Fm_exp0_11 : decode b_Fm_exponent 11 = .ok (.iand, 1) := by decide +kernel
theorem d_Fm_exp0_12 : decode b_Fm_exponent 12 = .ok (.ireturn, 1) := by decide +kernel
set_option maxHeartbeats 4000000 in
set_option maxRecDepth 100000 in
theorem c_Fm_exp0 (l : Launch) (D : va_G) (cI cB : ClassId) (x d la t ba tt : Nat) (ad : Nat → Nat) (V : Int) (tx : List Int) (B : Int64) : Ct l y_Fm_exponent (ws_Fm_exponent) 0 (AX x d la t ba) [.ref (ad 0), .long B] (XW D cI cB x d la t ba tt ad V tx) (zR (some (.int (iz (exB 52 2048 B)))) (XW D cI cB x d la t ba tt ad V tx)) := by
  refine z_body zSt_XW (by decide +kernel) rfl (Nat.le_of_ble_eq_true rfl) ?_
  intro p e s m args below meth c ls hx hb hml hr hlk hts0 hown hpre0 H locs hpre hS hl
  have hts : ∀ w ∈ TBL, w.before args s = true := fun w hw => hts0 w (List.mem_cons_of_mem _ hw)
  have hl : lv_has ls 3 [(0, .ref (ad 0)), (1, .long B)] := hl
  have hw := hpre
  have hst0 := hpre0.st
  refine lv_lload_n hx hb d_Fm_exp0_0 rfl (lv_at hl 1 rfl) ?_
  refine lv_aload_n hx hb d_Fm_exp0_1 rfl (lv_at hl 0 rfl) ?_
  refine va_getE hx hb hst0.2.2 (i := 0) (by decide) hS hown (List.mem_of_getElem? (i := 0) rfl) (hts _ tw_532) (fun _ h9 => h9) d_Fm_exp0_2 ?_
  refine z_topi (y := iz (52)) (by decide) ?_
  refine lv_lushr hx hb d_Fm_exp0_5 rfl ?_
  refine lv_l2i hx hb d_Fm_exp0_6 rfl ?_
  refine lv_aload_n hx hb d_Fm_exp0_7 rfl (lv_at hl 0 rfl) ?_
  refine va_getE hx hb hst0.2.2 (i := 0) (by decide) hS hown (List.mem_of_getElem? (i := 1) rfl) (hts _ tw_533) (fun _ h9 => h9) d_Fm_exp0_8 ?_
  refine z_topi (y := iz (2047)) (by decide) ?_
  refine lv_iand hx hb d_Fm_exp0_11 ?_
  exact z_iret hx hb hr hlk hS (zR_st zSt_XW) ⟨by rw [exB_eq0], hw⟩ d_Fm_exp0_12
theorem d_Fm_fr0_0 : decode b_Fm_fraction 0 = .ok (.lload_n 1, 1) := by decide +kernel
theorem d_Fm_fr0_1 : decode b_Fm_fraction 1 = .ok (.lconst 1, 1) := by decide +kernel
theorem d_Fm_fr0_2 : decode b_Fm_fraction 2 = .ok (.aload_n 0, 1) := by decide +kernel
theorem d_Fm_fr0_3 : decode b_Fm_fraction 3 = .ok (.getfield 29, 3) := by decide +kernel
theorem d_Fm_fr0_6 : decode b_Fm_fraction 6 = .ok (.lshl, 1) := by decide +kernel
theorem d_Fm_fr0_7 : decode b_Fm_fraction 7 = .ok (.lconst 1, 1) := by decide +kernel
theorem d_Fm_fr0_8 : decode b_Fm_fraction 8 = .ok (.lsub, 1) := by decide +kernel
theorem d_Fm_fr0_9 : decode b_Fm_fraction 9 = .ok (.land, 1) := by decide +kernel
theorem d_Fm_fr0_10 : decode b_Fm_fraction 10 = .ok (.lreturn, 1) := by decide +kernel
set_option maxHeartbeats 4000000 in
set_option maxRecDepth 100000 in
theorem c_Fm_fr0 (l : Launch) (D : va_G) (cI cB : ClassId) (x d la t ba tt : Nat) (ad : Nat → Nat) (V : Int) (tx : List Int) (B : Int64) : Ct l y_Fm_fraction (ws_Fm_fraction) 0 (AX x d la t ba) [.ref (ad 0), .long B] (XW D cI cB x d la t ba tt ad V tx) (zR (some (.long (lz (frB 52 B)))) (XW D cI cB x d la t ba tt ad V tx)) := by
  refine z_body zSt_XW (by decide +kernel) rfl (Nat.le_of_ble_eq_true rfl) ?_
  intro p e s m args below meth c ls hx hb hml hr hlk hts0 hown hpre0 H locs hpre hS hl
  have hts : ∀ w ∈ TBL, w.before args s = true := fun w hw => hts0 w (List.mem_cons_of_mem _ hw)
  have hl : lv_has ls 3 [(0, .ref (ad 0)), (1, .long B)] := hl
  have hw := hpre
  have hst0 := hpre0.st
  refine lv_lload_n hx hb d_Fm_fr0_0 rfl (lv_at hl 1 rfl) ?_
  refine lv_lconst (v := lz 1) hx hb d_Fm_fr0_1 (by decide) ?_
  refine lv_aload_n hx hb d_Fm_fr0_2 rfl (lv_at hl 0 rfl) ?_
  refine va_getE hx hb hst0.2.2 (i := 0) (by decide) hS hown (List.mem_of_getElem? (i := 0) rfl) (hts _ tw_532) (fun _ h9 => h9) d_Fm_fr0_3 ?_
  refine z_topi (y := iz (52)) (by decide) ?_
  refine z_lshl hx hb 52 d_Fm_fr0_6 rfl (by decide) ⟨by omega, by omega⟩ ⟨by omega, by omega⟩ ?_
  refine lv_lconst (v := lz 1) hx hb d_Fm_fr0_7 (by decide) ?_
  refine z_lsub hx hb d_Fm_fr0_8 ?_
  refine lv_land hx hb d_Fm_fr0_9 ?_
  exact z_lret hx hb hr hlk hS (zR_st zSt_XW) ⟨by rw [frB_eq0], hw⟩ d_Fm_fr0_10
theorem d_Fm_fin0_0 : decode b_Fm_isFinite 0 = .ok (.aload_n 0, 1) := by decide +kernel
theorem d_Fm_fin0_1 : decode b_Fm_isFinite 1 = .ok (.lload_n 1, 1) := by decide +kernel
theorem d_Fm_fin0_2 : decode b_Fm_isFinite 2 = .ok (.invokevirtual 39, 3) := by decide +kernel
theorem d_Fm_fin0_5 : decode b_Fm_isFinite 5 = .ok (.aload_n 0, 1) := by decide +kernel
theorem d_Fm_fin0_6 : decode b_Fm_isFinite 6 = .ok (.getfield 33, 3) := by decide +kernel
theorem d_Fm_fin0_9 : decode b_Fm_isFinite 9 = .ok (.if_icmp .eq (7), 3) := by decide +kernel
theorem d_Fm_fin0_12 : decode b_Fm_isFinite 12 = .ok (.iconst 1, 1) := by decide +kernel
theorem d_Fm_fin0_13 : decode b_Fm_isFinite 13 = .ok (.goto (4), 3) := by decide +kernel
theorem d_Fm_fin0_16 : decode b_Fm_isFinite 16 = .ok (.iconst 0, 1) := by decide +kernel
theorem d_Fm_fin0_17 : decode b_Fm_isFinite 17 = .ok (.ireturn, 1) := by decide +kernel
set_option maxHeartbeats 4000000 in
set_option maxRecDepth 100000 in
theorem c_Fm_fin0 (l : Launch) (D : va_G) (cI cB : ClassId) (x d la t ba tt : Nat) (ad : Nat → Nat) (V : Int) (tx : List Int) (B : Int64) : Ct l y_Fm_isFinite (ws_Fm_isFinite) 1 (AX x d la t ba) [.ref (ad 0), .long B] (XW D cI cB x d la t ba tt ad V tx) (zR (some (.int (iz (if exB 52 2048 B = 2047 then 0 else 1)))) (XW D cI cB x d la t ba tt ad V tx)) := by
  refine z_body zSt_XW (by decide +kernel) rfl (Nat.le_of_ble_eq_true rfl) ?_
  intro p e s m args below meth c ls hx hb hml hr hlk hts0 hown hpre0 H locs hpre hS hl
  have hts : ∀ w ∈ TBL, w.before args s = true := fun w hw => hts0 w (List.mem_cons_of_mem _ hw)
  have hl : lv_has ls 3 [(0, .ref (ad 0)), (1, .long B)] := hl
  have hw := hpre
  have hst0 := hpre0.st
  refine lv_aload_n hx hb d_Fm_fin0_0 rfl (lv_at hl 0 rfl) ?_
  refine lv_lload_n hx hb d_Fm_fin0_1 rfl (lv_at hl 1 rfl) ?_
  have hct := c_Fm_exp0 l D cI cB x d la t ba tt ad V tx B
  refine z_go (va_runV (As := [.long B]) (rest := []) ⟨hx, hb, hml, hown, hts⟩ hct.2 (z_cwV hts w_Fm_exponent tw_157 (by decide)) (z_preV hct.1 (va_recvE hst0.2.2 (i := 0) (by decide) hS) hw) rfl rfl hl.1 rfl (lv_room (Nat.le_of_ble_eq_true rfl)) d_Fm_fin0_2 ⟨Nat.zero_le _, Nat.zero_le _⟩) hS (fun _ h9 => h9) (fun v9 t9 H locs hv9 hp9 hz9 hk9 hS => ?_)
  obtain ⟨rfl, hw⟩ := hp9
  have hw := XW.moved hv9.symm hw
  refine W.eq (g2 := F0 m 5 ls [.int (iz (exB 52 2048 B))]) rfl ?_
  have hxr := exB_r 52 2048 (by decide) B
  refine lv_aload_n hx hb d_Fm_fin0_5 rfl (lv_at hl 0 rfl) ?_
  refine va_getE hx hb hst0.2.2 (i := 0) (by decide) hS hown (List.mem_of_getElem? (i := 1) rfl) (hts _ tw_533) (fun _ h9 => h9) d_Fm_fin0_6 ?_
  refine z_topi (y := iz (2047)) (by decide) ?_
  refine z_icmp_eq (tgt := 16) hx hb d_Fm_fin0_9 rfl ⟨by omega, by omega⟩ ⟨by omega, by omega⟩ (fun hc9 => ?_) (fun hc9 => ?_)
  · refine lv_iconst (v := iz 0) hx hb d_Fm_fin0_16 rfl ?_
    exact z_zret hx hb hr rfl hlk hS (zR_st zSt_XW) ⟨by first | rw [if_pos hc9] | rw [if_neg hc9], hw⟩ d_Fm_fin0_17
  · refine lv_iconst (v := iz 1) hx hb d_Fm_fin0_12 rfl ?_
    refine lv_goto (tgt := 17) hx hb d_Fm_fin0_13 rfl ?_
    exact z_zret hx hb hr rfl hlk hS (zR_st zSt_XW) ⟨by first | rw [if_pos hc9] | rw [if_neg hc9], hw⟩ d_Fm_fin0_17
theorem d_Fm_inf0_0 : decode b_Fm_isInfinity 0 = .ok (.aload_n 0, 1) := by decide +kernel
theorem d_Fm_inf0_1 : decode b_Fm_isInfinity 1 = .ok (.lload_n 1, 1) := by decide +kernel
theorem d_Fm_inf0_2 : decode b_Fm_isInfinity 2 = .ok (.invokevirtual 43, 3) := by decide +kernel
theorem d_Fm_inf0_5 : decode b_Fm_isInfinity 5 = .ok (.ifCond .ne (17), 3) := by decide +kernel
theorem d_Fm_inf0_8 : decode b_Fm_isInfinity 8 = .ok (.aload_n 0, 1) := by decide +kernel
theorem d_Fm_inf0_9 : decode b_Fm_isInfinity 9 = .ok (.lload_n 1, 1) := by decide +kernel
theorem d_Fm_inf0_10 : decode b_Fm_isInfinity 10 = .ok (.invokevirtual 47, 3) := by decide +kernel
theorem d_Fm_inf0_13 : decode b_Fm_isInfinity 13 = .ok (.lconst 0, 1) := by decide +kernel
theorem d_Fm_inf0_14 : decode b_Fm_isInfinity 14 = .ok (.lcmp, 1) := by decide +kernel
theorem d_Fm_inf0_15 : decode b_Fm_isInfinity 15 = .ok (.ifCond .ne (7), 3) := by decide +kernel
theorem d_Fm_inf0_18 : decode b_Fm_isInfinity 18 = .ok (.iconst 1, 1) := by decide +kernel
theorem d_Fm_inf0_19 : decode b_Fm_isInfinity 19 = .ok (.goto (4), 3) := by decide +kernel
theorem d_Fm_inf0_22 : decode b_Fm_isInfinity 22 = .ok (.iconst 0, 1) := by decide +kernel
theorem d_Fm_inf0_23 : decode b_Fm_isInfinity 23 = .ok (.ireturn, 1) := by decide +kernel
set_option maxHeartbeats 4000000 in
set_option maxRecDepth 100000 in
theorem c_Fm_inf0 (l : Launch) (D : va_G) (cI cB : ClassId) (x d la t ba tt : Nat) (ad : Nat → Nat) (V : Int) (tx : List Int) (B : Int64) : Ct l y_Fm_isInfinity (ws_Fm_isInfinity) 2 (AX x d la t ba) [.ref (ad 0), .long B] (XW D cI cB x d la t ba tt ad V tx) (zR (some (.int (iz (if exB 52 2048 B = 2047 ∧ frB 52 B = 0 then 1 else 0)))) (XW D cI cB x d la t ba tt ad V tx)) := by
  refine z_body zSt_XW (by decide +kernel) rfl (Nat.le_of_ble_eq_true rfl) ?_
  intro p e s m args below meth c ls hx hb hml hr hlk hts0 hown hpre0 H locs hpre hS hl
  have hts : ∀ w ∈ TBL, w.before args s = true := fun w hw => hts0 w (List.mem_cons_of_mem _ hw)
  have hl : lv_has ls 3 [(0, .ref (ad 0)), (1, .long B)] := hl
  have hw := hpre
  have hst0 := hpre0.st
  refine lv_aload_n hx hb d_Fm_inf0_0 rfl (lv_at hl 0 rfl) ?_
  refine lv_lload_n hx hb d_Fm_inf0_1 rfl (lv_at hl 1 rfl) ?_
  have hct := c_Fm_fin0 l D cI cB x d la t ba tt ad V tx B
  refine z_go (va_runV (As := [.long B]) (rest := []) ⟨hx, hb, hml, hown, hts⟩ hct.2 (z_cwV hts w_Fm_isFinite tw_166 (by decide)) (z_preV hct.1 (va_recvE hst0.2.2 (i := 0) (by decide) hS) hw) rfl rfl hl.1 rfl (lv_room (Nat.le_of_ble_eq_true rfl)) d_Fm_inf0_2 ⟨Nat.zero_le _, Nat.zero_le _⟩) hS (fun _ h9 => h9) (fun v9 t9 H locs hv9 hp9 hz9 hk9 hS => ?_)
  obtain ⟨rfl, hw⟩ := hp9
  have hw := XW.moved hv9.symm hw
  refine W.eq (g2 := F0 m 5 ls [.int (iz (if exB 52 2048 B = 2047 then 0 else 1))]) rfl ?_
  refine z_if_ne (tgt := 22) hx hb d_Fm_inf0_5 rfl (by split <;> exact ⟨by omega, by omega⟩) (fun hc5 => ?_) (fun hc5 => ?_)
  · refine lv_iconst (v := iz 0) hx hb d_Fm_inf0_22 rfl ?_
    exact z_zret hx hb hr rfl hlk hS (zR_st zSt_XW) ⟨by
        first
          | (rw [if_neg (fun h8 => hc5 (if_pos h8.1))])
          | (rw [if_neg (fun h8 => hc14 h8.2)])
          | (rw [if_pos ⟨by by_cases h8 : exB 52 2048 B = 2047; exact h8; rw [if_neg h8] at hc5; omega, hc14⟩]), hw⟩ d_Fm_inf0_23
  · refine lv_aload_n hx hb d_Fm_inf0_8 rfl (lv_at hl 0 rfl) ?_
    refine lv_lload_n hx hb d_Fm_inf0_9 rfl (lv_at hl 1 rfl) ?_
    have hct := c_Fm_fr0 l D cI cB x d la t ba tt ad V tx B
    refine z_go (va_runV (As := [.long B]) (rest := []) ⟨hx, hb, hml, hown, hts⟩ hct.2 (z_cwV hts w_Fm_fraction tw_167 (by decide)) (z_preV hct.1 (va_recvE hst0.2.2 (i := 0) (by decide) hS) hw) rfl rfl hl.1 rfl (lv_room (Nat.le_of_ble_eq_true rfl)) d_Fm_inf0_10 ⟨Nat.zero_le _, Nat.zero_le _⟩) hS (fun _ h9 => h9) (fun v9 t9 H locs hv9 hp9 hz9 hk9 hS => ?_)
    obtain ⟨rfl, hw⟩ := hp9
    have hw := XW.moved hv9.symm hw
    refine W.eq (g2 := F0 m 13 ls [.long (lz (frB 52 B))]) rfl ?_
    have hfr := frB_r 52 B (by decide)
    refine lv_lconst (v := lz 0) hx hb d_Fm_inf0_13 (by decide) ?_
    refine z_lif_ne (tgt := 22) hx hb d_Fm_inf0_14 d_Fm_inf0_15 rfl ⟨by omega, by omega⟩ ⟨by omega, by omega⟩ (fun hc14 => ?_) (fun hc14 => ?_)
    · refine lv_iconst (v := iz 0) hx hb d_Fm_inf0_22 rfl ?_
      exact z_zret hx hb hr rfl hlk hS (zR_st zSt_XW) ⟨by
          first
            | (rw [if_neg (fun h8 => hc5 (if_pos h8.1))])
            | (rw [if_neg (fun h8 => hc14 h8.2)])
            | (rw [if_pos ⟨by by_cases h8 : exB 52 2048 B = 2047; exact h8; rw [if_neg h8] at hc5; omega, hc14⟩]), hw⟩ d_Fm_inf0_23
    · refine lv_iconst (v := iz 1) hx hb d_Fm_inf0_18 rfl ?_
      refine lv_goto (tgt := 23) hx hb d_Fm_inf0_19 rfl ?_
      exact z_zret hx hb hr rfl hlk hS (zR_st zSt_XW) ⟨by
          first
            | (rw [if_neg (fun h8 => hc5 (if_pos h8.1))])
            | (rw [if_neg (fun h8 => hc14 h8.2)])
            | (rw [if_pos ⟨by by_cases h8 : exB 52 2048 B = 2047; exact h8; rw [if_neg h8] at hc5; omega, hc14⟩]), hw⟩ d_Fm_inf0_23
theorem d_Fm_coef0_0 : decode b_Fm_coefficient 0 = .ok (.aload_n 0, 1) := by decide +kernel
theorem d_Fm_coef0_1 : decode b_Fm_coefficient 1 = .ok (.lload_n 1, 1) := by decide +kernel
theorem d_Fm_coef0_2 : decode b_Fm_coefficient 2 = .ok (.invokevirtual 39, 3) := by decide +kernel
theorem d_Fm_coef0_5 : decode b_Fm_coefficient 5 = .ok (.ifCond .ne (7), 3) := by decide +kernel
theorem d_Fm_coef0_8 : decode b_Fm_coefficient 8 = .ok (.lconst 0, 1) := by decide +kernel
theorem d_Fm_coef0_9 : decode b_Fm_coefficient 9 = .ok (.goto (9), 3) := by decide +kernel
theorem d_Fm_coef0_12 : decode b_Fm_coefficient 12 = .ok (.lconst 1, 1) := by decide +kernel
theorem d_Fm_coef0_13 : decode b_Fm_coefficient 13 = .ok (.aload_n 0, 1) := by decide +kernel
theorem d_Fm_coef0_14 : decode b_Fm_coefficient 14 = .ok (.getfield 29, 3) := by decide +kernel
theorem d_Fm_coef0_17 : decode b_Fm_coefficient 17 = .ok (.lshl, 1) := by decide +kernel
theorem d_Fm_coef0_18 : decode b_Fm_coefficient 18 = .ok (.lstore_n 3, 1) := by decide +kernel
theorem d_Fm_coef0_19 : decode b_Fm_coefficient 19 = .ok (.lload_n 3, 1) := by decide +kernel
theorem d_Fm_coef0_20 : decode b_Fm_coefficient 20 = .ok (.aload_n 0, 1) := by decide +kernel
theorem d_Fm_coef0_21 : decode b_Fm_coefficient 21 = .ok (.lload_n 1, 1) := by decide +kernel
theorem d_Fm_coef0_22 : decode b_Fm_coefficient 22 = .ok (.invokevirtual 47, 3) := by decide +kernel
theorem d_Fm_coef0_25 : decode b_Fm_coefficient 25 = .ok (.lor, 1) := by decide +kernel
theorem d_Fm_coef0_26 : decode b_Fm_coefficient 26 = .ok (.lreturn, 1) := by decide +kernel
set_option maxHeartbeats 4000000 in
set_option maxRecDepth 100000 in
theorem c_Fm_coef0 (l : Launch) (D : va_G) (cI cB : ClassId) (x d la t ba tt : Nat) (ad : Nat → Nat) (V : Int) (tx : List Int) (B : Int64) : Ct l y_Fm_coefficient (ws_Fm_coefficient) 1 (AX x d la t ba) [.ref (ad 0), .long B] (XW D cI cB x d la t ba tt ad V tx) (zR (some (.long (lz (cfB 52 2048 B)))) (XW D cI cB x d la t ba tt ad V tx)) := by
  refine z_body zSt_XW (by decide +kernel) rfl (Nat.le_of_ble_eq_true rfl) ?_
  intro p e s m args below meth c ls hx hb hml hr hlk hts0 hown hpre0 H locs hpre hS hl
  have hts : ∀ w ∈ TBL, w.before args s = true := fun w hw => hts0 w (List.mem_cons_of_mem _ hw)
  have hl : lv_has ls 5 [(0, .ref (ad 0)), (1, .long B)] := hl
  have hw := hpre
  have hst0 := hpre0.st
  refine lv_aload_n hx hb d_Fm_coef0_0 rfl (lv_at hl 0 rfl) ?_
  refine lv_lload_n hx hb d_Fm_coef0_1 rfl (lv_at hl 1 rfl) ?_
  have hct := c_Fm_exp0 l D cI cB x d la t ba tt ad V tx B
  refine z_go (va_runV (As := [.long B]) (rest := []) ⟨hx, hb, hml, hown, hts⟩ hct.2 (z_cwV hts w_Fm_exponent tw_157 (by decide)) (z_preV hct.1 (va_recvE hst0.2.2 (i := 0) (by decide) hS) hw) rfl rfl hl.1 rfl (lv_room (Nat.le_of_ble_eq_true rfl)) d_Fm_coef0_2 ⟨Nat.zero_le _, Nat.zero_le _⟩) hS (fun _ h9 => h9) (fun v9 t9 H locs hv9 hp9 hz9 hk9 hS => ?_)
  obtain ⟨rfl, hw⟩ := hp9
  have hw := XW.moved hv9.symm hw
  refine W.eq (g2 := F0 m 5 ls [.int (iz (exB 52 2048 B))]) rfl ?_
  have hxr := exB_r 52 2048 (by decide) B
  refine z_if_ne (tgt := 12) hx hb d_Fm_coef0_5 rfl ⟨by omega, by omega⟩ (fun hc5 => ?_) (fun hc5 => ?_)
  · refine lv_lconst (v := lz 1) hx hb d_Fm_coef0_12 (by decide) ?_
    refine lv_aload_n hx hb d_Fm_coef0_13 rfl (lv_at hl 0 rfl) ?_
    refine va_getE hx hb hst0.2.2 (i := 0) (by decide) hS hown (List.mem_of_getElem? (i := 0) rfl) (hts _ tw_532) (fun _ h9 => h9) d_Fm_coef0_14 ?_
    refine z_topi (y := iz (52)) (by decide) ?_
    refine z_lshl hx hb 52 d_Fm_coef0_17 rfl (by decide) ⟨by omega, by omega⟩ ⟨by omega, by omega⟩ ?_
    refine lv_lstore_n hx hb d_Fm_coef0_18 rfl hl (by decide) rfl (fun ls hl => ?_)
    have hl : lv_has ls 5 [(3, .long (lz (1 * 2 ^ 52))), (0, .ref (ad 0)), (1, .long B)] := hl
    refine lv_lload_n hx hb d_Fm_coef0_19 rfl (lv_at hl 0 rfl) ?_
    refine lv_aload_n hx hb d_Fm_coef0_20 rfl (lv_at hl 1 rfl) ?_
    refine lv_lload_n hx hb d_Fm_coef0_21 rfl (lv_at hl 2 rfl) ?_
    have hct := c_Fm_fr0 l D cI cB x d la t ba tt ad V tx B
    refine z_go (va_runV (As := [.long B]) (rest := [.long (lz (1 * 2 ^ 52))]) ⟨hx, hb, hml, hown, hts⟩ hct.2 (z_cwV hts w_Fm_fraction tw_167 (by decide)) (z_preV hct.1 (va_recvE hst0.2.2 (i := 0) (by decide) hS) hw) rfl rfl hl.1 rfl (lv_room (Nat.le_of_ble_eq_true rfl)) d_Fm_coef0_22 ⟨Nat.zero_le _, Nat.zero_le _⟩) hS (fun _ h9 => h9) (fun v9 t9 H locs hv9 hp9 hz9 hk9 hS => ?_)
    obtain ⟨rfl, hw⟩ := hp9
    have hw := XW.moved hv9.symm hw
    refine W.eq (g2 := F0 m 25 ls [.long (lz (frB 52 B)), .long (lz (1 * 2 ^ 52))]) rfl ?_
    refine lv_lor hx hb d_Fm_coef0_25 ?_
    exact z_lret hx hb hr hlk hS (zR_st zSt_XW) ⟨by first | rw [cfB_0 (by decide) hc5] | rw [cfB_1 (by decide) hc5], hw⟩ d_Fm_coef0_26
  · refine lv_lconst (v := lz 0) hx hb d_Fm_coef0_8 (by decide) ?_
    refine lv_goto (tgt := 18) hx hb d_Fm_coef0_9 rfl ?_
    refine lv_lstore_n hx hb d_Fm_coef0_18 rfl hl (by decide) rfl (fun ls hl => ?_)
    have hl : lv_has ls 5 [(3, .long (lz 0)), (0, .ref (ad 0)), (1, .long B)] := hl
    refine lv_lload_n hx hb d_Fm_coef0_19 rfl (lv_at hl 0 rfl) ?_
    refine lv_aload_n hx hb d_Fm_coef0_20 rfl (lv_at hl 1 rfl) ?_
    refine lv_lload_n hx hb d_Fm_coef0_21 rfl (lv_at hl 2 rfl) ?_
    have hct := c_Fm_fr0 l D cI cB x d la t ba tt ad V tx B
    refine z_go (va_runV (As := [.long B]) (rest := [.long (lz 0)]) ⟨hx, hb, hml, hown, hts⟩ hct.2 (z_cwV hts w_Fm_fraction tw_167 (by decide)) (z_preV hct.1 (va_recvE hst0.2.2 (i := 0) (by decide) hS) hw) rfl rfl hl.1 rfl (lv_room (Nat.le_of_ble_eq_true rfl)) d_Fm_coef0_22 ⟨Nat.zero_le _, Nat.zero_le _⟩) hS (fun _ h9 => h9) (fun v9 t9 H locs hv9 hp9 hz9 hk9 hS => ?_)
    obtain ⟨rfl, hw⟩ := hp9
    have hw := XW.moved hv9.symm hw
    refine W.eq (g2 := F0 m 25 ls [.long (lz (frB 52 B)), .long (lz 0)]) rfl ?_
    refine lv_lor hx hb d_Fm_coef0_25 ?_
    exact z_lret hx hb hr hlk hS (zR_st zSt_XW) ⟨by first | rw [cfB_0 (by decide) hc5] | rw [cfB_1 (by decide) hc5], hw⟩ d_Fm_coef0_26
theorem d_Fm_pow0_0 : decode b_Fm_power 0 = .ok (.aload_n 0, 1) := by decide +kernel
theorem d_Fm_pow0_1 : decode b_Fm_power 1 = .ok (.getfield 36, 3) := by decide +kernel
theorem d_Fm_pow0_4 : decode b_Fm_power 4 = .ok (.aload_n 0, 1) := by decide +kernel
theorem d_Fm_pow0_5 : decode b_Fm_power 5 = .ok (.lload_n 1, 1) := by decide +kernel
theorem d_Fm_pow0_6 : decode b_Fm_power 6 = .ok (.invokevirtual 39, 3) := by decide +kernel
theorem d_Fm_pow0_9 : decode b_Fm_power 9 = .ok (.iconst 1, 1) := by decide +kernel
theorem d_Fm_pow0_10 : decode b_Fm_power 10 = .ok (.isub, 1) := by decide +kernel
theorem d_Fm_pow0_11 : decode b_Fm_power 11 = .ok (.iconst 0, 1) := by decide +kernel
theorem d_Fm_pow0_12 : decode b_Fm_power 12 = .ok (.invokestatic 51, 3) := by decide +kernel
theorem d_Fm_pow0_15 : decode b_Fm_power 15 = .ok (.iadd, 1) := by decide +kernel
theorem d_Fm_pow0_16 : decode b_Fm_power 16 = .ok (.ireturn, 1) := by decide +kernel
set_option maxHeartbeats 4000000 in
set_option maxRecDepth 100000 in
theorem c_Fm_pow0 (l : Launch) (D : va_G) (cI cB : ClassId) (x d la t ba tt : Nat) (ad : Nat → Nat) (V : Int) (tx : List Int) (B : Int64) : Ct l y_Fm_power (ws_Fm_power) 1 (AX x d la t ba) [.ref (ad 0), .long B] (XW D cI cB x d la t ba tt ad V tx) (zR (some (.int (iz (-1074 + max (exB 52 2048 B - 1) 0)))) (XW D cI cB x d la t ba tt ad V tx)) := by
  refine z_body zSt_XW (by decide +kernel) rfl (Nat.le_of_ble_eq_true rfl) ?_
  intro p e s m args below meth c ls hx hb hml hr hlk hts0 hown hpre0 H locs hpre hS hl
  have hts : ∀ w ∈ TBL, w.before args s = true := fun w hw => hts0 w (List.mem_cons_of_mem _ hw)
  have hl : lv_has ls 3 [(0, .ref (ad 0)), (1, .long B)] := hl
  have hw := hpre
  have hst0 := hpre0.st
  refine lv_aload_n hx hb d_Fm_pow0_0 rfl (lv_at hl 0 rfl) ?_
  refine va_getE hx hb hst0.2.2 (i := 0) (by decide) hS hown (List.mem_of_getElem? (i := 2) rfl) (hts _ tw_536) (fun _ h9 => h9) d_Fm_pow0_1 ?_
  refine z_topi (y := iz (-1074)) (by decide) ?_
  refine lv_aload_n hx hb d_Fm_pow0_4 rfl (lv_at hl 0 rfl) ?_
  refine lv_lload_n hx hb d_Fm_pow0_5 rfl (lv_at hl 1 rfl) ?_
  have hct := c_Fm_exp0 l D cI cB x d la t ba tt ad V tx B
  refine z_go (va_runV (As := [.long B]) (rest := [.int (iz (-1074))]) ⟨hx, hb, hml, hown, hts⟩ hct.2 (z_cwV hts w_Fm_exponent tw_157 (by decide)) (z_preV hct.1 (va_recvE hst0.2.2 (i := 0) (by decide) hS) hw) rfl rfl hl.1 rfl (lv_room (Nat.le_of_ble_eq_true rfl)) d_Fm_pow0_6 ⟨Nat.zero_le _, Nat.zero_le _⟩) hS (fun _ h9 => h9) (fun v9 t9 H locs hv9 hp9 hz9 hk9 hS => ?_)
  obtain ⟨rfl, hw⟩ := hp9
  have hw := XW.moved hv9.symm hw
  refine W.eq (g2 := F0 m 9 ls [.int (iz (exB 52 2048 B)), .int (iz (-1074))]) rfl ?_
  have hxr := exB_r 52 2048 (by decide) B
  refine lv_iconst (v := iz 1) hx hb d_Fm_pow0_9 rfl ?_
  refine z_isub hx hb d_Fm_pow0_10 ?_
  refine lv_iconst (v := iz 0) hx hb d_Fm_pow0_11 rfl ?_
  refine z_mmax hx hb (hml.trans hl.1.symm) hown (hts _ tw_241) (hts _ tw_242) (hts _ tw_16) (hts _ twm_max) (Nat.le_of_ble_eq_true rfl) (Nat.le_of_ble_eq_true rfl) (Nat.zero_le _) (Nat.zero_le _) ⟨by omega, by omega⟩ ⟨by omega, by omega⟩ d_Fm_pow0_12 ?_
  refine z_iadd hx hb d_Fm_pow0_15 ?_
  exact z_iret hx hb hr hlk hS (zR_st zSt_XW) ⟨rfl, hw⟩ d_Fm_pow0_16
theorem d_Fm_exp1_0 : decode b_Fm_exponent 0 = .ok (.lload_n 1, 1) := by decide +kernel
theorem d_Fm_exp1_1 : decode b_Fm_exponent 1 = .ok (.aload_n 0, 1) := by decide +kernel
theorem d_Fm_exp1_2 : decode b_Fm_exponent 2 = .ok (.getfield 29, 3) := by decide +kernel
theorem d_Fm_exp1_5 : decode b_Fm_exponent 5 = .ok (.lushr, 1) := by decide +kernel
theorem d_Fm_exp1_6 : decode b_Fm_exponent 6 = .ok (.l2i, 1) := by decide +kernel
theorem d_Fm_exp1_7 : decode b_Fm_exponent 7 = .ok (.aload_n 0, 1) := by decide +kernel
theorem d_Fm_exp1_8 : decode b_Fm_exponent 8 = .ok (.getfield 33, 3) := by decide +kernel
theorem d_Fm_exp1_11 : decode b_Fm_exponent 11 = .ok (.iand, 1) := by decide +kernel
theorem d_Fm_exp1_12 : decode b_Fm_exponent 12 = .ok (.ireturn, 1) := by decide +kernel
set_option maxHeartbeats 4000000 in
set_option maxRecDepth 100000 in
theorem c_Fm_exp1 (l : Launch) (D : va_G) (cI cB : ClassId) (x d la t ba tt : Nat) (ad : Nat → Nat) (V : Int) (tx : List Int) (B : Int64) : Ct l y_Fm_exponent (ws_Fm_exponent) 0 (AX x d la t ba) [.ref (ad 1), .long B] (XW D cI cB x d la t ba tt ad V tx) (zR (some (.int (iz (exB 23 256 B)))) (XW D cI cB x d la t ba tt ad V tx)) := by
  refine z_body zSt_XW (by decide +kernel) rfl (Nat.le_of_ble_eq_true rfl) ?_
  intro p e s m args below meth c ls hx hb hml hr hlk hts0 hown hpre0 H locs hpre hS hl
  have hts : ∀ w ∈ TBL, w.before args s = true := fun w hw => hts0 w (List.mem_cons_of_mem _ hw)
  have hl : lv_has ls 3 [(0, .ref (ad 1)), (1, .long B)] := hl
  have hw := hpre
  have hst0 := hpre0.st
  refine lv_lload_n hx hb d_Fm_exp1_0 rfl (lv_at hl 1 rfl) ?_
  refine lv_aload_n hx hb d_Fm_exp1_1 rfl (lv_at hl 0 rfl) ?_
  refine va_getE hx hb hst0.2.2 (i := 1) (by decide) hS hown (List.mem_of_getElem? (i := 0) rfl) (hts _ tw_532) (fun _ h9 => h9) d_Fm_exp1_2 ?_
  refine z_topi (y := iz (23)) (by decide) ?_
  refine lv_lushr hx hb d_Fm_exp1_5 rfl ?_
  refine lv_l2i hx hb d_Fm_exp1_6 rfl ?_
  refine lv_aload_n hx hb d_Fm_exp1_7 rfl (lv_at hl 0 rfl) ?_
  refine va_getE hx hb hst0.2.2 (i := 1) (by decide) hS hown (List.mem_of_getElem? (i := 1) rfl) (hts _ tw_533) (fun _ h9 => h9) d_Fm_exp1_8 ?_
  refine z_topi (y := iz (255)) (by decide) ?_
  refine lv_iand hx hb d_Fm_exp1_11 ?_
  exact z_iret hx hb hr hlk hS (zR_st zSt_XW) ⟨by rw [exB_eq1], hw⟩ d_Fm_exp1_12
theorem d_Fm_fr1_0 : decode b_Fm_fraction 0 = .ok (.lload_n 1, 1) := by decide +kernel
theorem d_Fm_fr1_1 : decode b_Fm_fraction 1 = .ok (.lconst 1, 1) := by decide +kernel
theorem d_Fm_fr1_2 : decode b_Fm_fraction 2 = .ok (.aload_n 0, 1) := by decide +kernel
theorem d_Fm_fr1_3 : decode b_Fm_fraction 3 = .ok (.getfield 29, 3) := by decide +kernel
theorem d_Fm_fr1_6 : decode b_Fm_fraction 6 = .ok (.lshl, 1) := by decide +kernel
theorem d_Fm_fr1_7 : decode b_Fm_fraction 7 = .ok (.lconst 1, 1) := by decide +kernel
theorem d_Fm_fr1_8 : decode b_Fm_fraction 8 = .ok (.lsub, 1) := by decide +kernel
theorem d_Fm_fr1_9 : decode b_Fm_fraction 9 = .ok (.land, 1) := by decide +kernel
theorem d_Fm_fr1_10 : decode b_Fm_fraction 10 = .ok (.lreturn, 1) := by decide +kernel
set_option maxHeartbeats 4000000 in
set_option maxRecDepth 100000 in
theorem c_Fm_fr1 (l : Launch) (D : va_G) (cI cB : ClassId) (x d la t ba tt : Nat) (ad : Nat → Nat) (V : Int) (tx : List Int) (B : Int64) : Ct l y_Fm_fraction (ws_Fm_fraction) 0 (AX x d la t ba) [.ref (ad 1), .long B] (XW D cI cB x d la t ba tt ad V tx) (zR (some (.long (lz (frB 23 B)))) (XW D cI cB x d la t ba tt ad V tx)) := by
  refine z_body zSt_XW (by decide +kernel) rfl (Nat.le_of_ble_eq_true rfl) ?_
  intro p e s m args below meth c ls hx hb hml hr hlk hts0 hown hpre0 H locs hpre hS hl
  have hts : ∀ w ∈ TBL, w.before args s = true := fun w hw => hts0 w (List.mem_cons_of_mem _ hw)
  have hl : lv_has ls 3 [(0, .ref (ad 1)), (1, .long B)] := hl
  have hw := hpre
  have hst0 := hpre0.st
  refine lv_lload_n hx hb d_Fm_fr1_0 rfl (lv_at hl 1 rfl) ?_
  refine lv_lconst (v := lz 1) hx hb d_Fm_fr1_1 (by decide) ?_
  refine lv_aload_n hx hb d_Fm_fr1_2 rfl (lv_at hl 0 rfl) ?_
  refine va_getE hx hb hst0.2.2 (i := 1) (by decide) hS hown (List.mem_of_getElem? (i := 0) rfl) (hts _ tw_532) (fun _ h9 => h9) d_Fm_fr1_3 ?_
  refine z_topi (y := iz (23)) (by decide) ?_
  refine z_lshl hx hb 23 d_Fm_fr1_6 rfl (by decide) ⟨by omega, by omega⟩ ⟨by omega, by omega⟩ ?_
  refine lv_lconst (v := lz 1) hx hb d_Fm_fr1_7 (by decide) ?_
  refine z_lsub hx hb d_Fm_fr1_8 ?_
  refine lv_land hx hb d_Fm_fr1_9 ?_
  exact z_lret hx hb hr hlk hS (zR_st zSt_XW) ⟨by rw [frB_eq1], hw⟩ d_Fm_fr1_10
theorem d_Fm_fin1_0 : decode b_Fm_isFinite 0 = .ok (.aload_n 0, 1) := by decide +kernel
theorem d_Fm_fin1_1 : decode b_Fm_isFinite 1 = .ok (.lload_n 1, 1) := by decide +kernel
theorem d_Fm_fin1_2 : decode b_Fm_isFinite 2 = .ok (.invokevirtual 39, 3) := by decide +kernel
theorem d_Fm_fin1_5 : decode b_Fm_isFinite 5 = .ok (.aload_n 0, 1) := by decide +kernel
theorem d_Fm_fin1_6 : decode b_Fm_isFinite 6 = .ok (.getfield 33, 3) := by decide +kernel
theorem d_Fm_fin1_9 : decode b_Fm_isFinite 9 = .ok (.if_icmp .eq (7), 3) := by decide +kernel
theorem d_Fm_fin1_12 : decode b_Fm_isFinite 12 = .ok (.iconst 1, 1) := by decide +kernel
theorem d_Fm_fin1_13 : decode b_Fm_isFinite 13 = .ok (.goto (4), 3) := by decide +kernel
theorem d_Fm_fin1_16 : decode b_Fm_isFinite 16 = .ok (.iconst 0, 1) := by decide +kernel
theorem d_Fm_fin1_17 : decode b_Fm_isFinite 17 = .ok (.ireturn, 1) := by decide +kernel
set_option maxHeartbeats 4000000 in
set_option maxRecDepth 100000 in
theorem c_Fm_fin1 (l : Launch) (D : va_G) (cI cB : ClassId) (x d la t ba tt : Nat) (ad : Nat → Nat) (V : Int) (tx : List Int) (B : Int64) : Ct l y_Fm_isFinite (ws_Fm_isFinite) 1 (AX x d la t ba) [.ref (ad 1), .long B] (XW D cI cB x d la t ba tt ad V tx) (zR (some (.int (iz (if exB 23 256 B = 255 then 0 else 1)))) (XW D cI cB x d la t ba tt ad V tx)) := by
  refine z_body zSt_XW (by decide +kernel) rfl (Nat.le_of_ble_eq_true rfl) ?_
  intro p e s m args below meth c ls hx hb hml hr hlk hts0 hown hpre0 H locs hpre hS hl
  have hts : ∀ w ∈ TBL, w.before args s = true := fun w hw => hts0 w (List.mem_cons_of_mem _ hw)
  have hl : lv_has ls 3 [(0, .ref (ad 1)), (1, .long B)] := hl
  have hw := hpre
  have hst0 := hpre0.st
  refine lv_aload_n hx hb d_Fm_fin1_0 rfl (lv_at hl 0 rfl) ?_
  refine lv_lload_n hx hb d_Fm_fin1_1 rfl (lv_at hl 1 rfl) ?_
  have hct := c_Fm_exp1 l D cI cB x d la t ba tt ad V tx B
  refine z_go (va_runV (As := [.long B]) (rest := []) ⟨hx, hb, hml, hown, hts⟩ hct.2 (z_cwV hts w_Fm_exponent tw_157 (by decide)) (z_preV hct.1 (va_recvE hst0.2.2 (i := 1) (by decide) hS) hw) rfl rfl hl.1 rfl (lv_room (Nat.le_of_ble_eq_true rfl)) d_Fm_fin1_2 ⟨Nat.zero_le _, Nat.zero_le _⟩) hS (fun _ h9 => h9) (fun v9 t9 H locs hv9 hp9 hz9 hk9 hS => ?_)
  obtain ⟨rfl, hw⟩ := hp9
  have hw := XW.moved hv9.symm hw
  refine W.eq (g2 := F0 m 5 ls [.int (iz (exB 23 256 B))]) rfl ?_
  have hxr := exB_r 23 256 (by decide) B
  refine lv_aload_n hx hb d_Fm_fin1_5 rfl (lv_at hl 0 rfl) ?_
  refine va_getE hx hb hst0.2.2 (i := 1) (by decide) hS hown (List.mem_of_getElem? (i := 1) rfl) (hts _ tw_533) (fun _ h9 => h9) d_Fm_fin1_6 ?_
  refine z_topi (y := iz (255)) (by decide) ?_
  refine z_icmp_eq (tgt := 16) hx hb d_Fm_fin1_9 rfl ⟨by omega, by omega⟩ ⟨by omega, by omega⟩ (fun hc9 => ?_) (fun hc9 => ?_)
  · refine lv_iconst (v := iz 0) hx hb d_Fm_fin1_16 rfl ?_
    exact z_zret hx hb hr rfl hlk hS (zR_st zSt_XW) ⟨by first | rw [if_pos hc9] | rw [if_neg hc9], hw⟩ d_Fm_fin1_17
  · refine lv_iconst (v := iz 1) hx hb d_Fm_fin1_12 rfl ?_
    refine lv_goto (tgt := 17) hx hb d_Fm_fin1_13 rfl ?_
    exact z_zret hx hb hr rfl hlk hS (zR_st zSt_XW) ⟨by first | rw [if_pos hc9] | rw [if_neg hc9], hw⟩ d_Fm_fin1_17
theorem d_Fm_inf1_0 : decode b_Fm_isInfinity 0 = .ok (.aload_n 0, 1) := by decide +kernel
theorem d_Fm_inf1_1 : decode b_Fm_isInfinity 1 = .ok (.lload_n 1, 1) := by decide +kernel
theorem d_Fm_inf1_2 : decode b_Fm_isInfinity 2 = .ok (.invokevirtual 43, 3) := by decide +kernel
theorem d_Fm_inf1_5 : decode b_Fm_isInfinity 5 = .ok (.ifCond .ne (17), 3) := by decide +kernel
theorem d_Fm_inf1_8 : decode b_Fm_isInfinity 8 = .ok (.aload_n 0, 1) := by decide +kernel
theorem d_Fm_inf1_9 : decode b_Fm_isInfinity 9 = .ok (.lload_n 1, 1) := by decide +kernel
theorem d_Fm_inf1_10 : decode b_Fm_isInfinity 10 = .ok (.invokevirtual 47, 3) := by decide +kernel
theorem d_Fm_inf1_13 : decode b_Fm_isInfinity 13 = .ok (.lconst 0, 1) := by decide +kernel
theorem d_Fm_inf1_14 : decode b_Fm_isInfinity 14 = .ok (.lcmp, 1) := by decide +kernel
theorem d_Fm_inf1_15 : decode b_Fm_isInfinity 15 = .ok (.ifCond .ne (7), 3) := by decide +kernel
theorem d_Fm_inf1_18 : decode b_Fm_isInfinity 18 = .ok (.iconst 1, 1) := by decide +kernel
theorem d_Fm_inf1_19 : decode b_Fm_isInfinity 19 = .ok (.goto (4), 3) := by decide +kernel
theorem d_Fm_inf1_22 : decode b_Fm_isInfinity 22 = .ok (.iconst 0, 1) := by decide +kernel
theorem d_Fm_inf1_23 : decode b_Fm_isInfinity 23 = .ok (.ireturn, 1) := by decide +kernel
set_option maxHeartbeats 4000000 in
set_option maxRecDepth 100000 in
theorem c_Fm_inf1 (l : Launch) (D : va_G) (cI cB : ClassId) (x d la t ba tt : Nat) (ad : Nat → Nat) (V : Int) (tx : List Int) (B : Int64) : Ct l y_Fm_isInfinity (ws_Fm_isInfinity) 2 (AX x d la t ba) [.ref (ad 1), .long B] (XW D cI cB x d la t ba tt ad V tx) (zR (some (.int (iz (if exB 23 256 B = 255 ∧ frB 23 B = 0 then 1 else 0)))) (XW D cI cB x d la t ba tt ad V tx)) := by
  refine z_body zSt_XW (by decide +kernel) rfl (Nat.le_of_ble_eq_true rfl) ?_
  intro p e s m args below meth c ls hx hb hml hr hlk hts0 hown hpre0 H locs hpre hS hl
  have hts : ∀ w ∈ TBL, w.before args s = true := fun w hw => hts0 w (List.mem_cons_of_mem _ hw)
  have hl : lv_has ls 3 [(0, .ref (ad 1)), (1, .long B)] := hl
  have hw := hpre
  have hst0 := hpre0.st
  refine lv_aload_n hx hb d_Fm_inf1_0 rfl (lv_at hl 0 rfl) ?_
  refine lv_lload_n hx hb d_Fm_inf1_1 rfl (lv_at hl 1 rfl) ?_
  have hct := c_Fm_fin1 l D cI cB x d la t ba tt ad V tx B
  refine z_go (va_runV (As := [.long B]) (rest := []) ⟨hx, hb, hml, hown, hts⟩ hct.2 (z_cwV hts w_Fm_isFinite tw_166 (by decide)) (z_preV hct.1 (va_recvE hst0.2.2 (i := 1) (by decide) hS) hw) rfl rfl hl.1 rfl (lv_room (Nat.le_of_ble_eq_true rfl)) d_Fm_inf1_2 ⟨Nat.zero_le _, Nat.zero_le _⟩) hS (fun _ h9 => h9) (fun v9 t9 H locs hv9 hp9 hz9 hk9 hS => ?_)
  obtain ⟨rfl, hw⟩ := hp9
  have hw := XW.moved hv9.symm hw
  refine W.eq (g2 := F0 m 5 ls [.int (iz (if exB 23 256 B = 255 then 0 else 1))]) rfl ?_
  refine z_if_ne (tgt := 22) hx hb d_Fm_inf1_5 rfl (by split <;> exact ⟨by omega, by omega⟩) (fun hc5 => ?_) (fun hc5 => ?_)
  · refine lv_iconst (v := iz 0) hx hb d_Fm_inf1_22 rfl ?_
    exact z_zret hx hb hr rfl hlk hS (zR_st zSt_XW) ⟨by
        first
          | (rw [if_neg (fun h8 => hc5 (if_pos h8.1))])
          | (rw [if_neg (fun h8 => hc14 h8.2)])
          | (rw [if_pos ⟨by by_cases h8 : exB 23 256 B = 255; exact h8; rw [if_neg h8] at hc5; omega, hc14⟩]), hw⟩ d_Fm_inf1_23
  · refine lv_aload_n hx hb d_Fm_inf1_8 rfl (lv_at hl 0 rfl) ?_
    refine lv_lload_n hx hb d_Fm_inf1_9 rfl (lv_at hl 1 rfl) ?_
    have hct := c_Fm_fr1 l D cI cB x d la t ba tt ad V tx B
    refine z_go (va_runV (As := [.long B]) (rest := []) ⟨hx, hb, hml, hown, hts⟩ hct.2 (z_cwV hts w_Fm_fraction tw_167 (by decide)) (z_preV hct.1 (va_recvE hst0.2.2 (i := 1) (by decide) hS) hw) rfl rfl hl.1 rfl (lv_room (Nat.le_of_ble_eq_true rfl)) d_Fm_inf1_10 ⟨Nat.zero_le _, Nat.zero_le _⟩) hS (fun _ h9 => h9) (fun v9 t9 H locs hv9 hp9 hz9 hk9 hS => ?_)
    obtain ⟨rfl, hw⟩ := hp9
    have hw := XW.moved hv9.symm hw
    refine W.eq (g2 := F0 m 13 ls [.long (lz (frB 23 B))]) rfl ?_
    have hfr := frB_r 23 B (by decide)
    refine lv_lconst (v := lz 0) hx hb d_Fm_inf1_13 (by decide) ?_
    refine z_lif_ne (tgt := 22) hx hb d_Fm_inf1_14 d_Fm_inf1_15 rfl ⟨by omega, by omega⟩ ⟨by omega, by omega⟩ (fun hc14 => ?_) (fun hc14 => ?_)
    · refine lv_iconst (v := iz 0) hx hb d_Fm_inf1_22 rfl ?_
      exact z_zret hx hb hr rfl hlk hS (zR_st zSt_XW) ⟨by
          first
            | (rw [if_neg (fun h8 => hc5 (if_pos h8.1))])
            | (rw [if_neg (fun h8 => hc14 h8.2)])
            | (rw [if_pos ⟨by by_cases h8 : exB 23 256 B = 255; exact h8; rw [if_neg h8] at hc5; omega, hc14⟩]), hw⟩ d_Fm_inf1_23
    · refine lv_iconst (v := iz 1) hx hb d_Fm_inf1_18 rfl ?_
      refine lv_goto (tgt := 23) hx hb d_Fm_inf1_19 rfl ?_
      exact z_zret hx hb hr rfl hlk hS (zR_st zSt_XW) ⟨by
          first
            | (rw [if_neg (fun h8 => hc5 (if_pos h8.1))])
            | (rw [if_neg (fun h8 => hc14 h8.2)])
            | (rw [if_pos ⟨by by_cases h8 : exB 23 256 B = 255; exact h8; rw [if_neg h8] at hc5; omega, hc14⟩]), hw⟩ d_Fm_inf1_23
theorem d_Fm_coef1_0 : decode b_Fm_coefficient 0 = .ok (.aload_n 0, 1) := by decide +kernel
theorem d_Fm_coef1_1 : decode b_Fm_coefficient 1 = .ok (.lload_n 1, 1) := by decide +kernel
theorem d_Fm_coef1_2 : decode b_Fm_coefficient 2 = .ok (.invokevirtual 39, 3) := by decide +kernel
theorem d_Fm_coef1_5 : decode b_Fm_coefficient 5 = .ok (.ifCond .ne (7), 3) := by decide +kernel
theorem d_Fm_coef1_8 : decode b_Fm_coefficient 8 = .ok (.lconst 0, 1) := by decide +kernel
theorem d_Fm_coef1_9 : decode b_Fm_coefficient 9 = .ok (.goto (9), 3) := by decide +kernel
theorem d_Fm_coef1_12 : decode b_Fm_coefficient 12 = .ok (.lconst 1, 1) := by decide +kernel
theorem d_Fm_coef1_13 : decode b_Fm_coefficient 13 = .ok (.aload_n 0, 1) := by decide +kernel
theorem d_Fm_coef1_14 : decode b_Fm_coefficient 14 = .ok (.getfield 29, 3) := by decide +kernel
theorem d_Fm_coef1_17 : decode b_Fm_coefficient 17 = .ok (.lshl, 1) := by decide +kernel
theorem d_Fm_coef1_18 : decode b_Fm_coefficient 18 = .ok (.lstore_n 3, 1) := by decide +kernel
theorem d_Fm_coef1_19 : decode b_Fm_coefficient 19 = .ok (.lload_n 3, 1) := by decide +kernel
theorem d_Fm_coef1_20 : decode b_Fm_coefficient 20 = .ok (.aload_n 0, 1) := by decide +kernel
theorem d_Fm_coef1_21 : decode b_Fm_coefficient 21 = .ok (.lload_n 1, 1) := by decide +kernel
theorem d_Fm_coef1_22 : decode b_Fm_coefficient 22 = .ok (.invokevirtual 47, 3) := by decide +kernel
theorem d_Fm_coef1_25 : decode b_Fm_coefficient 25 = .ok (.lor, 1) := by decide +kernel
theorem d_Fm_coef1_26 : decode b_Fm_coefficient 26 = .ok (.lreturn, 1) := by decide +kernel
set_option maxHeartbeats 4000000 in
set_option maxRecDepth 100000 in
theorem c_Fm_coef1 (l : Launch) (D : va_G) (cI cB : ClassId) (x d la t ba tt : Nat) (ad : Nat → Nat) (V : Int) (tx : List Int) (B : Int64) : Ct l y_Fm_coefficient (ws_Fm_coefficient) 1 (AX x d la t ba) [.ref (ad 1), .long B] (XW D cI cB x d la t ba tt ad V tx) (zR (some (.long (lz (cfB 23 256 B)))) (XW D cI cB x d la t ba tt ad V tx)) := by
  refine z_body zSt_XW (by decide +kernel) rfl (Nat.le_of_ble_eq_true rfl) ?_
  intro p e s m args below meth c ls hx hb hml hr hlk hts0 hown hpre0 H locs hpre hS hl
  have hts : ∀ w ∈ TBL, w.before args s = true := fun w hw => hts0 w (List.mem_cons_of_mem _ hw)
  have hl : lv_has ls 5 [(0, .ref (ad 1)), (1, .long B)] := hl
  have hw := hpre
  have hst0 := hpre0.st
  refine lv_aload_n hx hb d_Fm_coef1_0 rfl (lv_at hl 0 rfl) ?_
  refine lv_lload_n hx hb d_Fm_coef1_1 rfl (lv_at hl 1 rfl) ?_
  have hct := c_Fm_exp1 l D cI cB x d la t ba tt ad V tx B
  refine z_go (va_runV (As := [.long B]) (rest := []) ⟨hx, hb, hml, hown, hts⟩ hct.2 (z_cwV hts w_Fm_exponent tw_157 (by decide)) (z_preV hct.1 (va_recvE hst0.2.2 (i := 1) (by decide) hS) hw) rfl rfl hl.1 rfl (lv_room (Nat.le_of_ble_eq_true rfl)) d_Fm_coef1_2 ⟨Nat.zero_le _, Nat.zero_le _⟩) hS (fun _ h9 => h9) (fun v9 t9 H locs hv9 hp9 hz9 hk9 hS => ?_)
  obtain ⟨rfl, hw⟩ := hp9
  have hw := XW.moved hv9.symm hw
  refine W.eq (g2 := F0 m 5 ls [.int (iz (exB 23 256 B))]) rfl ?_
  have hxr := exB_r 23 256 (by decide) B
  refine z_if_ne (tgt := 12) hx hb d_Fm_coef1_5 rfl ⟨by omega, by omega⟩ (fun hc5 => ?_) (fun hc5 => ?_)
  · refine lv_lconst (v := lz 1) hx hb d_Fm_coef1_12 (by decide) ?_
    refine lv_aload_n hx hb d_Fm_coef1_13 rfl (lv_at hl 0 rfl) ?_
    refine va_getE hx hb hst0.2.2 (i := 1) (by decide) hS hown (List.mem_of_getElem? (i := 0) rfl) (hts _ tw_532) (fun _ h9 => h9) d_Fm_coef1_14 ?_
    refine z_topi (y := iz (23)) (by decide) ?_
    refine z_lshl hx hb 23 d_Fm_coef1_17 rfl (by decide) ⟨by omega, by omega⟩ ⟨by omega, by omega⟩ ?_
    refine lv_lstore_n hx hb d_Fm_coef1_18 rfl hl (by decide) rfl (fun ls hl => ?_)
    have hl : lv_has ls 5 [(3, .long (lz (1 * 2 ^ 23))), (0, .ref (ad 1)), (1, .long B)] := hl
    refine lv_lload_n hx hb d_Fm_coef1_19 rfl (lv_at hl 0 rfl) ?_
    refine lv_aload_n hx hb d_Fm_coef1_20 rfl (lv_at hl 1 rfl) ?_
    refine lv_lload_n hx hb d_Fm_coef1_21 rfl (lv_at hl 2 rfl) ?_
    have hct := c_Fm_fr1 l D cI cB x d la t ba tt ad V tx B
    refine z_go (va_runV (As := [.long B]) (rest := [.long (lz (1 * 2 ^ 23))]) ⟨hx, hb, hml, hown, hts⟩ hct.2 (z_cwV hts w_Fm_fraction tw_167 (by decide)) (z_preV hct.1 (va_recvE hst0.2.2 (i := 1) (by decide) hS) hw) rfl rfl hl.1 rfl (lv_room (Nat.le_of_ble_eq_true rfl)) d_Fm_coef1_22 ⟨Nat.zero_le _, Nat.zero_le _⟩) hS (fun _ h9 => h9) (fun v9 t9 H locs hv9 hp9 hz9 hk9 hS => ?_)
    obtain ⟨rfl, hw⟩ := hp9
    have hw := XW.moved hv9.symm hw
    refine W.eq (g2 := F0 m 25 ls [.long (lz (frB 23 B)), .long (lz (1 * 2 ^ 23))]) rfl ?_
    refine lv_lor hx hb d_Fm_coef1_25 ?_
    exact z_lret hx hb hr hlk hS (zR_st zSt_XW) ⟨by first | rw [cfB_0 (by decide) hc5] | rw [cfB_1 (by decide) hc5], hw⟩ d_Fm_coef1_26
  · refine lv_lconst (v := lz 0) hx hb d_Fm_coef1_8 (by decide) ?_
    refine lv_goto (tgt := 18) hx hb d_Fm_coef1_9 rfl ?_
    refine lv_lstore_n hx hb d_Fm_coef1_18 rfl hl (by decide) rfl (fun ls hl => ?_)
    have hl : lv_has ls 5 [(3, .long (lz 0)), (0, .ref (ad 1)), (1, .long B)] := hl
    refine lv_lload_n hx hb d_Fm_coef1_19 rfl (lv_at hl 0 rfl) ?_
    refine lv_aload_n hx hb d_Fm_coef1_20 rfl (lv_at hl 1 rfl) ?_
    refine lv_lload_n hx hb d_Fm_coef1_21 rfl (lv_at hl 2 rfl) ?_
    have hct := c_Fm_fr1 l D cI cB x d la t ba tt ad V tx B
    refine z_go (va_runV (As := [.long B]) (rest := [.long (lz 0)]) ⟨hx, hb, hml, hown, hts⟩ hct.2 (z_cwV hts w_Fm_fraction tw_167 (by decide)) (z_preV hct.1 (va_recvE hst0.2.2 (i := 1) (by decide) hS) hw) rfl rfl hl.1 rfl (lv_room (Nat.le_of_ble_eq_true rfl)) d_Fm_coef1_22 ⟨Nat.zero_le _, Nat.zero_le _⟩) hS (fun _ h9 => h9) (fun v9 t9 H locs hv9 hp9 hz9 hk9 hS => ?_)
    obtain ⟨rfl, hw⟩ := hp9
    have hw := XW.moved hv9.symm hw
    refine W.eq (g2 := F0 m 25 ls [.long (lz (frB 23 B)), .long (lz 0)]) rfl ?_
    refine lv_lor hx hb d_Fm_coef1_25 ?_
    exact z_lret hx hb hr hlk hS (zR_st zSt_XW) ⟨by first | rw [cfB_0 (by decide) hc5] | rw [cfB_1 (by decide) hc5], hw⟩ d_Fm_coef1_26
theorem d_Fm_pow1_0 : decode b_Fm_power 0 = .ok (.aload_n 0, 1) := by decide +kernel
theorem d_Fm_pow1_1 : decode b_Fm_power 1 = .ok (.getfield 36, 3) := by decide +kernel
theorem d_Fm_pow1_4 : decode b_Fm_power 4 = .ok (.aload_n 0, 1) := by decide +kernel
theorem d_Fm_pow1_5 : decode b_Fm_power 5 = .ok (.lload_n 1, 1) := by decide +kernel
theorem d_Fm_pow1_6 : decode b_Fm_power 6 = .ok (.invokevirtual 39, 3) := by decide +kernel
theorem d_Fm_pow1_9 : decode b_Fm_power 9 = .ok (.iconst 1, 1) := by decide +kernel
theorem d_Fm_pow1_10 : decode b_Fm_power 10 = .ok (.isub, 1) := by decide +kernel
theorem d_Fm_pow1_11 : decode b_Fm_power 11 = .ok (.iconst 0, 1) := by decide +kernel
theorem d_Fm_pow1_12 : decode b_Fm_power 12 = .ok (.invokestatic 51, 3) := by decide +kernel
theorem d_Fm_pow1_15 : decode b_Fm_power 15 = .ok (.iadd, 1) := by decide +kernel
theorem d_Fm_pow1_16 : decode b_Fm_power 16 = .ok (.ireturn, 1) := by decide +kernel
set_option maxHeartbeats 4000000 in
set_option maxRecDepth 100000 in
theorem c_Fm_pow1 (l : Launch) (D : va_G) (cI cB : ClassId) (x d la t ba tt : Nat) (ad : Nat → Nat) (V : Int) (tx : List Int) (B : Int64) : Ct l y_Fm_power (ws_Fm_power) 1 (AX x d la t ba) [.ref (ad 1), .long B] (XW D cI cB x d la t ba tt ad V tx) (zR (some (.int (iz (-149 + max (exB 23 256 B - 1) 0)))) (XW D cI cB x d la t ba tt ad V tx)) := by
  refine z_body zSt_XW (by decide +kernel) rfl (Nat.le_of_ble_eq_true rfl) ?_
  intro p e s m args below meth c ls hx hb hml hr hlk hts0 hown hpre0 H locs hpre hS hl
  have hts : ∀ w ∈ TBL, w.before args s = true := fun w hw => hts0 w (List.mem_cons_of_mem _ hw)
  have hl : lv_has ls 3 [(0, .ref (ad 1)), (1, .long B)] := hl
  have hw := hpre
  have hst0 := hpre0.st
  refine lv_aload_n hx hb d_Fm_pow1_0 rfl (lv_at hl 0 rfl) ?_
  refine va_getE hx hb hst0.2.2 (i := 1) (by decide) hS hown (List.mem_of_getElem? (i := 2) rfl) (hts _ tw_536) (fun _ h9 => h9) d_Fm_pow1_1 ?_
  refine z_topi (y := iz (-149)) (by decide) ?_
  refine lv_aload_n hx hb d_Fm_pow1_4 rfl (lv_at hl 0 rfl) ?_
  refine lv_lload_n hx hb d_Fm_pow1_5 rfl (lv_at hl 1 rfl) ?_
  have hct := c_Fm_exp1 l D cI cB x d la t ba tt ad V tx B
  refine z_go (va_runV (As := [.long B]) (rest := [.int (iz (-149))]) ⟨hx, hb, hml, hown, hts⟩ hct.2 (z_cwV hts w_Fm_exponent tw_157 (by decide)) (z_preV hct.1 (va_recvE hst0.2.2 (i := 1) (by decide) hS) hw) rfl rfl hl.1 rfl (lv_room (Nat.le_of_ble_eq_true rfl)) d_Fm_pow1_6 ⟨Nat.zero_le _, Nat.zero_le _⟩) hS (fun _ h9 => h9) (fun v9 t9 H locs hv9 hp9 hz9 hk9 hS => ?_)
  obtain ⟨rfl, hw⟩ := hp9
  have hw := XW.moved hv9.symm hw
  refine W.eq (g2 := F0 m 9 ls [.int (iz (exB 23 256 B)), .int (iz (-149))]) rfl ?_
  have hxr := exB_r 23 256 (by decide) B
  refine lv_iconst (v := iz 1) hx hb d_Fm_pow1_9 rfl ?_
  refine z_isub hx hb d_Fm_pow1_10 ?_
  refine lv_iconst (v := iz 0) hx hb d_Fm_pow1_11 rfl ?_
  refine z_mmax hx hb (hml.trans hl.1.symm) hown (hts _ tw_241) (hts _ tw_242) (hts _ tw_16) (hts _ twm_max) (Nat.le_of_ble_eq_true rfl) (Nat.le_of_ble_eq_true rfl) (Nat.zero_le _) (Nat.zero_le _) ⟨by omega, by omega⟩ ⟨by omega, by omega⟩ d_Fm_pow1_12 ?_
  refine z_iadd hx hb d_Fm_pow1_15 ?_
  exact z_iret hx hb hr hlk hS (zR_st zSt_XW) ⟨rfl, hw⟩ d_Fm_pow1_16
end
section
/-! the leading place -/
theorem lead_ex {V : Int} (h : 0 ≤ V) : ∃ r, IsLead V r := by
  by_cases h0 : V = 0
  · exact ⟨0, Or.inl ⟨h0, rfl⟩⟩
  · have key : ∀ n : Nat, V < 10 ^ n → ∃ k : Nat, 10 ^ k ≤ V ∧ V < 10 ^ (k + 1) := by
      intro n
      induction n with
      | zero => intro h1; rw [Int.pow_zero] at h1; omega
      | succ n ih =>
        intro h1
        by_cases h2 : V < 10 ^ n
        · exact ih h2
        · exact ⟨n, by omega, h1⟩
    have h3 : ∀ n : Nat, (n : Int) < 10 ^ n := by
      intro n
      induction n with
      | zero => decide
      | succ n ih => rw [Int.pow_succ]; omega
    obtain ⟨k, h4, h5⟩ := key V.toNat (by have := h3 V.toNat; omega)
    exact ⟨(k : Int) - 1080, Or.inr ⟨by omega, by rw [show ((k : Int) - 1080 + 1080).toNat = k by omega]; exact h4, by rw [show ((k : Int) - 1080 + 1080).toNat = k by omega]; exact h5⟩⟩
noncomputable def lead (V : Int) : Int := Classical.epsilon (fun r => IsLead V r)
theorem lead_is {V : Int} (h : 0 ≤ V) : IsLead V (lead V) := Classical.epsilon_spec (lead_ex h)
theorem lead_eq {V r : Int} (h : 0 ≤ V) (hr : IsLead V r) : lead V = r := IsLead.uniq (lead_is h) hr
/-! rounding at a place: all below is 0 -/
def rnd (V t : Int) : Int := if t < -1080 then V else V / 10 ^ (t + 1080).toNat * 10 ^ (t + 1080).toNat + (if 5 ≤ dgt V (t - 1) then 10 ^ (t + 1080).toNat else 0)
theorem rup_rnd {V t : Int} (ht : -1080 ≤ t) : ∃ z, rup V t / 10 ^ (t + 1080).toNat = z ∧ rnd V t = z * 10 ^ (t + 1080).toNat ∧ z * 10 ^ (t + 1080).toNat ≤ rup V t ∧ rup V t < z * 10 ^ (t + 1080).toNat + 10 ^ (t + 1080).toNat ∧ (0 ≤ V → 0 ≤ z) := by
  unfold rup rnd
  rw [if_neg (show ¬ t < -1080 by omega)]
  have hp := pow_pos10 (t + 1080).toNat
  generalize (10 : Int) ^ (t + 1080).toNat = T at hp ⊢
  have e1 := Int.emod_add_mul_ediv V T
  have e2 := Int.emod_nonneg V (show T ≠ 0 by omega)
  have e3 := Int.emod_lt_of_pos V hp
  by_cases h : 5 ≤ dgt V (t - 1)
  · rw [if_pos h, if_pos h]
    refine ⟨V / T + 1, ?_, ?_, ?_, ?_, fun h0 => ?_⟩
    · have := Int.add_mul_ediv_right V 1 (show T ≠ 0 by omega)
      rwa [Int.one_mul] at this
    · rw [Int.add_mul, Int.one_mul]
    · rw [Int.add_mul, Int.one_mul, Int.mul_comm (V / T)]; omega
    · rw [Int.add_mul, Int.one_mul, Int.mul_comm (V / T)]; omega
    · have := Int.ediv_nonneg h0 (Int.le_of_lt hp)
      omega
  · rw [if_neg h, if_neg h]
    refine ⟨V / T, rfl, ?_, ?_, ?_, fun h0 => Int.ediv_nonneg h0 (Int.le_of_lt hp)⟩
    · omega
    · rw [Int.mul_comm (V / T)]; omega
    · rw [Int.mul_comm (V / T)]; omega
theorem rup_low {V t : Int} (ht : t < -1080) : rup V t = V ∧ rnd V t = V := by
  unfold rup rnd
  rw [if_pos ht, if_neg]
  · exact ⟨rfl, rfl⟩
  · unfold dgt
    rw [if_pos (by omega)]
    decide
/-- from the place on, both have the same digits -/
theorem rup_dgt {V t k : Int} (h : t ≤ k) : dgt (rup V t) k = dgt (rnd V t) k := by
  by_cases ht : t < -1080
  · rw [(rup_low ht).1, (rup_low ht).2]
  · obtain ⟨z, h1, h2, -⟩ := rup_rnd (V := V) (t := t) (by omega)
    unfold dgt
    rw [if_neg (by omega), if_neg (by omega), show (k + 1080).toNat = (t + 1080).toNat + (k - t).toNat by omega, Int.pow_add]
    have hp := pow_pos10 (t + 1080).toNat
    rw [← Int.ediv_ediv_of_nonneg (Int.le_of_lt hp), ← Int.ediv_ediv_of_nonneg (Int.le_of_lt hp), h1, h2, Int.mul_ediv_cancel _ (by omega)]
theorem mul_lt_iff {a b T : Int} (hT : 0 < T) : a * T < b * T ↔ a < b := ⟨fun h => Int.lt_of_mul_lt_mul_right h (Int.le_of_lt hT), fun h => Int.mul_lt_mul_of_pos_right h hT⟩
theorem mul_le_iff {a b T : Int} (hT : 0 < T) : a * T ≤ b * T ↔ a ≤ b := ⟨fun h => Int.le_of_mul_le_mul_right h hT, fun h => Int.mul_le_mul_of_nonneg_right h (Int.le_of_lt hT)⟩
/-- a place from t on is the leading one of both or of neither -/
theorem rup_lead {V t r : Int} (h : t ≤ r) (hr : -1080 ≤ r) : (10 ^ (r + 1080).toNat ≤ rup V t ∧ rup V t < 10 ^ ((r + 1080).toNat + 1)) ↔ (10 ^ (r + 1080).toNat ≤ rnd V t ∧ rnd V t < 10 ^ ((r + 1080).toNat + 1)) := by
  by_cases ht : t < -1080
  · rw [(rup_low ht).1, (rup_low ht).2]
  · obtain ⟨z, h1, h2, h3, h4, -⟩ := rup_rnd (V := V) (t := t) (by omega)
    have hp := pow_pos10 (t + 1080).toNat
    rw [h2, show (r + 1080).toNat + 1 = (r - t).toNat + 1 + (t + 1080).toNat by omega, show (r + 1080).toNat = (r - t).toNat + (t + 1080).toNat by omega, Int.pow_add, Int.pow_add 10 ((r - t).toNat + 1)]
    generalize (10 : Int) ^ (t + 1080).toNat = T at *
    generalize (10 : Int) ^ (r - t).toNat = a at *
    generalize (10 : Int) ^ ((r - t).toNat + 1) = b at *
    rw [mul_le_iff hp, mul_lt_iff hp]
    constructor
    · intro ⟨q1, q2⟩
      refine ⟨?_, ?_⟩
      · have h5 : a * T < (z + 1) * T := by rw [Int.add_mul, Int.one_mul]; omega
        have := (mul_lt_iff hp).mp h5
        omega
      · have h5 : z * T < b * T := by omega
        exact (mul_lt_iff hp).mp h5
    · intro ⟨q1, q2⟩
      have h5 := (mul_le_iff hp).mpr q1
      have h6 : (z + 1) * T ≤ b * T := (mul_le_iff hp).mpr (by omega)
      rw [Int.add_mul, Int.one_mul] at h6
      omega
end
section
/-! what a state of the reference is -/
def TxM (g : Int → Int) (n : Int) (tx : List Int) : Prop := n = (tx.length : Int) ∧ tx.length ≤ 4096 ∧ (∀ i : Nat, i < tx.length → g (i : Int) = tx.getD i 0) ∧ ∀ ch ∈ tx, 0 ≤ ch ∧ ch < 128
/-- the number that n digits make -/
def dv (f : Int → Int) : Nat → Int
  | 0 => 0
  | n + 1 => dv f n * 10 + f (n : Int)
/-- a row of n digits, the first at the place p - 1, of a value V that has no other digits -/
def RowOK (f : Int → Int) (n p V : Int) : Prop := (0 ≤ n ∧ n ≤ 1250 ∧ -1500 ≤ p ∧ p ≤ 1500) ∧ (∀ i, 0 ≤ i → i < n → 0 ≤ f i ∧ f i ≤ 9) ∧ (0 < n → 1 ≤ f 0 ∧ 0 ≤ p - n + 1080) ∧ V = dv f n.toNat * 10 ^ (p - n + 1080).toNat
abbrev tysM (cB cL : ClassId) : List (ClassId × FieldType) := [(cB, .byte), (cL, .long)]
def AM (mo rs ex xd li bo cu cd : Nat) : Nat → Prop := fun q => q = mo ∨ q = rs ∨ q = ex ∨ q = xd ∨ q = li ∨ q = bo ∨ q = cu ∨ q = cd
def MWc (D : va_G) (cB cL : ClassId) (mo rs ex xd li bo cu cd : Nat) (code bits least : Int) (rt bt : List Int) (V : Int) (fc : Int → Int) (nc pp : Int) (U : State) (H : Heap) : Prop :=
  ∃ (len used bl : Int) (fr fb lm fe : Int → Int) (ne pe : Int), Wl D vwCl (tysM cB cL) (AM mo rs ex xd li bo cu cd) [(mo, .inr (3, [.ref rs, .int (iz len), .int (iz code), .ref ex, .int (iz bits), .int (iz least), .ref li, .int (iz used), .ref bo, .int (iz bl), .ref cu])), (rs, .inl (cB, 4096, .inl (az fr))), (ex, .inr (4, [.ref xd, .int (iz ne), .int (iz pe)])), (xd, .inl (cB, 1300, .inl (az fe))), (li, .inl (cL, 160, .inr (.inl (azl lm)))), (bo, .inl (cB, 4096, .inl (az fb))), (cu, .inr (4, [.ref cd, .int (iz nc), .int (iz pp)])), (cd, .inl (cB, 1300, .inl (az fc)))] U H ∧ TxM fr len rt ∧ TxM fb bl bt ∧ RowOK fe ne pe V ∧ (-1400 ≤ pe ∧ pe ≤ 1400) ∧ ∀ j, 0 ≤ lm j ∧ lm j < 1000000000
theorem MWc.moved {D : va_G} {cB cL : ClassId} {mo rs ex xd li bo cu cd : Nat} {code bits least : Int} {rt bt : List Int} {V : Int} {fc : Int → Int} {nc pp : Int} {u U : State} {H : Heap} (hv : u.vm.Alike U.vm) (h : MWc D cB cL mo rs ex xd li bo cu cd code bits least rt bt V fc nc pp u H) : MWc D cB cL mo rs ex xd li bo cu cd code bits least rt bt V fc nc pp U H := by
  obtain ⟨len, used, bl, fr, fb, lm, fe, ne, pe, h1, h2⟩ := h
  exact ⟨len, used, bl, fr, fb, lm, fe, ne, pe, Wl.moved hv h1, h2⟩
theorem zSa_MWc {D : va_G} {cB cL : ClassId} {mo rs ex xd li bo cu cd : Nat} {code bits least : Int} {rt bt : List Int} {V : Int} {fc : Int → Int} {nc pp : Int} : zSa (MWc D cB cL mo rs ex xd li bo cu cd code bits least rt bt V fc nc pp) := fun _ _ _ hv h => MWc.moved hv h
theorem zSt_MWc {D : va_G} {cB cL : ClassId} {mo rs ex xd li bo cu cd : Nat} {code bits least : Int} {rt bt : List Int} {V : Int} {fc : Int → Int} {nc pp : Int} : zSt (MWc D cB cL mo rs ex xd li bo cu cd code bits least rt bt V fc nc pp) := zSt_of zSa_MWc
def MW (D : va_G) (cB cL : ClassId) (mo rs ex xd li bo cu cd : Nat) (code bits least : Int) (rt bt : List Int) (V C : Int) (U : State) (H : Heap) : Prop :=
  ∃ (fc : Int → Int) (nc pp : Int), MWc D cB cL mo rs ex xd li bo cu cd code bits least rt bt V fc nc pp U H ∧ RowOK fc nc pp C
theorem MW.moved {D : va_G} {cB cL : ClassId} {mo rs ex xd li bo cu cd : Nat} {code bits least : Int} {rt bt : List Int} {V C : Int} {u U : State} {H : Heap} (hv : u.vm.Alike U.vm) (h : MW D cB cL mo rs ex xd li bo cu cd code bits least rt bt V C u H) : MW D cB cL mo rs ex xd li bo cu cd code bits least rt bt V C U H := by
  obtain ⟨fc, nc, pp, h1, h2⟩ := h
  exact ⟨fc, nc, pp, MWc.moved hv h1, h2⟩
theorem zSa_MW {D : va_G} {cB cL : ClassId} {mo rs ex xd li bo cu cd : Nat} {code bits least : Int} {rt bt : List Int} {V C : Int} : zSa (MW D cB cL mo rs ex xd li bo cu cd code bits least rt bt V C) := fun _ _ _ hv h => MW.moved hv h
theorem zSt_MW {D : va_G} {cB cL : ClassId} {mo rs ex xd li bo cu cd : Nat} {code bits least : Int} {rt bt : List Int} {V C : Int} : zSt (MW D cB cL mo rs ex xd li bo cu cd code bits least rt bt V C) := zSt_of zSa_MW
/-! rows of digits -/
theorem dv_congr {f g : Int → Int} : ∀ {n : Nat}, (∀ j : Int, 0 ≤ j → j < (n : Int) → f j = g j) → dv f n = dv g n
  | 0, _ => rfl
  | n + 1, h => by
    show dv f n * 10 + f (n : Int) = dv g n * 10 + g (n : Int)
    rw [dv_congr (n := n) (fun j h0 h1 => h j h0 (by omega)), h (n : Int) (by omega) (by omega)]
theorem dv_nn {f : Int → Int} : ∀ {n : Nat}, (∀ j : Int, 0 ≤ j → j < (n : Int) → 0 ≤ f j ∧ f j ≤ 9) → 0 ≤ dv f n ∧ dv f n < 10 ^ n
  | 0, _ => ⟨Int.le_refl 0, by show (0 : Int) < 1; decide⟩
  | n + 1, h => by
    show 0 ≤ dv f n * 10 + f (n : Int) ∧ dv f n * 10 + f (n : Int) < 10 ^ (n + 1)
    have h1 := dv_nn (n := n) (fun j h0 h1 => h j h0 (by omega))
    have h2 := h (n : Int) (by omega) (by omega)
    rw [Int.pow_succ]
    generalize (10 : Int) ^ n = z at h1 ⊢
    omega
theorem dv_ge {f : Int → Int} (h0 : 1 ≤ f 0) : ∀ {n : Nat}, (∀ j : Int, 0 ≤ j → j < ((n + 1 : Nat) : Int) → 0 ≤ f j ∧ f j ≤ 9) → 10 ^ n ≤ dv f (n + 1)
  | 0, _ => by
    show 10 ^ 0 ≤ dv f 0 * 10 + f 0
    show (1 : Int) ≤ 0 * 10 + f 0
    omega
  | n + 1, h => by
    show 10 ^ (n + 1) ≤ dv f (n + 1) * 10 + f ((n + 1 : Nat) : Int)
    have h1 := dv_ge h0 (n := n) (fun j h0 h1 => h j h0 (by omega))
    have h2 := h ((n + 1 : Nat) : Int) (by omega) (by omega)
    rw [Int.pow_succ]
    generalize (10 : Int) ^ n = z at h1 ⊢
    omega
theorem dv_split {f : Int → Int} {k : Nat} : ∀ (i : Nat), (∀ j : Int, 0 ≤ j → j < ((k + i : Nat) : Int) → 0 ≤ f j ∧ f j ≤ 9) → ∃ r, dv f (k + i) = dv f k * 10 ^ i + r ∧ 0 ≤ r ∧ r < 10 ^ i
  | 0, _ => ⟨0, by rw [Int.pow_zero, Int.mul_one, Int.add_zero]; rfl, Int.le_refl 0, by decide⟩
  | i + 1, h => by
    obtain ⟨r, h1, h2, h3⟩ := dv_split (f := f) (k := k) i (fun j h0 h1 => h j h0 (by omega))
    have h4 := h ((k + i : Nat) : Int) (by omega) (by omega)
    refine ⟨r * 10 + f ((k + i : Nat) : Int), ?_, ?_, ?_⟩
    · show dv f (k + i) * 10 + f ((k + i : Nat) : Int) = _
      rw [h1, Int.pow_succ, Int.add_mul, Int.mul_assoc, Int.add_assoc]
    · omega
    · rw [Int.pow_succ]
      generalize (10 : Int) ^ i = z at h3 ⊢
      omega
theorem RowOK.nn {f : Int → Int} {n p V : Int} (h : RowOK f n p V) : 0 ≤ V := by
  obtain ⟨h1, h2, h3, h4⟩ := h
  rw [h4]
  exact Int.mul_nonneg (dv_nn (fun j q1 q2 => h2 j q1 (by omega))).1 (Int.le_of_lt (pow_pos10 _))
theorem RowOK.zero {f : Int → Int} {n p V : Int} (h : RowOK f n p V) (h0 : n = 0) : V = 0 := by
  obtain ⟨h1, h2, h3, h4⟩ := h
  rw [h4, h0]
  show 0 * _ = 0
  omega
theorem RowOK.ld {f : Int → Int} {n p V : Int} (h : RowOK f n p V) (h0 : 0 < n) : IsLead V (p - 1) ∧ 0 < V := by
  obtain ⟨h1, h2, h3, h4⟩ := h
  have h5 := h3 h0
  obtain ⟨k, hk⟩ : ∃ k : Nat, n = (k : Int) + 1 := ⟨(n - 1).toNat, by omega⟩
  subst hk
  rw [show ((k : Int) + 1).toNat = k + 1 by omega] at h4
  have h6 := dv_ge h5.1 (n := k) (fun j q1 q2 => h2 j q1 (by omega))
  have h7 := (dv_nn (f := f) (n := k + 1) (fun j q1 q2 => h2 j q1 (by omega))).2
  have hp := pow_pos10 (p - ((k : Int) + 1) + 1080).toNat
  have e1 : (p - 1 + 1080).toNat = k + (p - ((k : Int) + 1) + 1080).toNat := by omega
  have a1 : 10 ^ (p - 1 + 1080).toNat ≤ V := by
    rw [h4, e1, Int.pow_add]
    exact Int.mul_le_mul_of_nonneg_right h6 (Int.le_of_lt hp)
  refine ⟨Or.inr ⟨by omega, a1, ?_⟩, ?_⟩
  · rw [h4, show (p - 1 + 1080).toNat + 1 = (k + 1) + (p - ((k : Int) + 1) + 1080).toNat by omega, Int.pow_add]
    exact Int.mul_lt_mul_of_pos_right h7 hp
  · have := pow_pos10 (p - 1 + 1080).toNat
    omega
/-- a digit of the row -/
theorem RowOK.dig {f : Int → Int} {n p V : Int} (h : RowOK f n p V) {i : Int} (h0 : 0 ≤ i) (hi : i < n) : dgt V (p - 1 - i) = f i := by
  obtain ⟨h1, h2, h3, h4⟩ := h
  have h5 := h3 (by omega)
  obtain ⟨k, rfl⟩ := Int.eq_ofNat_of_zero_le h0
  obtain ⟨j, hj⟩ : ∃ j : Nat, n = (k : Int) + 1 + (j : Int) := ⟨(n - k - 1).toNat, by omega⟩
  subst hj
  rw [show ((k : Int) + 1 + (j : Int)).toNat = k + 1 + j by omega] at h4
  obtain ⟨r, e1, e2, e3⟩ := dv_split (f := f) (k := k + 1) j (fun q q1 q2 => h2 q q1 (by omega))
  unfold dgt
  rw [if_neg (by omega), h4, show (p - 1 - (k : Int) + 1080).toNat = j + (p - ((k : Int) + 1 + (j : Int)) + 1080).toNat by omega, Int.pow_add]
  have hp := pow_pos10 (p - ((k : Int) + 1 + (j : Int)) + 1080).toNat
  have hq := pow_pos10 j
  rw [Int.mul_ediv_mul_of_pos_left _ _ hp, e1, Int.add_comm, Int.add_mul_ediv_right _ _ (by omega), Int.ediv_eq_zero_of_lt e2 e3, Int.zero_add]
  show (dv f k * 10 + f (k : Int)) % 10 = _
  have := h2 (k : Int) (by omega) (by omega)
  omega
/-- below the row there is nothing -/
theorem RowOK.low {f : Int → Int} {n p V : Int} (h : RowOK f n p V) {k : Int} (hk : k < p - n) : dgt V k = 0 := by
  obtain ⟨h1, h2, h3, h4⟩ := h
  unfold dgt
  by_cases hq : k < -1080
  · rw [if_pos hq]
  · rw [if_neg hq, h4, show (p - n + 1080).toNat = (p - n - k - 1).toNat + 1 + (k + 1080).toNat by omega, Int.pow_add, ← Int.mul_assoc, Int.mul_ediv_cancel _ (by have := pow_pos10 (k + 1080).toNat; omega), Int.pow_succ, ← Int.mul_assoc, Int.mul_emod_left]
theorem dgt_zero (k : Int) : dgt 0 k = 0 := by
  unfold dgt
  split
  · rfl
  · rw [Int.zero_ediv]; rfl
/-- a digit of the row at any place -/
theorem RowOK.any {f : Int → Int} {n p V : Int} (h : RowOK f n p V) (i : Int) : (if 0 ≤ i ∧ i < n then f i else 0) = dgt V (lead V - i) := by
  by_cases h0 : n = 0
  · rw [if_neg (by omega), h.zero h0, dgt_zero]
  · have h1 := h.ld (by have := h.1; omega)
    rw [lead_eq h.nn h1.1]
    by_cases h2 : 0 ≤ i ∧ i < n
    · rw [if_pos h2, h.dig h2.1 h2.2]
    · rw [if_neg h2]
      by_cases h3 : i < 0
      · rcases h1.1 with ⟨a, b⟩ | ⟨a, b, c⟩
        · omega
        · exact (dgt_hi (n := (p - 1 + 1080).toNat + 1) h.nn c (by omega)).symm
      · exact (h.low (by omega)).symm
theorem TxM_add {g : Int → Int} {n : Int} {tx : List Int} {ch : Int} (h : TxM g n tx) (hl : tx.length < 4096) (hc : 0 ≤ ch ∧ ch < 128) : TxM (up g n ch) (n + 1) (tx ++ [ch]) := by
  obtain ⟨h1, h2, h3, h4⟩ := h
  refine ⟨by rw [List.length_append, h1]; rfl, by rw [List.length_append]; show tx.length + 1 ≤ 4096; omega, fun i hi => ?_, fun c hm => ?_⟩
  · rw [List.length_append] at hi
    have hi : i < tx.length + 1 := hi
    by_cases hq : i = tx.length
    · subst hq
      rw [h1, up_s]
      simp [List.getD]
    · rw [up_n g ch (by omega), h3 i (by omega)]
      simp only [List.getD]
      rw [List.getElem?_append_left (by omega)]
  · rcases List.mem_append.mp hm with q | q
    · exact h4 c q
    · rw [List.mem_singleton] at q
      subst q
      exact hc
theorem lor_c (fb : Nat) (h : fb ≤ 52) (sz : Int) : lz (sz % 2 ^ fb) ||| lz ((2 ^ fb - 1) + 1) = lz (2 ^ fb + sz % 2 ^ fb) := by
  have hp := pow2_pos fb
  have h1 := Int.emod_nonneg sz (show (2 : Int) ^ fb ≠ 0 by omega)
  have h2 := Int.emod_lt_of_pos sz hp
  have h3 := lz_or (a := 1) (b := sz % 2 ^ fb) fb (by decide) h1 h2 (by
    have h4 : (2 : Int) ^ fb ≤ 2 ^ 52 := by
      have e : (52 : Nat) = fb + (52 - fb) := by omega
      rw [e, Int.pow_add]
      exact le_mul_pow2 _ (Int.le_of_lt hp)
    have h5 : (2 : Int) ^ 52 = 4503599627370496 := by decide
    omega)
  rw [Int.one_mul] at h3
  rw [← h3, show (2 : Int) ^ fb - 1 + 1 = 2 ^ fb by omega]
  refine uN_inj ?_
  rw [uN_or2, uN_or2, Nat.or_comm]
end
section
/-! one more in the last place of a row -/
def MoreI (f h : Int → Int) (n i : Int) : Prop := (-1 ≤ i ∧ i < n) ∧ (∀ j, j ≤ i → h j = f j) ∧ ∀ j, i < j → j < n → h j = 0 ∧ f j = 9
theorem MoreI.start (f : Int → Int) {n : Int} (h : 0 < n) : MoreI f f n (n - 1) := ⟨⟨by omega, by omega⟩, fun _ _ => rfl, fun j h1 h2 => absurd h1 (by omega)⟩
theorem MoreI.step {f h : Int → Int} {n i : Int} (hm : MoreI f h n i) (h0 : 0 ≤ i) (h9 : h i = 9) : MoreI f (up h i 0) n (i - 1) := by
  obtain ⟨h1, h2, h3⟩ := hm
  refine ⟨⟨by omega, by omega⟩, fun j hj => by rw [up_n _ _ (by omega)]; exact h2 j (by omega), fun j q1 q2 => ?_⟩
  by_cases hq : j = i
  · subst hq
    rw [up_s]
    exact ⟨rfl, by rw [← h2 j (Int.le_refl _)]; exact h9⟩
  · rw [up_n _ _ hq]
    exact h3 j (by omega) q2
theorem dv_nines {f : Int → Int} {k : Nat} : ∀ (m : Nat), (∀ j : Int, (k : Int) ≤ j → j < ((k + m : Nat) : Int) → f j = 9) → dv f (k + m) + 1 = (dv f k + 1) * 10 ^ m
  | 0, _ => by rw [Int.pow_zero, Int.mul_one]; rfl
  | m + 1, h => by
    have h1 := dv_nines (f := f) (k := k) m (fun j q1 q2 => h j q1 (by omega))
    have h2 := h ((k + m : Nat) : Int) (by omega) (by omega)
    show dv f (k + m) * 10 + f ((k + m : Nat) : Int) + 1 = _
    rw [h2, Int.pow_succ, ← Int.mul_assoc, ← h1]
    omega
theorem dv_zeros {f : Int → Int} {k : Nat} : ∀ (m : Nat), (∀ j : Int, (k : Int) ≤ j → j < ((k + m : Nat) : Int) → f j = 0) → dv f (k + m) = dv f k * 10 ^ m
  | 0, _ => by rw [Int.pow_zero, Int.mul_one]; rfl
  | m + 1, h => by
    have h1 := dv_zeros (f := f) (k := k) m (fun j q1 q2 => h j q1 (by omega))
    have h2 := h ((k + m : Nat) : Int) (by omega) (by omega)
    show dv f (k + m) * 10 + f ((k + m : Nat) : Int) = _
    rw [h2, Int.pow_succ, ← Int.mul_assoc, ← h1]
    omega
/-- no carry over the first digit -/
theorem more_inc {f h : Int → Int} {n p C i : Int} (hr : RowOK f n p C) (hm : MoreI f h n i) (h0 : 0 ≤ i) (h9 : h i ≠ 9) : RowOK (up h i (h i + 1)) n p (C + 10 ^ (p - n + 1080).toNat) := by
  obtain ⟨r1, r2, r3, r4⟩ := hr
  obtain ⟨m1, m2, m3⟩ := hm
  have hfi := r2 i h0 m1.2
  have hhi : h i = f i := m2 i (Int.le_refl _)
  refine ⟨r1, fun j q1 q2 => ?_, fun q => ⟨?_, (r3 q).2⟩, ?_⟩
  · by_cases hq : j = i
    · rw [hq, up_s]; omega
    · rw [up_n _ _ hq]
      by_cases hq2 : j < i
      · rw [m2 j (by omega)]; exact r2 j q1 q2
      · rw [(m3 j (by omega) q2).1]; omega
  · have := (r3 q).1
    by_cases hq : (0 : Int) = i
    · rw [hq, up_s]
      rw [hq] at this
      omega
    · rw [up_n _ _ hq, m2 0 (by omega)]; exact this
  · obtain ⟨k, rfl⟩ := Int.eq_ofNat_of_zero_le h0
    obtain ⟨w, hw⟩ : ∃ w : Nat, n = (k : Int) + 1 + (w : Int) := ⟨(n - k - 1).toNat, by omega⟩
    subst hw
    rw [show ((k : Int) + 1 + (w : Int)).toNat = k + 1 + w by omega] at r4 ⊢
    have e1 := dv_nines (f := f) (k := k + 1) w (fun j q1 q2 => (m3 j (by omega) (by omega)).2)
    have e2 := dv_zeros (f := up h (k : Int) (h (k : Int) + 1)) (k := k + 1) w (fun j q1 q2 => by rw [up_n _ _ (by omega)]; exact (m3 j (by omega) (by omega)).1)
    have e3 : dv (up h (k : Int) (h (k : Int) + 1)) (k + 1) = dv f (k + 1) + 1 := by
      show dv (up h (k : Int) (h (k : Int) + 1)) k * 10 + up h (k : Int) (h (k : Int) + 1) (k : Int) = dv f k * 10 + f (k : Int) + 1
      rw [up_s, dv_congr (f := up h (k : Int) (h (k : Int) + 1)) (g := f) (fun j q1 q2 => by rw [up_n _ _ (by omega)]; exact m2 j (by omega)), hhi]
      omega
    rw [e2, e3, ← e1, r4, Int.add_mul, Int.one_mul]
/-- all were nines -/
theorem more_all {f h : Int → Int} {n p C : Int} (hr : RowOK f n p C) (hn : 0 < n) (hn2 : n ≤ 1249) (hp : p ≤ 1499) (hm : MoreI f h n (-1)) {g : Int → Int} (hg : ∀ j, 0 ≤ j → j ≤ n → g j = 0) : RowOK (up g 0 1) (n + 1) (p + 1) (C + 10 ^ (p - n + 1080).toNat) := by
  obtain ⟨r1, r2, r3, r4⟩ := hr
  obtain ⟨m1, m2, m3⟩ := hm
  refine ⟨by omega, fun j q1 q2 => ?_, fun q => ⟨by rw [up_s]; omega, by have := (r3 hn).2; omega⟩, ?_⟩
  · by_cases hq : j = 0
    · rw [hq, up_s]; omega
    · rw [up_n _ _ hq, hg j q1 (by omega)]; omega
  · obtain ⟨k, rfl⟩ := Int.eq_ofNat_of_zero_le (show 0 ≤ n by omega)
    have e1 := dv_nines (f := f) (k := 0) k (fun j q1 q2 => (m3 j (by omega) (by omega)).2)
    have e2 := dv_zeros (f := up g 0 1) (k := 1) k (fun j q1 q2 => by rw [up_n _ _ (by omega)]; exact hg j (by omega) (by omega))
    have e3 : dv (up g 0 1) 1 = 1 := by
      show 0 * 10 + up g 0 1 0 = 1
      rw [up_s]; rfl
    rw [Nat.zero_add] at e1
    have e4 : dv f 0 = 0 := rfl
    rw [e4] at e1
    rw [show ((k : Int) + 1).toNat = 1 + k by omega, show (p + 1 - ((k : Int) + 1) + 1080).toNat = (p - (k : Int) + 1080).toNat by omega, e2, e3, r4, Int.toNat_natCast, Int.one_mul]
    have e5 : dv f k = 10 ^ k - 1 := by omega
    rw [e5, Int.sub_mul, Int.one_mul]
    omega
/-! what rounding makes of a row -/
theorem rnd_0 (t : Int) : rnd 0 t = 0 := by
  unfold rnd
  split
  · rfl
  · rw [dgt_zero, Int.zero_ediv, if_neg (by decide)]
    omega
theorem RowOK.leadv {f : Int → Int} {n p V : Int} (h : RowOK f n p V) (h0 : 0 < n) : lead V = p - 1 := lead_eq h.nn (h.ld h0).1
theorem cut_neg {f : Int → Int} {n p V k : Int} (h : RowOK f n p V) (hk : k < 0) : rnd V (lead V + 1 - k) = 0 := by
  by_cases h0 : n = 0
  · rw [h.zero h0, rnd_0]
  · have hn : 0 < n := by have := h.1; omega
    rw [h.leadv hn]
    have h1 := h.ld hn
    rcases h1.1 with ⟨a, b⟩ | ⟨a, b, c⟩
    · omega
    · unfold rnd
      rw [if_neg (by omega), dgt_hi (n := (p - 1 + 1080).toNat + 1) h.nn c (by omega), if_neg (by decide), Int.ediv_eq_zero_of_lt h.nn]
      · omega
      · have := pow10_le (a := (p - 1 + 1080).toNat + 1) (b := (p - 1 + 1 - k + 1080).toNat) (by omega)
        omega
theorem cut_all {f : Int → Int} {n p V k : Int} (h : RowOK f n p V) (hk : n ≤ k) : rnd V (lead V + 1 - k) = V := by
  by_cases h0 : n = 0
  · rw [h.zero h0, rnd_0]
  · have hn : 0 < n := by have := h.1; omega
    rw [h.leadv hn]
    unfold rnd
    by_cases hq : p - 1 + 1 - k < -1080
    · rw [if_pos hq]
    · rw [if_neg hq, h.low (by omega), if_neg (by decide)]
      obtain ⟨r1, r2, r3, r4⟩ := h
      have hp := pow_pos10 (p - 1 + 1 - k + 1080).toNat
      rw [r4, show (p - n + 1080).toNat = (k - n).toNat + (p - 1 + 1 - k + 1080).toNat by omega, Int.pow_add, ← Int.mul_assoc, Int.mul_ediv_cancel _ (by omega), Int.add_zero]
theorem cut_at {f : Int → Int} {n p V k : Int} (h : RowOK f n p V) (h0 : 0 ≤ k) (hk : k < n) : rnd V (lead V + 1 - k) = dv f k.toNat * 10 ^ (p - k + 1080).toNat + (if 5 ≤ f k then 10 ^ (p - k + 1080).toNat else 0) := by
  have hn : 0 < n := by omega
  rw [h.leadv hn]
  have hd := h.dig h0 hk
  unfold rnd
  rw [show p - 1 + 1 - k - 1 = p - 1 - k by omega, hd, show p - 1 + 1 - k = p - k by omega]
  obtain ⟨r1, r2, r3, r4⟩ := h
  have h5 := (r3 hn).2
  rw [if_neg (by omega)]
  obtain ⟨j, rfl⟩ := Int.eq_ofNat_of_zero_le h0
  obtain ⟨w, hw⟩ : ∃ w : Nat, n = (j : Int) + (w : Int) := ⟨(n - j).toNat, by omega⟩
  subst hw
  obtain ⟨r, e1, e2, e3⟩ := dv_split (f := f) (k := j) w (fun q q1 q2 => r2 q q1 (by omega))
  rw [show ((j : Int) + (w : Int)).toNat = j + w by omega] at r4
  have hp := pow_pos10 (p - ((j : Int) + (w : Int)) + 1080).toNat
  have hq : V / 10 ^ (p - (j : Int) + 1080).toNat = dv f j := by
    rw [r4, show (p - (j : Int) + 1080).toNat = w + (p - ((j : Int) + (w : Int)) + 1080).toNat by omega, Int.pow_add, Int.mul_ediv_mul_of_pos_left _ _ hp, e1, Int.add_comm, Int.add_mul_ediv_right _ _ (by have := pow_pos10 w; omega), Int.ediv_eq_zero_of_lt e2 e3, Int.zero_add]
  rw [hq, Int.toNat_natCast]
theorem row_cut {f h : Int → Int} {n p V k : Int} (hr : RowOK f n p V) (h0 : 0 ≤ k) (hk : k < n) (hh : ∀ j, 0 ≤ j → j < k → h j = f j) : RowOK h k p (dv f k.toNat * 10 ^ (p - k + 1080).toNat) := by
  obtain ⟨r1, r2, r3, r4⟩ := hr
  refine ⟨by omega, fun j q1 q2 => by rw [hh j q1 q2]; exact r2 j q1 (by omega), fun q => ⟨by rw [hh 0 (by omega) q]; exact (r3 (by omega)).1, by have := (r3 (by omega)).2; omega⟩, ?_⟩
  rw [dv_congr (f := h) (g := f) (fun j q1 q2 => hh j q1 (by omega))]
theorem row_same {f h : Int → Int} {n p V : Int} (hr : RowOK f n p V) (hh : ∀ j, 0 ≤ j → j < n → h j = f j) : RowOK h n p V := by
  obtain ⟨r1, r2, r3, r4⟩ := hr
  refine ⟨r1, fun j q1 q2 => by rw [hh j q1 q2]; exact r2 j q1 q2, fun q => ⟨by rw [hh 0 (by omega) q]; exact (r3 q).1, (r3 q).2⟩, ?_⟩
  rw [r4, dv_congr (f := h) (g := f) (fun j q1 q2 => hh j q1 (by omega))]
theorem row_none {h : Int → Int} {p : Int} (hp : -1500 ≤ p ∧ p ≤ 1500) : RowOK h 0 p 0 := ⟨by omega, fun i q1 q2 => absurd q1 (by omega), fun q => absurd q (by omega), by show 0 = 0 * _; omega⟩
theorem row_one {h : Int → Int} {p : Int} (hp : -1080 ≤ p ∧ p ≤ 1499) : RowOK (up h 0 1) 1 (p + 1) (10 ^ (p + 1080).toNat) := by
  refine ⟨by omega, fun i q1 q2 => ?_, fun _ => ⟨by rw [up_s]; omega, by omega⟩, ?_⟩
  · rw [show i = 0 by omega, up_s]; omega
  · rw [show (p + 1 - 1 + 1080).toNat = (p + 1080).toNat by omega]
    show _ = (0 * 10 + up h 0 1 0) * _
    rw [up_s]
    omega
theorem more_A {f h : Int → Int} {n i : Int} (hm : MoreI f h n i) (hi : i < 0) : MoreI f (fun j => if 0 ≤ j ∧ j < n then 0 else f j) n (-1) := by
  obtain ⟨m1, m2, m3⟩ := hm
  refine ⟨⟨by omega, by omega⟩, fun j hj => if_neg (by omega), fun j q1 q2 => ⟨if_pos ⟨by omega, q2⟩, (m3 j (by omega) q2).2⟩⟩
theorem lead_0 : lead 0 = 0 := lead_eq (Int.le_refl 0) (Or.inl ⟨rfl, rfl⟩)
theorem rnd_pos {f : Int → Int} {n p V k : Int} (h : RowOK f n p V) (h0 : 0 < n) (hk : 1 ≤ k) : 0 < rnd V (lead V + 1 - k) := by
  by_cases h1 : n ≤ k
  · rw [cut_all h h1]
    exact (h.ld h0).2
  · rw [cut_at h (by omega) (by omega)]
    have h2 := (row_cut h (k := k) (h := f) (by omega) (by omega) (fun _ _ _ => rfl)).ld (by omega)
    have h3 := pow_pos10 (p - k + 1080).toNat
    split <;> omega
theorem rnd_nn {V t : Int} (h : 0 ≤ V) : 0 ≤ rnd V t := by
  by_cases ht : t < -1080
  · rw [(rup_low ht).2]; exact h
  · obtain ⟨z, h1, h2, h3, h4, h5⟩ := rup_rnd (V := V) (t := t) (by omega)
    rw [h2]
    exact Int.mul_nonneg (h5 h) (Int.le_of_lt (pow_pos10 _))
theorem dgt_above {V k : Int} (h : 0 ≤ V) (hk : lead V < k) : dgt V k = 0 := by
  rcases lead_is h with ⟨a, b⟩ | ⟨a, b, c⟩
  · rw [a, dgt_zero]
  · exact dgt_hi (n := (lead V + 1080).toNat + 1) h c (by omega)
/-- what of the digits before the point is still to be written when i of the bf are -/
def pend (C gr bf i : Int) : List Int := if bf ≤ i then [] else (if gr ≠ 0 ∧ 0 < i ∧ (bf - i) % 3 = 0 then [44] else []) ++ ipR C gr (bf - 1 - i)
theorem pend_step {C gr bf i : Int} (h : i < bf) (h0 : 0 ≤ i) : pend C gr bf i = (if gr ≠ 0 ∧ 0 < i ∧ (bf - i) % 3 = 0 then [44] else []) ++ ([48 + dgt C (bf - 1 - i)] ++ pend C gr bf (i + 1)) := by
  unfold pend
  rw [if_neg (by omega), ipR_step C gr (bf - 1 - i) (by omega)]
  by_cases h1 : bf ≤ i + 1
  · rw [if_pos h1, if_neg (show ¬ (gr ≠ 0 ∧ 0 < bf - 1 - i ∧ (bf - 1 - i) % 3 = 0) by omega), ipR_neg C gr (bf - 1 - i - 1) (by omega)]
    rfl
  · rw [if_neg h1, show bf - 1 - i - 1 = bf - 1 - (i + 1) by omega]
    by_cases h2 : gr ≠ 0 ∧ 0 < bf - 1 - i ∧ (bf - 1 - i) % 3 = 0
    · rw [if_pos h2, if_pos (show gr ≠ 0 ∧ 0 < i + 1 ∧ (bf - (i + 1)) % 3 = 0 from ⟨h2.1, by omega, by omega⟩)]
    · rw [if_neg h2, if_neg (show ¬ (gr ≠ 0 ∧ 0 < i + 1 ∧ (bf - (i + 1)) % 3 = 0) from fun h3 => h2 ⟨h3.1, by omega, by omega⟩)]
theorem pend_0 {C gr bf : Int} (h : 0 < bf) : pend C gr bf 0 = ipR C gr (bf - 1) := by
  unfold pend
  rw [if_neg (by omega), if_neg (by omega), Int.sub_zero]
  rfl
theorem pend_end {C gr bf i : Int} (h : bf ≤ i) : pend C gr bf i = [] := if_pos h
theorem ipR_0 (C gr : Int) (h : dgt C 0 = 0) : ipR C gr 0 = [48] := by
  unfold ipR
  rw [if_neg (by omega)]
  show [48 + dgt C 0] = [48]
  rw [h]
  rfl
theorem dg48 (C k : Int) : 0 ≤ 48 + dgt C k ∧ 48 + dgt C k < 128 := by
  have := dgt_r C k
  omega
/-- rounded to k digits; where that carries, to k - 1 digits is the same -/
theorem rnd_carry {V : Int} {k : Nat} (hV : 0 < V) (hk : 1 ≤ k) (h : lead (rnd V (lead V + 1 - (k : Int))) ≠ lead V) : lead (rnd V (lead V + 1 - (k : Int))) = lead V + 1 ∧ rnd V (lead V + 1 - (k : Int) + 1) = rnd V (lead V + 1 - (k : Int)) := by
  have hl := lead_is (Int.le_of_lt hV)
  rcases hl with ⟨a, b⟩ | ⟨a, b, c⟩
  · omega
  · by_cases ht : lead V + 1 - (k : Int) < -1080
    · exfalso
      rw [(rup_low ht).2] at h
      exact h rfl
    · generalize hr : lead V = r at *
      obtain ⟨u, hu⟩ : ∃ u : Nat, r + 1 - (k : Int) + 1080 = (u : Int) := ⟨(r + 1 - (k : Int) + 1080).toNat, by omega⟩
      have e1 : (r + 1 - (k : Int) + 1080).toNat = u := by omega
      have e2 : (r + 1 - (k : Int) + 1 + 1080).toNat = u + 1 := by omega
      have e3 : (r + 1080).toNat = u + (k - 1) := by omega
      have e4 : (r + 1080).toNat + 1 = u + k := by omega
      rw [e3, Int.pow_add] at b
      rw [e4, Int.pow_add] at c
      have hT := pow_pos10 u
      have hz1 : 10 ^ (k - 1) ≤ V / 10 ^ u := (Int.le_ediv_iff_mul_le hT).mpr (by rw [Int.mul_comm]; exact b)
      have hz2 : V / 10 ^ u < 10 ^ k := Int.ediv_lt_of_lt_mul hT (by rw [Int.mul_comm]; exact c)
      have hC : rnd V (r + 1 - (k : Int)) = (V / 10 ^ u + (if 5 ≤ dgt V (r + 1 - (k : Int) - 1) then 1 else 0)) * 10 ^ u := by
        unfold rnd
        rw [if_neg (by omega), e1]
        split
        · rw [Int.add_mul, Int.one_mul]
        · rw [Int.add_zero, Int.add_zero]
      by_cases hlt : V / 10 ^ u + (if 5 ≤ dgt V (r + 1 - (k : Int) - 1) then 1 else 0) < 10 ^ k
      · exfalso
        refine h (lead_eq (rnd_nn (Int.le_of_lt hV)) (Or.inr ⟨a, ?_, ?_⟩))
        · rw [hC, e3, Int.pow_add, Int.mul_comm]
          exact Int.mul_le_mul_of_nonneg_right (by split <;> omega) (Int.le_of_lt hT)
        · rw [hC, e4, Int.pow_add, Int.mul_comm (10 ^ u)]
          exact Int.mul_lt_mul_of_pos_right hlt hT
      · have h5 : 5 ≤ dgt V (r + 1 - (k : Int) - 1) := by
          by_cases h6 : 5 ≤ dgt V (r + 1 - (k : Int) - 1)
          · exact h6
          · exfalso
            rw [if_neg h6] at hlt
            omega
        rw [if_pos h5] at hlt hC
        have hz : V / 10 ^ u = 10 ^ k - 1 := by omega
        have hCe : rnd V (r + 1 - (k : Int)) = 10 ^ k * 10 ^ u := by rw [hC, hz]; congr 1; omega
        refine ⟨lead_eq (rnd_nn (Int.le_of_lt hV)) (Or.inr ⟨by omega, ?_, ?_⟩), ?_⟩
        · rw [hCe, show (r + 1 + 1080).toNat = u + k by omega, Int.pow_add, Int.mul_comm]
          exact Int.le_refl _
        · rw [hCe, show (r + 1 + 1080).toNat + 1 = u + k + 1 by omega, Int.pow_succ, Int.pow_add, Int.mul_comm (10 ^ u)]
          have := Int.mul_pos (pow_pos10 k) hT
          omega
        · rw [hCe]
          unfold rnd
          obtain ⟨j, rfl⟩ : ∃ j : Nat, k = j + 1 := ⟨k - 1, by omega⟩
          have hq : V / 10 ^ (u + 1) = 10 ^ j - 1 := by
            rw [Int.pow_succ, ← Int.ediv_ediv_of_nonneg (Int.le_of_lt hT), hz, Int.pow_succ]
            omega
          have hd : dgt V (r + 1 - ((j + 1 : Nat) : Int) + 1 - 1) = 9 := by
            unfold dgt
            rw [if_neg (by omega), show (r + 1 - ((j + 1 : Nat) : Int) + 1 - 1 + 1080).toNat = u by omega, hz, Int.pow_succ]
            omega
          rw [if_neg (by omega), e2, hd, if_pos (by decide), hq, Int.pow_succ 10 u, Int.pow_succ 10 j]
          generalize (10 : Int) ^ u = A
          generalize (10 : Int) ^ j = B
          grind
theorem gen_same {V : Int} {k : Nat} (hV : 0 < V) (hk : 1 ≤ k) : rnd V (lead (rnd V (lead V + 1 - (k : Int))) + 1 - (k : Int)) = rnd V (lead V + 1 - (k : Int)) := by
  by_cases h : lead (rnd V (lead V + 1 - (k : Int))) = lead V
  · rw [h]
  · obtain ⟨h1, h2⟩ := rnd_carry hV hk h
    rw [h1, ← h2]
    congr 1
    omega
noncomputable def genL (C : Int) (k : Nat) (gr : Int) : List Int := if -4 ≤ lead C ∧ lead C < (k : Int) then fixL C (lead C) ((k : Int) - 1 - lead C).toNat gr 0 else sciL C (lead C) (k - 1) 0
end
section
theorem d_Mo_thrown_0 : decode b_Mo_thrown 0 = .ok (.aload_n 0, 1) := by decide +kernel
theorem d_Mo_thrown_1 : decode b_Mo_thrown 1 = .ok (.getfield 30, 3) := by decide +kernel
theorem d_Mo_thrown_4 : decode b_Mo_thrown 4 = .ok (.ireturn, 1) := by decide +kernel
set_option maxHeartbeats 4000000 in
set_option maxRecDepth 100000 in
theorem c_Mo_thrown (l : Launch) (D : va_G) (cB cL : ClassId) (mo rs ex xd li bo cu cd : Nat) (co bi le : Int) (rt bt : List Int) (V C : Int)  : Ct l y_Mo_thrown (ws_Mo_thrown) 0 (AM mo rs ex xd li bo cu cd) [.ref mo] (MW D cB cL mo rs ex xd li bo cu cd co bi le rt bt V C) (zR (some (.int (iz co))) (MW D cB cL mo rs ex xd li bo cu cd co bi le rt bt V C)) := by
  refine z_body zSt_MW (by decide +kernel) rfl (Nat.le_of_ble_eq_true rfl) ?_
  intro p e s m args below meth c ls hx hb hml hr hlk hts0 hown hpre0 H locs hpre hS hl
  have hts : ∀ w ∈ TBL, w.before args s = true := fun w hw => hts0 w (List.mem_cons_of_mem _ hw)
  have hl : lv_has ls 1 [(0, .ref mo)] := hl
  have hw := hpre
  refine lv_aload_n hx hb d_Mo_thrown_0 rfl (lv_at hl 0 rfl) ?_
  have hw9 := hw
  obtain ⟨fc, nc, pp, ⟨len, used, bl, fr, fb, lm, fe, ne, pe, ⟨hK, hP, hD⟩, hrt, hbt, hE, hpe, hlm⟩, hC⟩ := hw9
  have hr1 := hrt.1
  have hr2 := hrt.2.1
  have hb1 := hbt.1
  have hb2 := hbt.2.1
  have hE1 := hE.1
  have hC1 := hC.1
  have hP : va_P D vwCl [(mo, .inr (3, [.ref rs, .int (iz len), .int (iz co), .ref ex, .int (iz bi), .int (iz le), .ref li, .int (iz used), .ref bo, .int (iz bl), .ref cu])), (rs, .inl (cB, 4096, .inl (az fr))), (ex, .inr (4, [.ref xd, .int (iz ne), .int (iz pe)])), (xd, .inl (cB, 1300, .inl (az fe))), (li, .inl (cL, 160, .inr (.inl (azl lm)))), (bo, .inl (cB, 4096, .inl (az fb))), (cu, .inr (4, [.ref cd, .int (iz nc), .int (iz pp)])), (cd, .inl (cB, 1300, .inl (az fc)))] H := hP
  have hD : va_D (AM mo rs ex xd li bo cu cd) [(mo, .inr (3, [.ref rs, .int (iz len), .int (iz co), .ref ex, .int (iz bi), .int (iz le), .ref li, .int (iz used), .ref bo, .int (iz bl), .ref cu])), (rs, .inl (cB, 4096, .inl (az fr))), (ex, .inr (4, [.ref xd, .int (iz ne), .int (iz pe)])), (xd, .inl (cB, 1300, .inl (az fe))), (li, .inl (cL, 160, .inr (.inl (azl lm)))), (bo, .inl (cB, 4096, .inl (az fb))), (cu, .inr (4, [.ref cd, .int (iz nc), .int (iz pp)])), (cd, .inl (cB, 1300, .inl (az fc)))] := hD
  refine va_get (D := D) (ci := 3) (v := .int (iz co)) (C := R_3) (T := T_3) (N := 11) hx hb hts in_3 hown hK hP 0 rfl rfl 2 (by decide) (hts _ tw_394) (fun _ h9 => h9) rfl d_Mo_thrown_1 ?_
  exact z_iret hx hb hr hlk hS (zR_st zSt_MW) ⟨rfl, hw⟩ d_Mo_thrown_4
theorem d_Mo_good_0 : decode b_Mo_good 0 = .ok (.aload_n 0, 1) := by decide +kernel
theorem d_Mo_good_1 : decode b_Mo_good 1 = .ok (.iload_n 1, 1) := by decide +kernel
theorem d_Mo_good_2 : decode b_Mo_good 2 = .ok (.ifCond .eq (7), 3) := by decide +kernel
theorem d_Mo_good_5 : decode b_Mo_good 5 = .ok (.iconst 0, 1) := by decide +kernel
theorem d_Mo_good_6 : decode b_Mo_good 6 = .ok (.goto (4), 3) := by decide +kernel
theorem d_Mo_good_9 : decode b_Mo_good 9 = .ok (.iload_n 2, 1) := by decide +kernel
theorem d_Mo_good_10 : decode b_Mo_good 10 = .ok (.putfield 30, 3) := by decide +kernel
theorem d_Mo_good_13 : decode b_Mo_good 13 = .ok (.iload_n 1, 1) := by decide +kernel
theorem d_Mo_good_14 : decode b_Mo_good 14 = .ok (.ireturn, 1) := by decide +kernel
set_option maxHeartbeats 4000000 in
set_option maxRecDepth 100000 in
theorem c_Mo_good (l : Launch) (D : va_G) (cB cL : ClassId) (mo rs ex xd li bo cu cd : Nat) (co bi le : Int) (rt bt : List Int) (V C : Int) (y k : Int) (hy : y = 0 ∨ y = 1) (hk : iR k) : Ct l y_Mo_good (ws_Mo_good) 0 (AM mo rs ex xd li bo cu cd) [.ref mo, .int (iz y), .int (iz k)] (MW D cB cL mo rs ex xd li bo cu cd co bi le rt bt V C) (zR (some (.int (iz y))) (MW D cB cL mo rs ex xd li bo cu cd (if y = 0 then k else 0) bi le rt bt V C)) := by
  refine z_body zSt_MW (by decide +kernel) rfl (Nat.le_of_ble_eq_true rfl) ?_
  intro p e s m args below meth c ls hx hb hml hr hlk hts0 hown hpre0 H locs hpre hS hl
  have hts : ∀ w ∈ TBL, w.before args s = true := fun w hw => hts0 w (List.mem_cons_of_mem _ hw)
  have hl : lv_has ls 3 [(0, .ref mo), (1, .int (iz y)), (2, .int (iz k))] := hl
  have hw := hpre
  refine lv_aload_n hx hb d_Mo_good_0 rfl (lv_at hl 0 rfl) ?_
  refine lv_iload_n hx hb d_Mo_good_1 rfl (lv_at hl 1 rfl) ?_
  refine z_if_eq (tgt := 9) hx hb d_Mo_good_2 rfl ⟨by omega, by omega⟩ (fun hc2 => ?_) (fun hc2 => ?_)
  · refine lv_iload_n hx hb d_Mo_good_9 rfl (lv_at hl 2 rfl) ?_
    have hw9 := hw
    obtain ⟨fc, nc, pp, ⟨len, used, bl, fr, fb, lm, fe, ne, pe, ⟨hK, hP, hD⟩, hrt, hbt, hE, hpe, hlm⟩, hC⟩ := hw9
    have hr1 := hrt.1
    have hr2 := hrt.2.1
    have hb1 := hbt.1
    have hb2 := hbt.2.1
    have hE1 := hE.1
    have hC1 := hC.1
    have hP : va_P D vwCl [(mo, .inr (3, [.ref rs, .int (iz len), .int (iz co), .ref ex, .int (iz bi), .int (iz le), .ref li, .int (iz used), .ref bo, .int (iz bl), .ref cu])), (rs, .inl (cB, 4096, .inl (az fr))), (ex, .inr (4, [.ref xd, .int (iz ne), .int (iz pe)])), (xd, .inl (cB, 1300, .inl (az fe))), (li, .inl (cL, 160, .inr (.inl (azl lm)))), (bo, .inl (cB, 4096, .inl (az fb))), (cu, .inr (4, [.ref cd, .int (iz nc), .int (iz pp)])), (cd, .inl (cB, 1300, .inl (az fc)))] H := hP
    have hD : va_D (AM mo rs ex xd li bo cu cd) [(mo, .inr (3, [.ref rs, .int (iz len), .int (iz co), .ref ex, .int (iz bi), .int (iz le), .ref li, .int (iz used), .ref bo, .int (iz bl), .ref cu])), (rs, .inl (cB, 4096, .inl (az fr))), (ex, .inr (4, [.ref xd, .int (iz ne), .int (iz pe)])), (xd, .inl (cB, 1300, .inl (az fe))), (li, .inl (cL, 160, .inr (.inl (azl lm)))), (bo, .inl (cB, 4096, .inl (az fb))), (cu, .inr (4, [.ref cd, .int (iz nc), .int (iz pp)])), (cd, .inl (cB, 1300, .inl (az fc)))] := hD
    refine va_put (D := D) (ci := 3) (v := .int (iz k)) (ty := .int) (C := R_3) (T := T_3) (N := 11) hx hb hts in_3 ty_3 tyok_3 nm_3 hown hK hP hD hS 0 rfl rfl 2 (by decide) (hts _ tw_394) (fun _ h9 => h9) rfl (by decide +kernel) rfl rfl (Nat.le_of_ble_eq_true rfl) d_Mo_good_10 (fun H locs hP hD hS => ?_)
    have hP : va_P D vwCl [(mo, .inr (3, [.ref rs, .int (iz len), .int (iz k), .ref ex, .int (iz bi), .int (iz le), .ref li, .int (iz used), .ref bo, .int (iz bl), .ref cu])), (rs, .inl (cB, 4096, .inl (az fr))), (ex, .inr (4, [.ref xd, .int (iz ne), .int (iz pe)])), (xd, .inl (cB, 1300, .inl (az fe))), (li, .inl (cL, 160, .inr (.inl (azl lm)))), (bo, .inl (cB, 4096, .inl (az fb))), (cu, .inr (4, [.ref cd, .int (iz nc), .int (iz pp)])), (cd, .inl (cB, 1300, .inl (az fc)))] H := hP
    have hD : va_D (AM mo rs ex xd li bo cu cd) [(mo, .inr (3, [.ref rs, .int (iz len), .int (iz k), .ref ex, .int (iz bi), .int (iz le), .ref li, .int (iz used), .ref bo, .int (iz bl), .ref cu])), (rs, .inl (cB, 4096, .inl (az fr))), (ex, .inr (4, [.ref xd, .int (iz ne), .int (iz pe)])), (xd, .inl (cB, 1300, .inl (az fe))), (li, .inl (cL, 160, .inr (.inl (azl lm)))), (bo, .inl (cB, 4096, .inl (az fb))), (cu, .inr (4, [.ref cd, .int (iz nc), .int (iz pp)])), (cd, .inl (cB, 1300, .inl (az fc)))] := hD
    refine lv_iload_n hx hb d_Mo_good_13 rfl (lv_at hl 1 rfl) ?_
    exact z_zret hx hb hr (by rcases hy with h8 | h8 <;> subst h8 <;> rfl) hlk hS (zR_st zSt_MW) ⟨rfl, by first | (rw [if_pos hc2]; exact ⟨_, _, _, ⟨_, _, _, _, _, _, _, _, _, ⟨hK, hP, hD⟩, hrt, hbt, hE, hpe, hlm⟩, hC⟩) | (rw [if_neg hc2]; exact ⟨_, _, _, ⟨_, _, _, _, _, _, _, _, _, ⟨hK, hP, hD⟩, hrt, hbt, hE, hpe, hlm⟩, hC⟩)⟩ d_Mo_good_14
  · refine lv_iconst (v := iz 0) hx hb d_Mo_good_5 rfl ?_
    refine lv_goto (tgt := 10) hx hb d_Mo_good_6 rfl ?_
    have hw9 := hw
    obtain ⟨fc, nc, pp, ⟨len, used, bl, fr, fb, lm, fe, ne, pe, ⟨hK, hP, hD⟩, hrt, hbt, hE, hpe, hlm⟩, hC⟩ := hw9
    have hr1 := hrt.1
    have hr2 := hrt.2.1
    have hb1 := hbt.1
    have hb2 := hbt.2.1
    have hE1 := hE.1
    have hC1 := hC.1
    have hP : va_P D vwCl [(mo, .inr (3, [.ref rs, .int (iz len), .int (iz co), .ref ex, .int (iz bi), .int (iz le), .ref li, .int (iz used), .ref bo, .int (iz bl), .ref cu])), (rs, .inl (cB, 4096, .inl (az fr))), (ex, .inr (4, [.ref xd, .int (iz ne), .int (iz pe)])), (xd, .inl (cB, 1300, .inl (az fe))), (li, .inl (cL, 160, .inr (.inl (azl lm)))), (bo, .inl (cB, 4096, .inl (az fb))), (cu, .inr (4, [.ref cd, .int (iz nc), .int (iz pp)])), (cd, .inl (cB, 1300, .inl (az fc)))] H := hP
    have hD : va_D (AM mo rs ex xd li bo cu cd) [(mo, .inr (3, [.ref rs, .int (iz len), .int (iz co), .ref ex, .int (iz bi), .int (iz le), .ref li, .int (iz used), .ref bo, .int (iz bl), .ref cu])), (rs, .inl (cB, 4096, .inl (az fr))), (ex, .inr (4, [.ref xd, .int (iz ne), .int (iz pe)])), (xd, .inl (cB, 1300, .inl (az fe))), (li, .inl (cL, 160, .inr (.inl (azl lm)))), (bo, .inl (cB, 4096, .inl (az fb))), (cu, .inr (4, [.ref cd, .int (iz nc), .int (iz pp)])), (cd, .inl (cB, 1300, .inl (az fc)))] := hD
    refine va_put (D := D) (ci := 3) (v := .int (iz 0)) (ty := .int) (C := R_3) (T := T_3) (N := 11) hx hb hts in_3 ty_3 tyok_3 nm_3 hown hK hP hD hS 0 rfl rfl 2 (by decide) (hts _ tw_394) (fun _ h9 => h9) rfl (by decide +kernel) rfl rfl (Nat.le_of_ble_eq_true rfl) d_Mo_good_10 (fun H locs hP hD hS => ?_)
    have hP : va_P D vwCl [(mo, .inr (3, [.ref rs, .int (iz len), .int (iz 0), .ref ex, .int (iz bi), .int (iz le), .ref li, .int (iz used), .ref bo, .int (iz bl), .ref cu])), (rs, .inl (cB, 4096, .inl (az fr))), (ex, .inr (4, [.ref xd, .int (iz ne), .int (iz pe)])), (xd, .inl (cB, 1300, .inl (az fe))), (li, .inl (cL, 160, .inr (.inl (azl lm)))), (bo, .inl (cB, 4096, .inl (az fb))), (cu, .inr (4, [.ref cd, .int (iz nc), .int (iz pp)])), (cd, .inl (cB, 1300, .inl (az fc)))] H := hP
    have hD : va_D (AM mo rs ex xd li bo cu cd) [(mo, .inr (3, [.ref rs, .int (iz len), .int (iz 0), .ref ex, .int (iz bi), .int (iz le), .ref li, .int (iz used), .ref bo, .int (iz bl), .ref cu])), (rs, .inl (cB, 4096, .inl (az fr))), (ex, .inr (4, [.ref xd, .int (iz ne), .int (iz pe)])), (xd, .inl (cB, 1300, .inl (az fe))), (li, .inl (cL, 160, .inr (.inl (azl lm)))), (bo, .inl (cB, 4096, .inl (az fb))), (cu, .inr (4, [.ref cd, .int (iz nc), .int (iz pp)])), (cd, .inl (cB, 1300, .inl (az fc)))] := hD
    refine lv_iload_n hx hb d_Mo_good_13 rfl (lv_at hl 1 rfl) ?_
    exact z_zret hx hb hr (by rcases hy with h8 | h8 <;> subst h8 <;> rfl) hlk hS (zR_st zSt_MW) ⟨rfl, by first | (rw [if_pos hc2]; exact ⟨_, _, _, ⟨_, _, _, _, _, _, _, _, _, ⟨hK, hP, hD⟩, hrt, hbt, hE, hpe, hlm⟩, hC⟩) | (rw [if_neg hc2]; exact ⟨_, _, _, ⟨_, _, _, _, _, _, _, _, _, ⟨hK, hP, hD⟩, hrt, hbt, hE, hpe, hlm⟩, hC⟩)⟩ d_Mo_good_14
theorem d_Mo_kind1_0 : decode b_Mo_kind 0 = .ok (.aload_n 0, 1) := by decide +kernel
theorem d_Mo_kind1_1 : decode b_Mo_kind 1 = .ok (.iload_n 1, 1) := by decide +kernel
theorem d_Mo_kind1_2 : decode b_Mo_kind 2 = .ok (.ifCond .eq (8), 3) := by decide +kernel
theorem d_Mo_kind1_5 : decode b_Mo_kind 5 = .ok (.bipush (53), 2) := by decide +kernel
theorem d_Mo_kind1_7 : decode b_Mo_kind 7 = .ok (.goto (5), 3) := by decide +kernel
theorem d_Mo_kind1_12 : decode b_Mo_kind 12 = .ok (.putfield 43, 3) := by decide +kernel
theorem d_Mo_kind1_15 : decode b_Mo_kind 15 = .ok (.aload_n 0, 1) := by decide +kernel
theorem d_Mo_kind1_16 : decode b_Mo_kind 16 = .ok (.iload_n 1, 1) := by decide +kernel
theorem d_Mo_kind1_17 : decode b_Mo_kind 17 = .ok (.ifCond .eq (9), 3) := by decide +kernel
theorem d_Mo_kind1_20 : decode b_Mo_kind 20 = .ok (.sipush (-1074), 3) := by decide +kernel
theorem d_Mo_kind1_23 : decode b_Mo_kind 23 = .ok (.goto (6), 3) := by decide +kernel
theorem d_Mo_kind1_29 : decode b_Mo_kind 29 = .ok (.putfield 46, 3) := by decide +kernel
theorem d_Mo_kind1_32 : decode b_Mo_kind 32 = .ok (.return_, 1) := by decide +kernel
set_option maxHeartbeats 4000000 in
set_option maxRecDepth 100000 in
theorem c_Mo_kind1 (l : Launch) (D : va_G) (cB cL : ClassId) (mo rs ex xd li bo cu cd : Nat) (co bi le : Int) (rt bt : List Int) (V C : Int)  : Ct l y_Mo_kind (ws_Mo_kind) 0 (AM mo rs ex xd li bo cu cd) [.ref mo, .int (iz 1)] (MW D cB cL mo rs ex xd li bo cu cd co bi le rt bt V C) (zR none (MW D cB cL mo rs ex xd li bo cu cd co 53 (-1074) rt bt V C)) := by
  refine z_body zSt_MW (by decide +kernel) rfl (Nat.le_of_ble_eq_true rfl) ?_
  intro p e s m args below meth c ls hx hb hml hr hlk hts0 hown hpre0 H locs hpre hS hl
  have hts : ∀ w ∈ TBL, w.before args s = true := fun w hw => hts0 w (List.mem_cons_of_mem _ hw)
  have hl : lv_has ls 2 [(0, .ref mo), (1, .int (iz 1))] := hl
  have hw := hpre
  refine lv_aload_n hx hb d_Mo_kind1_0 rfl (lv_at hl 0 rfl) ?_
  refine lv_iload_n hx hb d_Mo_kind1_1 rfl (lv_at hl 1 rfl) ?_
  refine z_if_eq (tgt := 10) hx hb d_Mo_kind1_2 rfl ⟨by omega, by omega⟩ (fun hc2 => ?_) (fun hc2 => ?_)
  · exfalso
    omega
  · refine lv_bipush (v := iz 53) hx hb d_Mo_kind1_5 (by decide) ?_
    refine lv_goto (tgt := 12) hx hb d_Mo_kind1_7 rfl ?_
    have hw9 := hw
    obtain ⟨fc, nc, pp, ⟨len, used, bl, fr, fb, lm, fe, ne, pe, ⟨hK, hP, hD⟩, hrt, hbt, hE, hpe, hlm⟩, hC⟩ := hw9
    have hr1 := hrt.1
    have hr2 := hrt.2.1
    have hb1 := hbt.1
    have hb2 := hbt.2.1
    have hE1 := hE.1
    have hC1 := hC.1
    have hP : va_P D vwCl [(mo, .inr (3, [.ref rs, .int (iz len), .int (iz co), .ref ex, .int (iz bi), .int (iz le), .ref li, .int (iz used), .ref bo, .int (iz bl), .ref cu])), (rs, .inl (cB, 4096, .inl (az fr))), (ex, .inr (4, [.ref xd, .int (iz ne), .int (iz pe)])), (xd, .inl (cB, 1300, .inl (az fe))), (li, .inl (cL, 160, .inr (.inl (azl lm)))), (bo, .inl (cB, 4096, .inl (az fb))), (cu, .inr (4, [.ref cd, .int (iz nc), .int (iz pp)])), (cd, .inl (cB, 1300, .inl (az fc)))] H := hP
    have hD : va_D (AM mo rs ex xd li bo cu cd) [(mo, .inr (3, [.ref rs, .int (iz len), .int (iz co), .ref ex, .int (iz bi), .int (iz le), .ref li, .int (iz used), .ref bo, .int (iz bl), .ref cu])), (rs, .inl (cB, 4096, .inl (az fr))), (ex, .inr (4, [.ref xd, .int (iz ne), .int (iz pe)])), (xd, .inl (cB, 1300, .inl (az fe))), (li, .inl (cL, 160, .inr (.inl (azl lm)))), (bo, .inl (cB, 4096, .inl (az fb))), (cu, .inr (4, [.ref cd, .int (iz nc), .int (iz pp)])), (cd, .inl (cB, 1300, .inl (az fc)))] := hD
    refine va_put (D := D) (ci := 3) (v := .int (iz 53)) (ty := .int) (C := R_3) (T := T_3) (N := 11) hx hb hts in_3 ty_3 tyok_3 nm_3 hown hK hP hD hS 0 rfl rfl 4 (by decide) (hts _ tw_396) (fun _ h9 => h9) rfl (by decide +kernel) rfl rfl (Nat.le_of_ble_eq_true rfl) d_Mo_kind1_12 (fun H locs hP hD hS => ?_)
    have hP : va_P D vwCl [(mo, .inr (3, [.ref rs, .int (iz len), .int (iz co), .ref ex, .int (iz 53), .int (iz le), .ref li, .int (iz used), .ref bo, .int (iz bl), .ref cu])), (rs, .inl (cB, 4096, .inl (az fr))), (ex, .inr (4, [.ref xd, .int (iz ne), .int (iz pe)])), (xd, .inl (cB, 1300, .inl (az fe))), (li, .inl (cL, 160, .inr (.inl (azl lm)))), (bo, .inl (cB, 4096, .inl (az fb))), (cu, .inr (4, [.ref cd, .int (iz nc), .int (iz pp)])), (cd, .inl (cB, 1300, .inl (az fc)))] H := hP
    have hD : va_D (AM mo rs ex xd li bo cu cd) [(mo, .inr (3, [.ref rs, .int (iz len), .int (iz co), .ref ex, .int (iz 53), .int (iz le), .ref li, .int (iz used), .ref bo, .int (iz bl), .ref cu])), (rs, .inl (cB, 4096, .inl (az fr))), (ex, .inr (4, [.ref xd, .int (iz ne), .int (iz pe)])), (xd, .inl (cB, 1300, .inl (az fe))), (li, .inl (cL, 160, .inr (.inl (azl lm)))), (bo, .inl (cB, 4096, .inl (az fb))), (cu, .inr (4, [.ref cd, .int (iz nc), .int (iz pp)])), (cd, .inl (cB, 1300, .inl (az fc)))] := hD
    refine lv_aload_n hx hb d_Mo_kind1_15 rfl (lv_at hl 0 rfl) ?_
    refine lv_iload_n hx hb d_Mo_kind1_16 rfl (lv_at hl 1 rfl) ?_
    refine z_if_eq (tgt := 26) hx hb d_Mo_kind1_17 rfl ⟨by omega, by omega⟩ (fun hc17 => ?_) (fun hc17 => ?_)
    · exfalso
      omega
    · refine lv_sipush (v := iz (-1074)) hx hb d_Mo_kind1_20 (by decide) ?_
      refine lv_goto (tgt := 29) hx hb d_Mo_kind1_23 rfl ?_
      refine va_put (D := D) (ci := 3) (v := .int (iz (-1074))) (ty := .int) (C := R_3) (T := T_3) (N := 11) hx hb hts in_3 ty_3 tyok_3 nm_3 hown hK hP hD hS 0 rfl rfl 5 (by decide) (hts _ tw_397) (fun _ h9 => h9) rfl (by decide +kernel) rfl rfl (Nat.le_of_ble_eq_true rfl) d_Mo_kind1_29 (fun H locs hP hD hS => ?_)
      have hP : va_P D vwCl [(mo, .inr (3, [.ref rs, .int (iz len), .int (iz co), .ref ex, .int (iz 53), .int (iz (-1074)), .ref li, .int (iz used), .ref bo, .int (iz bl), .ref cu])), (rs, .inl (cB, 4096, .inl (az fr))), (ex, .inr (4, [.ref xd, .int (iz ne), .int (iz pe)])), (xd, .inl (cB, 1300, .inl (az fe))), (li, .inl (cL, 160, .inr (.inl (azl lm)))), (bo, .inl (cB, 4096, .inl (az fb))), (cu, .inr (4, [.ref cd, .int (iz nc), .int (iz pp)])), (cd, .inl (cB, 1300, .inl (az fc)))] H := hP
      have hD : va_D (AM mo rs ex xd li bo cu cd) [(mo, .inr (3, [.ref rs, .int (iz len), .int (iz co), .ref ex, .int (iz 53), .int (iz (-1074)), .ref li, .int (iz used), .ref bo, .int (iz bl), .ref cu])), (rs, .inl (cB, 4096, .inl (az fr))), (ex, .inr (4, [.ref xd, .int (iz ne), .int (iz pe)])), (xd, .inl (cB, 1300, .inl (az fe))), (li, .inl (cL, 160, .inr (.inl (azl lm)))), (bo, .inl (cB, 4096, .inl (az fb))), (cu, .inr (4, [.ref cd, .int (iz nc), .int (iz pp)])), (cd, .inl (cB, 1300, .inl (az fc)))] := hD
      exact z_vret hx hb hr hlk hS (zR_st zSt_MW) ⟨rfl, _, _, _, ⟨_, _, _, _, _, _, _, _, _, ⟨hK, hP, hD⟩, hrt, hbt, hE, hpe, hlm⟩, hC⟩ d_Mo_kind1_32
theorem d_Mo_kind0_0 : decode b_Mo_kind 0 = .ok (.aload_n 0, 1) := by decide +kernel
theorem d_Mo_kind0_1 : decode b_Mo_kind 1 = .ok (.iload_n 1, 1) := by decide +kernel
theorem d_Mo_kind0_2 : decode b_Mo_kind 2 = .ok (.ifCond .eq (8), 3) := by decide +kernel
theorem d_Mo_kind0_10 : decode b_Mo_kind 10 = .ok (.bipush (24), 2) := by decide +kernel
theorem d_Mo_kind0_12 : decode b_Mo_kind 12 = .ok (.putfield 43, 3) := by decide +kernel
theorem d_Mo_kind0_15 : decode b_Mo_kind 15 = .ok (.aload_n 0, 1) := by decide +kernel
theorem d_Mo_kind0_16 : decode b_Mo_kind 16 = .ok (.iload_n 1, 1) := by decide +kernel
theorem d_Mo_kind0_17 : decode b_Mo_kind 17 = .ok (.ifCond .eq (9), 3) := by decide +kernel
theorem d_Mo_kind0_26 : decode b_Mo_kind 26 = .ok (.sipush (-149), 3) := by decide +kernel
theorem d_Mo_kind0_29 : decode b_Mo_kind 29 = .ok (.putfield 46, 3) := by decide +kernel
theorem d_Mo_kind0_32 : decode b_Mo_kind 32 = .ok (.return_, 1) := by decide +kernel
set_option maxHeartbeats 4000000 in
set_option maxRecDepth 100000 in
theorem c_Mo_kind0 (l : Launch) (D : va_G) (cB cL : ClassId) (mo rs ex xd li bo cu cd : Nat) (co bi le : Int) (rt bt : List Int) (V C : Int)  : Ct l y_Mo_kind (ws_Mo_kind) 0 (AM mo rs ex xd li bo cu cd) [.ref mo, .int (iz 0)] (MW D cB cL mo rs ex xd li bo cu cd co bi le rt bt V C) (zR none (MW D cB cL mo rs ex xd li bo cu cd co 24 (-149) rt bt V C)) := by
  refine z_body zSt_MW (by decide +kernel) rfl (Nat.le_of_ble_eq_true rfl) ?_
  intro p e s m args below meth c ls hx hb hml hr hlk hts0 hown hpre0 H locs hpre hS hl
  have hts : ∀ w ∈ TBL, w.before args s = true := fun w hw => hts0 w (List.mem_cons_of_mem _ hw)
  have hl : lv_has ls 2 [(0, .ref mo), (1, .int (iz 0))] := hl
  have hw := hpre
  refine lv_aload_n hx hb d_Mo_kind0_0 rfl (lv_at hl 0 rfl) ?_
  refine lv_iload_n hx hb d_Mo_kind0_1 rfl (lv_at hl 1 rfl) ?_
  refine z_if_eq (tgt := 10) hx hb d_Mo_kind0_2 rfl ⟨by omega, by omega⟩ (fun hc2 => ?_) (fun hc2 => ?_)
  · refine lv_bipush (v := iz 24) hx hb d_Mo_kind0_10 (by decide) ?_
    have hw9 := hw
    obtain ⟨fc, nc, pp, ⟨len, used, bl, fr, fb, lm, fe, ne, pe, ⟨hK, hP, hD⟩, hrt, hbt, hE, hpe, hlm⟩, hC⟩ := hw9
    have hr1 := hrt.1
    have hr2 := hrt.2.1
    have hb1 := hbt.1
    have hb2 := hbt.2.1
    have hE1 := hE.1
    have hC1 := hC.1
    have hP : va_P D vwCl [(mo, .inr (3, [.ref rs, .int (iz len), .int (iz co), .ref ex, .int (iz bi), .int (iz le), .ref li, .int (iz used), .ref bo, .int (iz bl), .ref cu])), (rs, .inl (cB, 4096, .inl (az fr))), (ex, .inr (4, [.ref xd, .int (iz ne), .int (iz pe)])), (xd, .inl (cB, 1300, .inl (az fe))), (li, .inl (cL, 160, .inr (.inl (azl lm)))), (bo, .inl (cB, 4096, .inl (az fb))), (cu, .inr (4, [.ref cd, .int (iz nc), .int (iz pp)])), (cd, .inl (cB, 1300, .inl (az fc)))] H := hP
    have hD : va_D (AM mo rs ex xd li bo cu cd) [(mo, .inr (3, [.ref rs, .int (iz len), .int (iz co), .ref ex, .int (iz bi), .int (iz le), .ref li, .int (iz used), .ref bo, .int (iz bl), .ref cu])), (rs, .inl (cB, 4096, .inl (az fr))), (ex, .inr (4, [.ref xd, .int (iz ne), .int (iz pe)])), (xd, .inl (cB, 1300, .inl (az fe))), (li, .inl (cL, 160, .inr (.inl (azl lm)))), (bo, .inl (cB, 4096, .inl (az fb))), (cu, .inr (4, [.ref cd, .int (iz nc), .int (iz pp)])), (cd, .inl (cB, 1300, .inl (az fc)))] := hD
    refine va_put (D := D) (ci := 3) (v := .int (iz 24)) (ty := .int) (C := R_3) (T := T_3) (N := 11) hx hb hts in_3 ty_3 tyok_3 nm_3 hown hK hP hD hS 0 rfl rfl 4 (by decide) (hts _ tw_396) (fun _ h9 => h9) rfl (by decide +kernel) rfl rfl (Nat.le_of_ble_eq_true rfl) d_Mo_kind0_12 (fun H locs hP hD hS => ?_)
    have hP : va_P D vwCl [(mo, .inr (3, [.ref rs, .int (iz len), .int (iz co), .ref ex, .int (iz 24), .int (iz le), .ref li, .int (iz used), .ref bo, .int (iz bl), .ref cu])), (rs, .inl (cB, 4096, .inl (az fr))), (ex, .inr (4, [.ref xd, .int (iz ne), .int (iz pe)])), (xd, .inl (cB, 1300, .inl (az fe))), (li, .inl (cL, 160, .inr (.inl (azl lm)))), (bo, .inl (cB, 4096, .inl (az fb))), (cu, .inr (4, [.ref cd, .int (iz nc), .int (iz pp)])), (cd, .inl (cB, 1300, .inl (az fc)))] H := hP
    have hD : va_D (AM mo rs ex xd li bo cu cd) [(mo, .inr (3, [.ref rs, .int (iz len), .int (iz co), .ref ex, .int (iz 24), .int (iz le), .ref li, .int (iz used), .ref bo, .int (iz bl), .ref cu])), (rs, .inl (cB, 4096, .inl (az fr))), (ex, .inr (4, [.ref xd, .int (iz ne), .int (iz pe)])), (xd, .inl (cB, 1300, .inl (az fe))), (li, .inl (cL, 160, .inr (.inl (azl lm)))), (bo, .inl (cB, 4096, .inl (az fb))), (cu, .inr (4, [.ref cd, .int (iz nc), .int (iz pp)])), (cd, .inl (cB, 1300, .inl (az fc)))] := hD
    refine lv_aload_n hx hb d_Mo_kind0_15 rfl (lv_at hl 0 rfl) ?_
    refine lv_iload_n hx hb d_Mo_kind0_16 rfl (lv_at hl 1 rfl) ?_
    refine z_if_eq (tgt := 26) hx hb d_Mo_kind0_17 rfl ⟨by omega, by omega⟩ (fun hc17 => ?_) (fun hc17 => ?_)
    · refine lv_sipush (v := iz (-149)) hx hb d_Mo_kind0_26 (by decide) ?_
      refine va_put (D := D) (ci := 3) (v := .int (iz (-149))) (ty := .int) (C := R_3) (T := T_3) (N := 11) hx hb hts in_3 ty_3 tyok_3 nm_3 hown hK hP hD hS 0 rfl rfl 5 (by decide) (hts _ tw_397) (fun _ h9 => h9) rfl (by decide +kernel) rfl rfl (Nat.le_of_ble_eq_true rfl) d_Mo_kind0_29 (fun H locs hP hD hS => ?_)
      have hP : va_P D vwCl [(mo, .inr (3, [.ref rs, .int (iz len), .int (iz co), .ref ex, .int (iz 24), .int (iz (-149)), .ref li, .int (iz used), .ref bo, .int (iz bl), .ref cu])), (rs, .inl (cB, 4096, .inl (az fr))), (ex, .inr (4, [.ref xd, .int (iz ne), .int (iz pe)])), (xd, .inl (cB, 1300, .inl (az fe))), (li, .inl (cL, 160, .inr (.inl (azl lm)))), (bo, .inl (cB, 4096, .inl (az fb))), (cu, .inr (4, [.ref cd, .int (iz nc), .int (iz pp)])), (cd, .inl (cB, 1300, .inl (az fc)))] H := hP
      have hD : va_D (AM mo rs ex xd li bo cu cd) [(mo, .inr (3, [.ref rs, .int (iz len), .int (iz co), .ref ex, .int (iz 24), .int (iz (-149)), .ref li, .int (iz used), .ref bo, .int (iz bl), .ref cu])), (rs, .inl (cB, 4096, .inl (az fr))), (ex, .inr (4, [.ref xd, .int (iz ne), .int (iz pe)])), (xd, .inl (cB, 1300, .inl (az fe))), (li, .inl (cL, 160, .inr (.inl (azl lm)))), (bo, .inl (cB, 4096, .inl (az fb))), (cu, .inr (4, [.ref cd, .int (iz nc), .int (iz pp)])), (cd, .inl (cB, 1300, .inl (az fc)))] := hD
      exact z_vret hx hb hr hlk hS (zR_st zSt_MW) ⟨rfl, _, _, _, ⟨_, _, _, _, _, _, _, _, _, ⟨hK, hP, hD⟩, hrt, hbt, hE, hpe, hlm⟩, hC⟩ d_Mo_kind0_32
    · exfalso
      omega
  · exfalso
    omega
theorem d_Mo_inf53_0 : decode b_Mo_infinity 0 = .ok (.aload_n 0, 1) := by decide +kernel
theorem d_Mo_inf53_1 : decode b_Mo_infinity 1 = .ok (.getfield 43, 3) := by decide +kernel
theorem d_Mo_inf53_4 : decode b_Mo_infinity 4 = .ok (.bipush (53), 2) := by decide +kernel
theorem d_Mo_inf53_6 : decode b_Mo_infinity 6 = .ok (.if_icmp .ne (9), 3) := by decide +kernel
theorem d_Mo_inf53_9 : decode b_Mo_infinity 9 = .ok (.ldc2_w 49, 3) := by decide +kernel
theorem d_Mo_inf53_12 : decode b_Mo_infinity 12 = .ok (.goto (6), 3) := by decide +kernel
theorem d_Mo_inf53_18 : decode b_Mo_infinity 18 = .ok (.lreturn, 1) := by decide +kernel
set_option maxHeartbeats 4000000 in
set_option maxRecDepth 100000 in
theorem c_Mo_inf53 (l : Launch) (D : va_G) (cB cL : ClassId) (mo rs ex xd li bo cu cd : Nat) (co : Int) (rt bt : List Int) (V C : Int)  : Ct l y_Mo_infinity (ws_Mo_infinity) 0 (AM mo rs ex xd li bo cu cd) [.ref mo] (MW D cB cL mo rs ex xd li bo cu cd co 53 (-1074) rt bt V C) (zR (some (.long (lz 9218868437227405312))) (MW D cB cL mo rs ex xd li bo cu cd co 53 (-1074) rt bt V C)) := by
  refine z_body zSt_MW (by decide +kernel) rfl (Nat.le_of_ble_eq_true rfl) ?_
  intro p e s m args below meth c ls hx hb hml hr hlk hts0 hown hpre0 H locs hpre hS hl
  have hts : ∀ w ∈ TBL, w.before args s = true := fun w hw => hts0 w (List.mem_cons_of_mem _ hw)
  have hl : lv_has ls 1 [(0, .ref mo)] := hl
  have hw := hpre
  refine lv_aload_n hx hb d_Mo_inf53_0 rfl (lv_at hl 0 rfl) ?_
  have hw9 := hw
  obtain ⟨fc, nc, pp, ⟨len, used, bl, fr, fb, lm, fe, ne, pe, ⟨hK, hP, hD⟩, hrt, hbt, hE, hpe, hlm⟩, hC⟩ := hw9
  have hr1 := hrt.1
  have hr2 := hrt.2.1
  have hb1 := hbt.1
  have hb2 := hbt.2.1
  have hE1 := hE.1
  have hC1 := hC.1
  have hP : va_P D vwCl [(mo, .inr (3, [.ref rs, .int (iz len), .int (iz co), .ref ex, .int (iz 53), .int (iz (-1074)), .ref li, .int (iz used), .ref bo, .int (iz bl), .ref cu])), (rs, .inl (cB, 4096, .inl (az fr))), (ex, .inr (4, [.ref xd, .int (iz ne), .int (iz pe)])), (xd, .inl (cB, 1300, .inl (az fe))), (li, .inl (cL, 160, .inr (.inl (azl lm)))), (bo, .inl (cB, 4096, .inl (az fb))), (cu, .inr (4, [.ref cd, .int (iz nc), .int (iz pp)])), (cd, .inl (cB, 1300, .inl (az fc)))] H := hP
  have hD : va_D (AM mo rs ex xd li bo cu cd) [(mo, .inr (3, [.ref rs, .int (iz len), .int (iz co), .ref ex, .int (iz 53), .int (iz (-1074)), .ref li, .int (iz used), .ref bo, .int (iz bl), .ref cu])), (rs, .inl (cB, 4096, .inl (az fr))), (ex, .inr (4, [.ref xd, .int (iz ne), .int (iz pe)])), (xd, .inl (cB, 1300, .inl (az fe))), (li, .inl (cL, 160, .inr (.inl (azl lm)))), (bo, .inl (cB, 4096, .inl (az fb))), (cu, .inr (4, [.ref cd, .int (iz nc), .int (iz pp)])), (cd, .inl (cB, 1300, .inl (az fc)))] := hD
  refine va_get (D := D) (ci := 3) (v := .int (iz 53)) (C := R_3) (T := T_3) (N := 11) hx hb hts in_3 hown hK hP 0 rfl rfl 4 (by decide) (hts _ tw_396) (fun _ h9 => h9) rfl d_Mo_inf53_1 ?_
  refine lv_bipush (v := iz 53) hx hb d_Mo_inf53_4 (by decide) ?_
  refine z_icmp_ne (tgt := 15) hx hb d_Mo_inf53_6 rfl ⟨by omega, by omega⟩ ⟨by omega, by omega⟩ (fun hc6 => ?_) (fun hc6 => ?_)
  · exfalso
    omega
  · refine lv_ldc2 (v := (9218868437227405312 : Int64)) hx hb hown (hts _ tw_464) d_Mo_inf53_9 ?_
    refine z_topl (y := lz (9218868437227405312)) (by decide) ?_
    refine lv_goto (tgt := 18) hx hb d_Mo_inf53_12 rfl ?_
    exact z_lret hx hb hr hlk hS (zR_st zSt_MW) ⟨rfl, hw⟩ d_Mo_inf53_18
theorem d_Mo_fra53_0 : decode b_Mo_fraction 0 = .ok (.lconst 1, 1) := by decide +kernel
theorem d_Mo_fra53_1 : decode b_Mo_fraction 1 = .ok (.aload_n 0, 1) := by decide +kernel
theorem d_Mo_fra53_2 : decode b_Mo_fraction 2 = .ok (.getfield 43, 3) := by decide +kernel
theorem d_Mo_fra53_5 : decode b_Mo_fraction 5 = .ok (.iconst 1, 1) := by decide +kernel
theorem d_Mo_fra53_6 : decode b_Mo_fraction 6 = .ok (.isub, 1) := by decide +kernel
theorem d_Mo_fra53_7 : decode b_Mo_fraction 7 = .ok (.lshl, 1) := by decide +kernel
theorem d_Mo_fra53_8 : decode b_Mo_fraction 8 = .ok (.lconst 1, 1) := by decide +kernel
theorem d_Mo_fra53_9 : decode b_Mo_fraction 9 = .ok (.lsub, 1) := by decide +kernel
theorem d_Mo_fra53_10 : decode b_Mo_fraction 10 = .ok (.lreturn, 1) := by decide +kernel
set_option maxHeartbeats 4000000 in
set_option maxRecDepth 100000 in
theorem c_Mo_fra53 (l : Launch) (D : va_G) (cB cL : ClassId) (mo rs ex xd li bo cu cd : Nat) (co : Int) (rt bt : List Int) (V C : Int)  : Ct l y_Mo_fraction (ws_Mo_fraction) 0 (AM mo rs ex xd li bo cu cd) [.ref mo] (MW D cB cL mo rs ex xd li bo cu cd co 53 (-1074) rt bt V C) (zR (some (.long (lz 4503599627370495))) (MW D cB cL mo rs ex xd li bo cu cd co 53 (-1074) rt bt V C)) := by
  refine z_body zSt_MW (by decide +kernel) rfl (Nat.le_of_ble_eq_true rfl) ?_
  intro p e s m args below meth c ls hx hb hml hr hlk hts0 hown hpre0 H locs hpre hS hl
  have hts : ∀ w ∈ TBL, w.before args s = true := fun w hw => hts0 w (List.mem_cons_of_mem _ hw)
  have hl : lv_has ls 1 [(0, .ref mo)] := hl
  have hw := hpre
  refine lv_lconst (v := lz 1) hx hb d_Mo_fra53_0 (by decide) ?_
  refine lv_aload_n hx hb d_Mo_fra53_1 rfl (lv_at hl 0 rfl) ?_
  have hw9 := hw
  obtain ⟨fc, nc, pp, ⟨len, used, bl, fr, fb, lm, fe, ne, pe, ⟨hK, hP, hD⟩, hrt, hbt, hE, hpe, hlm⟩, hC⟩ := hw9
  have hr1 := hrt.1
  have hr2 := hrt.2.1
  have hb1 := hbt.1
  have hb2 := hbt.2.1
  have hE1 := hE.1
  have hC1 := hC.1
  have hP : va_P D vwCl [(mo, .inr (3, [.ref rs, .int (iz len), .int (iz co), .ref ex, .int (iz 53), .int (iz (-1074)), .ref li, .int (iz used), .ref bo, .int (iz bl), .ref cu])), (rs, .inl (cB, 4096, .inl (az fr))), (ex, .inr (4, [.ref xd, .int (iz ne), .int (iz pe)])), (xd, .inl (cB, 1300, .inl (az fe))), (li, .inl (cL, 160, .inr (.inl (azl lm)))), (bo, .inl (cB, 4096, .inl (az fb))), (cu, .inr (4, [.ref cd, .int (iz nc), .int (iz pp)])), (cd, .inl (cB, 1300, .inl (az fc)))] H := hP
  have hD : va_D (AM mo rs ex xd li bo cu cd) [(mo, .inr (3, [.ref rs, .int (iz len), .int (iz co), .ref ex, .int (iz 53), .int (iz (-1074)), .ref li, .int (iz used), .ref bo, .int (iz bl), .ref cu])), (rs, .inl (cB, 4096, .inl (az fr))), (ex, .inr (4, [.ref xd, .int (iz ne), .int (iz pe)])), (xd, .inl (cB, 1300, .inl (az fe))), (li, .inl (cL, 160, .inr (.inl (azl lm)))), (bo, .inl (cB, 4096, .inl (az fb))), (cu, .inr (4, [.ref cd, .int (iz nc), .int (iz pp)])), (cd, .inl (cB, 1300, .inl (az fc)))] := hD
  refine va_get (D := D) (ci := 3) (v := .int (iz 53)) (C := R_3) (T := T_3) (N := 11) hx hb hts in_3 hown hK hP 0 rfl rfl 4 (by decide) (hts _ tw_396) (fun _ h9 => h9) rfl d_Mo_fra53_2 ?_
  refine lv_iconst (v := iz 1) hx hb d_Mo_fra53_5 rfl ?_
  refine z_isub hx hb d_Mo_fra53_6 ?_
  refine z_lshl hx hb 52 d_Mo_fra53_7 rfl (by decide) ⟨by omega, by omega⟩ ⟨by omega, by omega⟩ ?_
  refine lv_lconst (v := lz 1) hx hb d_Mo_fra53_8 (by decide) ?_
  refine z_lsub hx hb d_Mo_fra53_9 ?_
  refine z_rl (b := 4503599627370495) rfl ?_
  exact z_lret hx hb hr hlk hS (zR_st zSt_MW) ⟨rfl, hw⟩ d_Mo_fra53_10
theorem d_Mo_sgn53_0 : decode b_Mo_sign 0 = .ok (.aload_n 0, 1) := by decide +kernel
theorem d_Mo_sgn53_1 : decode b_Mo_sign 1 = .ok (.getfield 43, 3) := by decide +kernel
theorem d_Mo_sgn53_4 : decode b_Mo_sign 4 = .ok (.bipush (53), 2) := by decide +kernel
theorem d_Mo_sgn53_6 : decode b_Mo_sign 6 = .ok (.if_icmp .ne (9), 3) := by decide +kernel
theorem d_Mo_sgn53_9 : decode b_Mo_sign 9 = .ok (.ldc2_w 53, 3) := by decide +kernel
theorem d_Mo_sgn53_12 : decode b_Mo_sign 12 = .ok (.goto (6), 3) := by decide +kernel
theorem d_Mo_sgn53_18 : decode b_Mo_sign 18 = .ok (.lreturn, 1) := by decide +kernel
set_option maxHeartbeats 4000000 in
set_option maxRecDepth 100000 in
theorem c_Mo_sgn53 (l : Launch) (D : va_G) (cB cL : ClassId) (mo rs ex xd li bo cu cd : Nat) (co : Int) (rt bt : List Int) (V C : Int)  : Ct l y_Mo_sign (ws_Mo_sign) 0 (AM mo rs ex xd li bo cu cd) [.ref mo] (MW D cB cL mo rs ex xd li bo cu cd co 53 (-1074) rt bt V C) (zR (some (.long (lz (-9223372036854775808)))) (MW D cB cL mo rs ex xd li bo cu cd co 53 (-1074) rt bt V C)) := by
  refine z_body zSt_MW (by decide +kernel) rfl (Nat.le_of_ble_eq_true rfl) ?_
  intro p e s m args below meth c ls hx hb hml hr hlk hts0 hown hpre0 H locs hpre hS hl
  have hts : ∀ w ∈ TBL, w.before args s = true := fun w hw => hts0 w (List.mem_cons_of_mem _ hw)
  have hl : lv_has ls 1 [(0, .ref mo)] := hl
  have hw := hpre
  refine lv_aload_n hx hb d_Mo_sgn53_0 rfl (lv_at hl 0 rfl) ?_
  have hw9 := hw
  obtain ⟨fc, nc, pp, ⟨len, used, bl, fr, fb, lm, fe, ne, pe, ⟨hK, hP, hD⟩, hrt, hbt, hE, hpe, hlm⟩, hC⟩ := hw9
  have hr1 := hrt.1
  have hr2 := hrt.2.1
  have hb1 := hbt.1
  have hb2 := hbt.2.1
  have hE1 := hE.1
  have hC1 := hC.1
  have hP : va_P D vwCl [(mo, .inr (3, [.ref rs, .int (iz len), .int (iz co), .ref ex, .int (iz 53), .int (iz (-1074)), .ref li, .int (iz used), .ref bo, .int (iz bl), .ref cu])), (rs, .inl (cB, 4096, .inl (az fr))), (ex, .inr (4, [.ref xd, .int (iz ne), .int (iz pe)])), (xd, .inl (cB, 1300, .inl (az fe))), (li, .inl (cL, 160, .inr (.inl (azl lm)))), (bo, .inl (cB, 4096, .inl (az fb))), (cu, .inr (4, [.ref cd, .int (iz nc), .int (iz pp)])), (cd, .inl (cB, 1300, .inl (az fc)))] H := hP
  have hD : va_D (AM mo rs ex xd li bo cu cd) [(mo, .inr (3, [.ref rs, .int (iz len), .int (iz co), .ref ex, .int (iz 53), .int (iz (-1074)), .ref li, .int (iz used), .ref bo, .int (iz bl), .ref cu])), (rs, .inl (cB, 4096, .inl (az fr))), (ex, .inr (4, [.ref xd, .int (iz ne), .int (iz pe)])), (xd, .inl (cB, 1300, .inl (az fe))), (li, .inl (cL, 160, .inr (.inl (azl lm)))), (bo, .inl (cB, 4096, .inl (az fb))), (cu, .inr (4, [.ref cd, .int (iz nc), .int (iz pp)])), (cd, .inl (cB, 1300, .inl (az fc)))] := hD
  refine va_get (D := D) (ci := 3) (v := .int (iz 53)) (C := R_3) (T := T_3) (N := 11) hx hb hts in_3 hown hK hP 0 rfl rfl 4 (by decide) (hts _ tw_396) (fun _ h9 => h9) rfl d_Mo_sgn53_1 ?_
  refine lv_bipush (v := iz 53) hx hb d_Mo_sgn53_4 (by decide) ?_
  refine z_icmp_ne (tgt := 15) hx hb d_Mo_sgn53_6 rfl ⟨by omega, by omega⟩ ⟨by omega, by omega⟩ (fun hc6 => ?_) (fun hc6 => ?_)
  · exfalso
    omega
  · refine lv_ldc2 (v := (-9223372036854775808 : Int64)) hx hb hown (hts _ tw_456) d_Mo_sgn53_9 ?_
    refine z_topl (y := lz (-9223372036854775808)) (by decide) ?_
    refine lv_goto (tgt := 18) hx hb d_Mo_sgn53_12 rfl ?_
    exact z_lret hx hb hr hlk hS (zR_st zSt_MW) ⟨rfl, hw⟩ d_Mo_sgn53_18
theorem d_Mo_none53_0 : decode b_Mo_isNone 0 = .ok (.lload_n 1, 1) := by decide +kernel
theorem d_Mo_none53_1 : decode b_Mo_isNone 1 = .ok (.aload_n 0, 1) := by decide +kernel
theorem d_Mo_none53_2 : decode b_Mo_isNone 2 = .ok (.invokevirtual 57, 3) := by decide +kernel
theorem d_Mo_none53_5 : decode b_Mo_isNone 5 = .ok (.lcmp, 1) := by decide +kernel
theorem d_Mo_none53_6 : decode b_Mo_isNone 6 = .ok (.ifCond .le (7), 3) := by decide +kernel
theorem d_Mo_none53_9 : decode b_Mo_isNone 9 = .ok (.iconst 1, 1) := by decide +kernel
theorem d_Mo_none53_10 : decode b_Mo_isNone 10 = .ok (.goto (4), 3) := by decide +kernel
theorem d_Mo_none53_13 : decode b_Mo_isNone 13 = .ok (.iconst 0, 1) := by decide +kernel
theorem d_Mo_none53_14 : decode b_Mo_isNone 14 = .ok (.ireturn, 1) := by decide +kernel
set_option maxHeartbeats 4000000 in
set_option maxRecDepth 100000 in
theorem c_Mo_none53 (l : Launch) (D : va_G) (cB cL : ClassId) (mo rs ex xd li bo cu cd : Nat) (co : Int) (rt bt : List Int) (V C : Int) (sz : Int) (hsz : lR sz) : Ct l y_Mo_isNone (ws_Mo_isNone) 1 (AM mo rs ex xd li bo cu cd) [.ref mo, .long (lz sz)] (MW D cB cL mo rs ex xd li bo cu cd co 53 (-1074) rt bt V C) (zR (some (.int (iz (if 9218868437227405312 < sz then 1 else 0)))) (MW D cB cL mo rs ex xd li bo cu cd co 53 (-1074) rt bt V C)) := by
  refine z_body zSt_MW (by decide +kernel) rfl (Nat.le_of_ble_eq_true rfl) ?_
  intro p e s m args below meth c ls hx hb hml hr hlk hts0 hown hpre0 H locs hpre hS hl
  have hts : ∀ w ∈ TBL, w.before args s = true := fun w hw => hts0 w (List.mem_cons_of_mem _ hw)
  have hl : lv_has ls 3 [(0, .ref mo), (1, .long (lz sz))] := hl
  have hw := hpre
  refine lv_lload_n hx hb d_Mo_none53_0 rfl (lv_at hl 1 rfl) ?_
  refine lv_aload_n hx hb d_Mo_none53_1 rfl (lv_at hl 0 rfl) ?_
  have hct := c_Mo_inf53 l D cB cL mo rs ex xd li bo cu cd co rt bt V C
  have hw9 := hw
  obtain ⟨fc, nc, pp, ⟨len, used, bl, fr, fb, lm, fe, ne, pe, ⟨hK, hP, hD⟩, hrt, hbt, hE, hpe, hlm⟩, hC⟩ := hw9
  have hr1 := hrt.1
  have hr2 := hrt.2.1
  have hb1 := hbt.1
  have hb2 := hbt.2.1
  have hE1 := hE.1
  have hC1 := hC.1
  have hP : va_P D vwCl [(mo, .inr (3, [.ref rs, .int (iz len), .int (iz co), .ref ex, .int (iz 53), .int (iz (-1074)), .ref li, .int (iz used), .ref bo, .int (iz bl), .ref cu])), (rs, .inl (cB, 4096, .inl (az fr))), (ex, .inr (4, [.ref xd, .int (iz ne), .int (iz pe)])), (xd, .inl (cB, 1300, .inl (az fe))), (li, .inl (cL, 160, .inr (.inl (azl lm)))), (bo, .inl (cB, 4096, .inl (az fb))), (cu, .inr (4, [.ref cd, .int (iz nc), .int (iz pp)])), (cd, .inl (cB, 1300, .inl (az fc)))] H := hP
  have hD : va_D (AM mo rs ex xd li bo cu cd) [(mo, .inr (3, [.ref rs, .int (iz len), .int (iz co), .ref ex, .int (iz 53), .int (iz (-1074)), .ref li, .int (iz used), .ref bo, .int (iz bl), .ref cu])), (rs, .inl (cB, 4096, .inl (az fr))), (ex, .inr (4, [.ref xd, .int (iz ne), .int (iz pe)])), (xd, .inl (cB, 1300, .inl (az fe))), (li, .inl (cL, 160, .inr (.inl (azl lm)))), (bo, .inl (cB, 4096, .inl (az fb))), (cu, .inr (4, [.ref cd, .int (iz nc), .int (iz pp)])), (cd, .inl (cB, 1300, .inl (az fc)))] := hD
  refine z_go (va_runV (As := []) (rest := [.long (lz sz)]) ⟨hx, hb, hml, hown, hts⟩ hct.2 (z_cwV hts w_Mo_infinity tw_460 (by decide)) (z_preV hct.1 (va_recv hK hP (ci := 3) (q0 := 0) rfl rfl) hw) rfl rfl hl.1 rfl (lv_room (Nat.le_of_ble_eq_true rfl)) d_Mo_none53_2 ⟨Nat.zero_le _, Nat.zero_le _⟩) hS (fun _ h9 => h9) (fun v9 t9 H locs hv9 hp9 hz9 hk9 hS => ?_)
  obtain ⟨rfl, hw⟩ := hp9
  have hw := MW.moved hv9.symm hw
  refine W.eq (g2 := F0 m 5 ls [.long (lz 9218868437227405312), .long (lz sz)]) rfl ?_
  refine z_lif_le (tgt := 13) hx hb d_Mo_none53_5 d_Mo_none53_6 rfl ⟨by omega, by omega⟩ ⟨by omega, by omega⟩ (fun hc5 => ?_) (fun hc5 => ?_)
  · refine lv_iconst (v := iz 0) hx hb d_Mo_none53_13 rfl ?_
    exact z_zret hx hb hr rfl hlk hS (zR_st zSt_MW) ⟨by first | rw [if_pos hc5] | rw [if_neg (by omega)], hw⟩ d_Mo_none53_14
  · refine lv_iconst (v := iz 1) hx hb d_Mo_none53_9 rfl ?_
    refine lv_goto (tgt := 14) hx hb d_Mo_none53_10 rfl ?_
    exact z_zret hx hb hr rfl hlk hS (zR_st zSt_MW) ⟨by first | rw [if_pos hc5] | rw [if_neg (by omega)], hw⟩ d_Mo_none53_14
theorem d_Mo_c53_0 : decode b_Mo_c 0 = .ok (.lload_n 1, 1) := by decide +kernel
theorem d_Mo_c53_1 : decode b_Mo_c 1 = .ok (.aload_n 0, 1) := by decide +kernel
theorem d_Mo_c53_2 : decode b_Mo_c 2 = .ok (.invokevirtual 61, 3) := by decide +kernel
theorem d_Mo_c53_5 : decode b_Mo_c 5 = .ok (.land, 1) := by decide +kernel
theorem d_Mo_c53_6 : decode b_Mo_c 6 = .ok (.lstore_n 3, 1) := by decide +kernel
theorem d_Mo_c53_7 : decode b_Mo_c 7 = .ok (.lload_n 1, 1) := by decide +kernel
theorem d_Mo_c53_8 : decode b_Mo_c 8 = .ok (.aload_n 0, 1) := by decide +kernel
theorem d_Mo_c53_9 : decode b_Mo_c 9 = .ok (.invokevirtual 61, 3) := by decide +kernel
theorem d_Mo_c53_12 : decode b_Mo_c 12 = .ok (.lcmp, 1) := by decide +kernel
theorem d_Mo_c53_13 : decode b_Mo_c 13 = .ok (.ifCond .le (14), 3) := by decide +kernel
theorem d_Mo_c53_16 : decode b_Mo_c 16 = .ok (.lload_n 3, 1) := by decide +kernel
theorem d_Mo_c53_17 : decode b_Mo_c 17 = .ok (.aload_n 0, 1) := by decide +kernel
theorem d_Mo_c53_18 : decode b_Mo_c 18 = .ok (.invokevirtual 61, 3) := by decide +kernel
theorem d_Mo_c53_21 : decode b_Mo_c 21 = .ok (.lconst 1, 1) := by decide +kernel
theorem d_Mo_c53_22 : decode b_Mo_c 22 = .ok (.ladd, 1) := by decide +kernel
theorem d_Mo_c53_23 : decode b_Mo_c 23 = .ok (.lor, 1) := by decide +kernel
theorem d_Mo_c53_24 : decode b_Mo_c 24 = .ok (.goto (4), 3) := by decide +kernel
theorem d_Mo_c53_27 : decode b_Mo_c 27 = .ok (.lload_n 3, 1) := by decide +kernel
theorem d_Mo_c53_28 : decode b_Mo_c 28 = .ok (.lreturn, 1) := by decide +kernel
set_option maxHeartbeats 4000000 in
set_option maxRecDepth 100000 in
theorem c_Mo_c53 (l : Launch) (D : va_G) (cB cL : ClassId) (mo rs ex xd li bo cu cd : Nat) (co : Int) (rt bt : List Int) (V C : Int) (sz : Int) (hsz : 0 ≤ sz ∧ sz ≤ 9223372036854775807) : Ct l y_Mo_c (ws_Mo_c) 1 (AM mo rs ex xd li bo cu cd) [.ref mo, .long (lz sz)] (MW D cB cL mo rs ex xd li bo cu cd co 53 (-1074) rt bt V C) (zR (some (.long (lz (if 4503599627370495 < sz then 2 ^ 52 + sz % 2 ^ 52 else sz % 2 ^ 52)))) (MW D cB cL mo rs ex xd li bo cu cd co 53 (-1074) rt bt V C)) := by
  refine z_body zSt_MW (by decide +kernel) rfl (Nat.le_of_ble_eq_true rfl) ?_
  intro p e s m args below meth c ls hx hb hml hr hlk hts0 hown hpre0 H locs hpre hS hl
  have hts : ∀ w ∈ TBL, w.before args s = true := fun w hw => hts0 w (List.mem_cons_of_mem _ hw)
  have hl : lv_has ls 5 [(0, .ref mo), (1, .long (lz sz))] := hl
  have hw := hpre
  refine lv_lload_n hx hb d_Mo_c53_0 rfl (lv_at hl 1 rfl) ?_
  refine lv_aload_n hx hb d_Mo_c53_1 rfl (lv_at hl 0 rfl) ?_
  have hct := c_Mo_fra53 l D cB cL mo rs ex xd li bo cu cd co rt bt V C
  have hw9 := hw
  obtain ⟨fc, nc, pp, ⟨len, used, bl, fr, fb, lm, fe, ne, pe, ⟨hK, hP, hD⟩, hrt, hbt, hE, hpe, hlm⟩, hC⟩ := hw9
  have hr1 := hrt.1
  have hr2 := hrt.2.1
  have hb1 := hbt.1
  have hb2 := hbt.2.1
  have hE1 := hE.1
  have hC1 := hC.1
  have hP : va_P D vwCl [(mo, .inr (3, [.ref rs, .int (iz len), .int (iz co), .ref ex, .int (iz 53), .int (iz (-1074)), .ref li, .int (iz used), .ref bo, .int (iz bl), .ref cu])), (rs, .inl (cB, 4096, .inl (az fr))), (ex, .inr (4, [.ref xd, .int (iz ne), .int (iz pe)])), (xd, .inl (cB, 1300, .inl (az fe))), (li, .inl (cL, 160, .inr (.inl (azl lm)))), (bo, .inl (cB, 4096, .inl (az fb))), (cu, .inr (4, [.ref cd, .int (iz nc), .int (iz pp)])), (cd, .inl (cB, 1300, .inl (az fc)))] H := hP
  have hD : va_D (AM mo rs ex xd li bo cu cd) [(mo, .inr (3, [.ref rs, .int (iz len), .int (iz co), .ref ex, .int (iz 53), .int (iz (-1074)), .ref li, .int (iz used), .ref bo, .int (iz bl), .ref cu])), (rs, .inl (cB, 4096, .inl (az fr))), (ex, .inr (4, [.ref xd, .int (iz ne), .int (iz pe)])), (xd, .inl (cB, 1300, .inl (az fe))), (li, .inl (cL, 160, .inr (.inl (azl lm)))), (bo, .inl (cB, 4096, .inl (az fb))), (cu, .inr (4, [.ref cd, .int (iz nc), .int (iz pp)])), (cd, .inl (cB, 1300, .inl (az fc)))] := hD
  refine z_go (va_runV (As := []) (rest := [.long (lz sz)]) ⟨hx, hb, hml, hown, hts⟩ hct.2 (z_cwV hts w_Mo_fraction tw_482 (by decide)) (z_preV hct.1 (va_recv hK hP (ci := 3) (q0 := 0) rfl rfl) hw) rfl rfl hl.1 rfl (lv_room (Nat.le_of_ble_eq_true rfl)) d_Mo_c53_2 ⟨Nat.zero_le _, Nat.zero_le _⟩) hS (fun _ h9 => h9) (fun v9 t9 H locs hv9 hp9 hz9 hk9 hS => ?_)
  obtain ⟨rfl, hw⟩ := hp9
  have hw := MW.moved hv9.symm hw
  refine W.eq (g2 := F0 m 5 ls [.long (lz 4503599627370495), .long (lz sz)]) rfl ?_
  refine z_landm hx hb 52 d_Mo_c53_5 (by decide) rfl ⟨by omega, by omega⟩ ?_
  refine lv_lstore_n hx hb d_Mo_c53_6 rfl hl (by decide) rfl (fun ls hl => ?_)
  have hl : lv_has ls 5 [(3, .long (lz (sz % 2 ^ 52))), (0, .ref mo), (1, .long (lz sz))] := hl
  refine lv_lload_n hx hb d_Mo_c53_7 rfl (lv_at hl 2 rfl) ?_
  refine lv_aload_n hx hb d_Mo_c53_8 rfl (lv_at hl 1 rfl) ?_
  have hct := c_Mo_fra53 l D cB cL mo rs ex xd li bo cu cd co rt bt V C
  have hw9 := hw
  obtain ⟨fc, nc, pp, ⟨len, used, bl, fr, fb, lm, fe, ne, pe, ⟨hK, hP, hD⟩, hrt, hbt, hE, hpe, hlm⟩, hC⟩ := hw9
  have hr1 := hrt.1
  have hr2 := hrt.2.1
  have hb1 := hbt.1
  have hb2 := hbt.2.1
  have hE1 := hE.1
  have hC1 := hC.1
  have hP : va_P D vwCl [(mo, .inr (3, [.ref rs, .int (iz len), .int (iz co), .ref ex, .int (iz 53), .int (iz (-1074)), .ref li, .int (iz used), .ref bo, .int (iz bl), .ref cu])), (rs, .inl (cB, 4096, .inl (az fr))), (ex, .inr (4, [.ref xd, .int (iz ne), .int (iz pe)])), (xd, .inl (cB, 1300, .inl (az fe))), (li, .inl (cL, 160, .inr (.inl (azl lm)))), (bo, .inl (cB, 4096, .inl (az fb))), (cu, .inr (4, [.ref cd, .int (iz nc), .int (iz pp)])), (cd, .inl (cB, 1300, .inl (az fc)))] H := hP
  have hD : va_D (AM mo rs ex xd li bo cu cd) [(mo, .inr (3, [.ref rs, .int (iz len), .int (iz co), .ref ex, .int (iz 53), .int (iz (-1074)), .ref li, .int (iz used), .ref bo, .int (iz bl), .ref cu])), (rs, .inl (cB, 4096, .inl (az fr))), (ex, .inr (4, [.ref xd, .int (iz ne), .int (iz pe)])), (xd, .inl (cB, 1300, .inl (az fe))), (li, .inl (cL, 160, .inr (.inl (azl lm)))), (bo, .inl (cB, 4096, .inl (az fb))), (cu, .inr (4, [.ref cd, .int (iz nc), .int (iz pp)])), (cd, .inl (cB, 1300, .inl (az fc)))] := hD
  refine z_go (va_runV (As := []) (rest := [.long (lz sz)]) ⟨hx, hb, hml, hown, hts⟩ hct.2 (z_cwV hts w_Mo_fraction tw_482 (by decide)) (z_preV hct.1 (va_recv hK hP (ci := 3) (q0 := 0) rfl rfl) hw) rfl rfl hl.1 rfl (lv_room (Nat.le_of_ble_eq_true rfl)) d_Mo_c53_9 ⟨Nat.zero_le _, Nat.zero_le _⟩) hS (fun _ h9 => h9) (fun v9 t9 H locs hv9 hp9 hz9 hk9 hS => ?_)
  obtain ⟨rfl, hw⟩ := hp9
  have hw := MW.moved hv9.symm hw
  refine W.eq (g2 := F0 m 12 ls [.long (lz 4503599627370495), .long (lz sz)]) rfl ?_
  refine z_lif_le (tgt := 27) hx hb d_Mo_c53_12 d_Mo_c53_13 rfl ⟨by omega, by omega⟩ ⟨by omega, by omega⟩ (fun hc12 => ?_) (fun hc12 => ?_)
  · refine lv_lload_n hx hb d_Mo_c53_27 rfl (lv_at hl 0 rfl) ?_
    exact z_lret hx hb hr hlk hS (zR_st zSt_MW) ⟨by first | rw [if_pos hc12] | rw [if_neg (by omega)], hw⟩ d_Mo_c53_28
  · refine lv_lload_n hx hb d_Mo_c53_16 rfl (lv_at hl 0 rfl) ?_
    refine lv_aload_n hx hb d_Mo_c53_17 rfl (lv_at hl 1 rfl) ?_
    have hct := c_Mo_fra53 l D cB cL mo rs ex xd li bo cu cd co rt bt V C
    have hw9 := hw
    obtain ⟨fc, nc, pp, ⟨len, used, bl, fr, fb, lm, fe, ne, pe, ⟨hK, hP, hD⟩, hrt, hbt, hE, hpe, hlm⟩, hC⟩ := hw9
    have hr1 := hrt.1
    have hr2 := hrt.2.1
    have hb1 := hbt.1
    have hb2 := hbt.2.1
    have hE1 := hE.1
    have hC1 := hC.1
    have hP : va_P D vwCl [(mo, .inr (3, [.ref rs, .int (iz len), .int (iz co), .ref ex, .int (iz 53), .int (iz (-1074)), .ref li, .int (iz used), .ref bo, .int (iz bl), .ref cu])), (rs, .inl (cB, 4096, .inl (az fr))), (ex, .inr (4, [.ref xd, .int (iz ne), .int (iz pe)])), (xd, .inl (cB, 1300, .inl (az fe))), (li, .inl (cL, 160, .inr (.inl (azl lm)))), (bo, .inl (cB, 4096, .inl (az fb))), (cu, .inr (4, [.ref cd, .int (iz nc), .int (iz pp)])), (cd, .inl (cB, 1300, .inl (az fc)))] H := hP
    have hD : va_D (AM mo rs ex xd li bo cu cd) [(mo, .inr (3, [.ref rs, .int (iz len), .int (iz co), .ref ex, .int (iz 53), .int (iz (-1074)), .ref li, .int (iz used), .ref bo, .int (iz bl), .ref cu])), (rs, .inl (cB, 4096, .inl (az fr))), (ex, .inr (4, [.ref xd, .int (iz ne), .int (iz pe)])), (xd, .inl (cB, 1300, .inl (az fe))), (li, .inl (cL, 160, .inr (.inl (azl lm)))), (bo, .inl (cB, 4096, .inl (az fb))), (cu, .inr (4, [.ref cd, .int (iz nc), .int (iz pp)])), (cd, .inl (cB, 1300, .inl (az fc)))] := hD
    refine z_go (va_runV (As := []) (rest := [.long (lz (sz % 2 ^ 52))]) ⟨hx, hb, hml, hown, hts⟩ hct.2 (z_cwV hts w_Mo_fraction tw_482 (by decide)) (z_preV hct.1 (va_recv hK hP (ci := 3) (q0 := 0) rfl rfl) hw) rfl rfl hl.1 rfl (lv_room (Nat.le_of_ble_eq_true rfl)) d_Mo_c53_18 ⟨Nat.zero_le _, Nat.zero_le _⟩) hS (fun _ h9 => h9) (fun v9 t9 H locs hv9 hp9 hz9 hk9 hS => ?_)
    obtain ⟨rfl, hw⟩ := hp9
    have hw := MW.moved hv9.symm hw
    refine W.eq (g2 := F0 m 21 ls [.long (lz 4503599627370495), .long (lz (sz % 2 ^ 52))]) rfl ?_
    refine lv_lconst (v := lz 1) hx hb d_Mo_c53_21 (by decide) ?_
    refine z_ladd hx hb d_Mo_c53_22 ?_
    refine lv_lor hx hb d_Mo_c53_23 ?_
    refine z_topl (y := lz (2 ^ 52 + sz % 2 ^ 52)) (lor_c 52 (by decide) sz) ?_
    refine lv_goto (tgt := 28) hx hb d_Mo_c53_24 rfl ?_
    exact z_lret hx hb hr hlk hS (zR_st zSt_MW) ⟨by first | rw [if_pos hc12] | rw [if_neg (by omega)], hw⟩ d_Mo_c53_28
theorem d_Mo_q53_0 : decode b_Mo_q 0 = .ok (.lload_n 1, 1) := by decide +kernel
theorem d_Mo_q53_1 : decode b_Mo_q 1 = .ok (.aload_n 0, 1) := by decide +kernel
theorem d_Mo_q53_2 : decode b_Mo_q 2 = .ok (.getfield 43, 3) := by decide +kernel
theorem d_Mo_q53_5 : decode b_Mo_q 5 = .ok (.iconst 1, 1) := by decide +kernel
theorem d_Mo_q53_6 : decode b_Mo_q 6 = .ok (.isub, 1) := by decide +kernel
theorem d_Mo_q53_7 : decode b_Mo_q 7 = .ok (.lushr, 1) := by decide +kernel
theorem d_Mo_q53_8 : decode b_Mo_q 8 = .ok (.lstore_n 3, 1) := by decide +kernel
theorem d_Mo_q53_9 : decode b_Mo_q 9 = .ok (.lload_n 3, 1) := by decide +kernel
theorem d_Mo_q53_10 : decode b_Mo_q 10 = .ok (.lconst 0, 1) := by decide +kernel
theorem d_Mo_q53_11 : decode b_Mo_q 11 = .ok (.lcmp, 1) := by decide +kernel
theorem d_Mo_q53_12 : decode b_Mo_q 12 = .ok (.ifCond .ne (10), 3) := by decide +kernel
theorem d_Mo_q53_15 : decode b_Mo_q 15 = .ok (.aload_n 0, 1) := by decide +kernel
theorem d_Mo_q53_16 : decode b_Mo_q 16 = .ok (.getfield 46, 3) := by decide +kernel
theorem d_Mo_q53_19 : decode b_Mo_q 19 = .ok (.goto (12), 3) := by decide +kernel
theorem d_Mo_q53_22 : decode b_Mo_q 22 = .ok (.aload_n 0, 1) := by decide +kernel
theorem d_Mo_q53_23 : decode b_Mo_q 23 = .ok (.getfield 46, 3) := by decide +kernel
theorem d_Mo_q53_26 : decode b_Mo_q 26 = .ok (.lload_n 3, 1) := by decide +kernel
theorem d_Mo_q53_27 : decode b_Mo_q 27 = .ok (.l2i, 1) := by decide +kernel
theorem d_Mo_q53_28 : decode b_Mo_q 28 = .ok (.iadd, 1) := by decide +kernel
theorem d_Mo_q53_29 : decode b_Mo_q 29 = .ok (.iconst 1, 1) := by decide +kernel
theorem d_Mo_q53_30 : decode b_Mo_q 30 = .ok (.isub, 1) := by decide +kernel
theorem d_Mo_q53_31 : decode b_Mo_q 31 = .ok (.ireturn, 1) := by decide +kernel
set_option maxHeartbeats 4000000 in
set_option maxRecDepth 100000 in
theorem c_Mo_q53 (l : Launch) (D : va_G) (cB cL : ClassId) (mo rs ex xd li bo cu cd : Nat) (co : Int) (rt bt : List Int) (V C : Int) (sz : Int) (hsz : 0 ≤ sz ∧ sz ≤ 9223372036854775807) : Ct l y_Mo_q (ws_Mo_q) 0 (AM mo rs ex xd li bo cu cd) [.ref mo, .long (lz sz)] (MW D cB cL mo rs ex xd li bo cu cd co 53 (-1074) rt bt V C) (zR (some (.int (iz (if sz / 2 ^ 52 = 0 then -1074 else -1074 + sz / 2 ^ 52 - 1)))) (MW D cB cL mo rs ex xd li bo cu cd co 53 (-1074) rt bt V C)) := by
  refine z_body zSt_MW (by decide +kernel) rfl (Nat.le_of_ble_eq_true rfl) ?_
  intro p e s m args below meth c ls hx hb hml hr hlk hts0 hown hpre0 H locs hpre hS hl
  have hts : ∀ w ∈ TBL, w.before args s = true := fun w hw => hts0 w (List.mem_cons_of_mem _ hw)
  have hl : lv_has ls 5 [(0, .ref mo), (1, .long (lz sz))] := hl
  have hw := hpre
  refine lv_lload_n hx hb d_Mo_q53_0 rfl (lv_at hl 1 rfl) ?_
  refine lv_aload_n hx hb d_Mo_q53_1 rfl (lv_at hl 0 rfl) ?_
  have hw9 := hw
  obtain ⟨fc, nc, pp, ⟨len, used, bl, fr, fb, lm, fe, ne, pe, ⟨hK, hP, hD⟩, hrt, hbt, hE, hpe, hlm⟩, hC⟩ := hw9
  have hr1 := hrt.1
  have hr2 := hrt.2.1
  have hb1 := hbt.1
  have hb2 := hbt.2.1
  have hE1 := hE.1
  have hC1 := hC.1
  have hP : va_P D vwCl [(mo, .inr (3, [.ref rs, .int (iz len), .int (iz co), .ref ex, .int (iz 53), .int (iz (-1074)), .ref li, .int (iz used), .ref bo, .int (iz bl), .ref cu])), (rs, .inl (cB, 4096, .inl (az fr))), (ex, .inr (4, [.ref xd, .int (iz ne), .int (iz pe)])), (xd, .inl (cB, 1300, .inl (az fe))), (li, .inl (cL, 160, .inr (.inl (azl lm)))), (bo, .inl (cB, 4096, .inl (az fb))), (cu, .inr (4, [.ref cd, .int (iz nc), .int (iz pp)])), (cd, .inl (cB, 1300, .inl (az fc)))] H := hP
  have hD : va_D (AM mo rs ex xd li bo cu cd) [(mo, .inr (3, [.ref rs, .int (iz len), .int (iz co), .ref ex, .int (iz 53), .int (iz (-1074)), .ref li, .int (iz used), .ref bo, .int (iz bl), .ref cu])), (rs, .inl (cB, 4096, .inl (az fr))), (ex, .inr (4, [.ref xd, .int (iz ne), .int (iz pe)])), (xd, .inl (cB, 1300, .inl (az fe))), (li, .inl (cL, 160, .inr (.inl (azl lm)))), (bo, .inl (cB, 4096, .inl (az fb))), (cu, .inr (4, [.ref cd, .int (iz nc), .int (iz pp)])), (cd, .inl (cB, 1300, .inl (az fc)))] := hD
  refine va_get (D := D) (ci := 3) (v := .int (iz 53)) (C := R_3) (T := T_3) (N := 11) hx hb hts in_3 hown hK hP 0 rfl rfl 4 (by decide) (hts _ tw_396) (fun _ h9 => h9) rfl d_Mo_q53_2 ?_
  refine lv_iconst (v := iz 1) hx hb d_Mo_q53_5 rfl ?_
  refine z_isub hx hb d_Mo_q53_6 ?_
  refine z_lushr hx hb 52 d_Mo_q53_7 rfl (by decide) ⟨by omega, by omega⟩ ?_
  have hsq : 0 ≤ sz / 2 ^ 52 ∧ sz / 2 ^ 52 ≤ sz := by omega
  refine lv_lstore_n hx hb d_Mo_q53_8 rfl hl (by decide) rfl (fun ls hl => ?_)
  have hl : lv_has ls 5 [(3, .long (lz (sz / 2 ^ 52))), (0, .ref mo), (1, .long (lz sz))] := hl
  refine lv_lload_n hx hb d_Mo_q53_9 rfl (lv_at hl 0 rfl) ?_
  refine lv_lconst (v := lz 0) hx hb d_Mo_q53_10 (by decide) ?_
  refine z_lif_ne (tgt := 22) hx hb d_Mo_q53_11 d_Mo_q53_12 rfl ⟨by omega, by omega⟩ ⟨by omega, by omega⟩ (fun hc11 => ?_) (fun hc11 => ?_)
  · refine lv_aload_n hx hb d_Mo_q53_22 rfl (lv_at hl 1 rfl) ?_
    refine va_get (D := D) (ci := 3) (v := .int (iz (-1074))) (C := R_3) (T := T_3) (N := 11) hx hb hts in_3 hown hK hP 0 rfl rfl 5 (by decide) (hts _ tw_397) (fun _ h9 => h9) rfl d_Mo_q53_23 ?_
    refine lv_lload_n hx hb d_Mo_q53_26 rfl (lv_at hl 0 rfl) ?_
    refine z_l2i hx hb d_Mo_q53_27 ?_
    refine z_iadd hx hb d_Mo_q53_28 ?_
    refine lv_iconst (v := iz 1) hx hb d_Mo_q53_29 rfl ?_
    refine z_isub hx hb d_Mo_q53_30 ?_
    exact z_iret hx hb hr hlk hS (zR_st zSt_MW) ⟨by first | rw [if_pos hc11] | rw [if_neg hc11], hw⟩ d_Mo_q53_31
  · refine lv_aload_n hx hb d_Mo_q53_15 rfl (lv_at hl 1 rfl) ?_
    refine va_get (D := D) (ci := 3) (v := .int (iz (-1074))) (C := R_3) (T := T_3) (N := 11) hx hb hts in_3 hown hK hP 0 rfl rfl 5 (by decide) (hts _ tw_397) (fun _ h9 => h9) rfl d_Mo_q53_16 ?_
    refine lv_goto (tgt := 31) hx hb d_Mo_q53_19 rfl ?_
    exact z_iret hx hb hr hlk hS (zR_st zSt_MW) ⟨by first | rw [if_pos hc11] | rw [if_neg hc11], hw⟩ d_Mo_q53_31
theorem d_Mo_inf24_0 : decode b_Mo_infinity 0 = .ok (.aload_n 0, 1) := by decide +kernel
theorem d_Mo_inf24_1 : decode b_Mo_infinity 1 = .ok (.getfield 43, 3) := by decide +kernel
theorem d_Mo_inf24_4 : decode b_Mo_infinity 4 = .ok (.bipush (53), 2) := by decide +kernel
theorem d_Mo_inf24_6 : decode b_Mo_infinity 6 = .ok (.if_icmp .ne (9), 3) := by decide +kernel
theorem d_Mo_inf24_15 : decode b_Mo_infinity 15 = .ok (.ldc2_w 51, 3) := by decide +kernel
theorem d_Mo_inf24_18 : decode b_Mo_infinity 18 = .ok (.lreturn, 1) := by decide +kernel
set_option maxHeartbeats 4000000 in
set_option maxRecDepth 100000 in
theorem c_Mo_inf24 (l : Launch) (D : va_G) (cB cL : ClassId) (mo rs ex xd li bo cu cd : Nat) (co : Int) (rt bt : List Int) (V C : Int)  : Ct l y_Mo_infinity (ws_Mo_infinity) 0 (AM mo rs ex xd li bo cu cd) [.ref mo] (MW D cB cL mo rs ex xd li bo cu cd co 24 (-149) rt bt V C) (zR (some (.long (lz 2139095040))) (MW D cB cL mo rs ex xd li bo cu cd co 24 (-149) rt bt V C)) := by
  refine z_body zSt_MW (by decide +kernel) rfl (Nat.le_of_ble_eq_true rfl) ?_
  intro p e s m args below meth c ls hx hb hml hr hlk hts0 hown hpre0 H locs hpre hS hl
  have hts : ∀ w ∈ TBL, w.before args s = true := fun w hw => hts0 w (List.mem_cons_of_mem _ hw)
  have hl : lv_has ls 1 [(0, .ref mo)] := hl
  have hw := hpre
  refine lv_aload_n hx hb d_Mo_inf24_0 rfl (lv_at hl 0 rfl) ?_
  have hw9 := hw
  obtain ⟨fc, nc, pp, ⟨len, used, bl, fr, fb, lm, fe, ne, pe, ⟨hK, hP, hD⟩, hrt, hbt, hE, hpe, hlm⟩, hC⟩ := hw9
  have hr1 := hrt.1
  have hr2 := hrt.2.1
  have hb1 := hbt.1
  have hb2 := hbt.2.1
  have hE1 := hE.1
  have hC1 := hC.1
  have hP : va_P D vwCl [(mo, .inr (3, [.ref rs, .int (iz len), .int (iz co), .ref ex, .int (iz 24), .int (iz (-149)), .ref li, .int (iz used), .ref bo, .int (iz bl), .ref cu])), (rs, .inl (cB, 4096, .inl (az fr))), (ex, .inr (4, [.ref xd, .int (iz ne), .int (iz pe)])), (xd, .inl (cB, 1300, .inl (az fe))), (li, .inl (cL, 160, .inr (.inl (azl lm)))), (bo, .inl (cB, 4096, .inl (az fb))), (cu, .inr (4, [.ref cd, .int (iz nc), .int (iz pp)])), (cd, .inl (cB, 1300, .inl (az fc)))] H := hP
  have hD : va_D (AM mo rs ex xd li bo cu cd) [(mo, .inr (3, [.ref rs, .int (iz len), .int (iz co), .ref ex, .int (iz 24), .int (iz (-149)), .ref li, .int (iz used), .ref bo, .int (iz bl), .ref cu])), (rs, .inl (cB, 4096, .inl (az fr))), (ex, .inr (4, [.ref xd, .int (iz ne), .int (iz pe)])), (xd, .inl (cB, 1300, .inl (az fe))), (li, .inl (cL, 160, .inr (.inl (azl lm)))), (bo, .inl (cB, 4096, .inl (az fb))), (cu, .inr (4, [.ref cd, .int (iz nc), .int (iz pp)])), (cd, .inl (cB, 1300, .inl (az fc)))] := hD
  refine va_get (D := D) (ci := 3) (v := .int (iz 24)) (C := R_3) (T := T_3) (N := 11) hx hb hts in_3 hown hK hP 0 rfl rfl 4 (by decide) (hts _ tw_396) (fun _ h9 => h9) rfl d_Mo_inf24_1 ?_
  refine lv_bipush (v := iz 53) hx hb d_Mo_inf24_4 (by decide) ?_
  refine z_icmp_ne (tgt := 15) hx hb d_Mo_inf24_6 rfl ⟨by omega, by omega⟩ ⟨by omega, by omega⟩ (fun hc6 => ?_) (fun hc6 => ?_)
  · refine lv_ldc2 (v := (2139095040 : Int64)) hx hb hown (hts _ tw_465) d_Mo_inf24_15 ?_
    refine z_topl (y := lz (2139095040)) (by decide) ?_
    exact z_lret hx hb hr hlk hS (zR_st zSt_MW) ⟨rfl, hw⟩ d_Mo_inf24_18
  · exfalso
    omega
theorem d_Mo_fra24_0 : decode b_Mo_fraction 0 = .ok (.lconst 1, 1) := by decide +kernel
theorem d_Mo_fra24_1 : decode b_Mo_fraction 1 = .ok (.aload_n 0, 1) := by decide +kernel
theorem d_Mo_fra24_2 : decode b_Mo_fraction 2 = .ok (.getfield 43, 3) := by decide +kernel
theorem d_Mo_fra24_5 : decode b_Mo_fraction 5 = .ok (.iconst 1, 1) := by decide +kernel
theorem d_Mo_fra24_6 : decode b_Mo_fraction 6 = .ok (.isub, 1) := by decide +kernel
theorem d_Mo_fra24_7 : decode b_Mo_fraction 7 = .ok (.lshl, 1) := by decide +kernel
theorem d_Mo_fra24_8 : decode b_Mo_fraction 8 = .ok (.lconst 1, 1) := by decide +kernel
theorem d_Mo_fra24_9 : decode b_Mo_fraction 9 = .ok (.lsub, 1) := by decide +kernel
theorem d_Mo_fra24_10 : decode b_Mo_fraction 10 = .ok (.lreturn, 1) := by decide +kernel
set_option maxHeartbeats 4000000 in
set_option maxRecDepth 100000 in
theorem c_Mo_fra24 (l : Launch) (D : va_G) (cB cL : ClassId) (mo rs ex xd li bo cu cd : Nat) (co : Int) (rt bt : List Int) (V C : Int)  : Ct l y_Mo_fraction (ws_Mo_fraction) 0 (AM mo rs ex xd li bo cu cd) [.ref mo] (MW D cB cL mo rs ex xd li bo cu cd co 24 (-149) rt bt V C) (zR (some (.long (lz 8388607))) (MW D cB cL mo rs ex xd li bo cu cd co 24 (-149) rt bt V C)) := by
  refine z_body zSt_MW (by decide +kernel) rfl (Nat.le_of_ble_eq_true rfl) ?_
  intro p e s m args below meth c ls hx hb hml hr hlk hts0 hown hpre0 H locs hpre hS hl
  have hts : ∀ w ∈ TBL, w.before args s = true := fun w hw => hts0 w (List.mem_cons_of_mem _ hw)
  have hl : lv_has ls 1 [(0, .ref mo)] := hl
  have hw := hpre
  refine lv_lconst (v := lz 1) hx hb d_Mo_fra24_0 (by decide) ?_
  refine lv_aload_n hx hb d_Mo_fra24_1 rfl (lv_at hl 0 rfl) ?_
  have hw9 := hw
  obtain ⟨fc, nc, pp, ⟨len, used, bl, fr, fb, lm, fe, ne, pe, ⟨hK, hP, hD⟩, hrt, hbt, hE, hpe, hlm⟩, hC⟩ := hw9
  have hr1 := hrt.1
  have hr2 := hrt.2.1
  have hb1 := hbt.1
  have hb2 := hbt.2.1
  have hE1 := hE.1
  have hC1 := hC.1
  have hP : va_P D vwCl [(mo, .inr (3, [.ref rs, .int (iz len), .int (iz co), .ref ex, .int (iz 24), .int (iz (-149)), .ref li, .int (iz used), .ref bo, .int (iz bl), .ref cu])), (rs, .inl (cB, 4096, .inl (az fr))), (ex, .inr (4, [.ref xd, .int (iz ne), .int (iz pe)])), (xd, .inl (cB, 1300, .inl (az fe))), (li, .inl (cL, 160, .inr (.inl (azl lm)))), (bo, .inl (cB, 4096, .inl (az fb))), (cu, .inr (4, [.ref cd, .int (iz nc), .int (iz pp)])), (cd, .inl (cB, 1300, .inl (az fc)))] H := hP
  have hD : va_D (AM mo rs ex xd li bo cu cd) [(mo, .inr (3, [.ref rs, .int (iz len), .int (iz co), .ref ex, .int (iz 24), .int (iz (-149)), .ref li, .int (iz used), .ref bo, .int (iz bl), .ref cu])), (rs, .inl (cB, 4096, .inl (az fr))), (ex, .inr (4, [.ref xd, .int (iz ne), .int (iz pe)])), (xd, .inl (cB, 1300, .inl (az fe))), (li, .inl (cL, 160, .inr (.inl (azl lm)))), (bo, .inl (cB, 4096, .inl (az fb))), (cu, .inr (4, [.ref cd, .int (iz nc), .int (iz pp)])), (cd, .inl (cB, 1300, .inl (az fc)))] := hD
  refine va_get (D := D) (ci := 3) (v := .int (iz 24)) (C := R_3) (T := T_3) (N := 11) hx hb hts in_3 hown hK hP 0 rfl rfl 4 (by decide) (hts _ tw_396) (fun _ h9 => h9) rfl d_Mo_fra24_2 ?_
  refine lv_iconst (v := iz 1) hx hb d_Mo_fra24_5 rfl ?_
  refine z_isub hx hb d_Mo_fra24_6 ?_
  refine z_lshl hx hb 23 d_Mo_fra24_7 rfl (by decide) ⟨by omega, by omega⟩ ⟨by omega, by omega⟩ ?_
  refine lv_lconst (v := lz 1) hx hb d_Mo_fra24_8 (by decide) ?_
  refine z_lsub hx hb d_Mo_fra24_9 ?_
  refine z_rl (b := 8388607) rfl ?_
  exact z_lret hx hb hr hlk hS (zR_st zSt_MW) ⟨rfl, hw⟩ d_Mo_fra24_10
theorem d_Mo_sgn24_0 : decode b_Mo_sign 0 = .ok (.aload_n 0, 1) := by decide +kernel
theorem d_Mo_sgn24_1 : decode b_Mo_sign 1 = .ok (.getfield 43, 3) := by decide +kernel
theorem d_Mo_sgn24_4 : decode b_Mo_sign 4 = .ok (.bipush (53), 2) := by decide +kernel
theorem d_Mo_sgn24_6 : decode b_Mo_sign 6 = .ok (.if_icmp .ne (9), 3) := by decide +kernel
theorem d_Mo_sgn24_15 : decode b_Mo_sign 15 = .ok (.ldc2_w 55, 3) := by decide +kernel
theorem d_Mo_sgn24_18 : decode b_Mo_sign 18 = .ok (.lreturn, 1) := by decide +kernel
set_option maxHeartbeats 4000000 in
set_option maxRecDepth 100000 in
theorem c_Mo_sgn24 (l : Launch) (D : va_G) (cB cL : ClassId) (mo rs ex xd li bo cu cd : Nat) (co : Int) (rt bt : List Int) (V C : Int)  : Ct l y_Mo_sign (ws_Mo_sign) 0 (AM mo rs ex xd li bo cu cd) [.ref mo] (MW D cB cL mo rs ex xd li bo cu cd co 24 (-149) rt bt V C) (zR (some (.long (lz (2147483648)))) (MW D cB cL mo rs ex xd li bo cu cd co 24 (-149) rt bt V C)) := by
  refine z_body zSt_MW (by decide +kernel) rfl (Nat.le_of_ble_eq_true rfl) ?_
  intro p e s m args below meth c ls hx hb hml hr hlk hts0 hown hpre0 H locs hpre hS hl
  have hts : ∀ w ∈ TBL, w.before args s = true := fun w hw => hts0 w (List.mem_cons_of_mem _ hw)
  have hl : lv_has ls 1 [(0, .ref mo)] := hl
  have hw := hpre
  refine lv_aload_n hx hb d_Mo_sgn24_0 rfl (lv_at hl 0 rfl) ?_
  have hw9 := hw
  obtain ⟨fc, nc, pp, ⟨len, used, bl, fr, fb, lm, fe, ne, pe, ⟨hK, hP, hD⟩, hrt, hbt, hE, hpe, hlm⟩, hC⟩ := hw9
  have hr1 := hrt.1
  have hr2 := hrt.2.1
  have hb1 := hbt.1
  have hb2 := hbt.2.1
  have hE1 := hE.1
  have hC1 := hC.1
  have hP : va_P D vwCl [(mo, .inr (3, [.ref rs, .int (iz len), .int (iz co), .ref ex, .int (iz 24), .int (iz (-149)), .ref li, .int (iz used), .ref bo, .int (iz bl), .ref cu])), (rs, .inl (cB, 4096, .inl (az fr))), (ex, .inr (4, [.ref xd, .int (iz ne), .int (iz pe)])), (xd, .inl (cB, 1300, .inl (az fe))), (li, .inl (cL, 160, .inr (.inl (azl lm)))), (bo, .inl (cB, 4096, .inl (az fb))), (cu, .inr (4, [.ref cd, .int (iz nc), .int (iz pp)])), (cd, .inl (cB, 1300, .inl (az fc)))] H := hP
  have hD : va_D (AM mo rs ex xd li bo cu cd) [(mo, .inr (3, [.ref rs, .int (iz len), .int (iz co), .ref ex, .int (iz 24), .int (iz (-149)), .ref li, .int (iz used), .ref bo, .int (iz bl), .ref cu])), (rs, .inl (cB, 4096, .inl (az fr))), (ex, .inr (4, [.ref xd, .int (iz ne), .int (iz pe)])), (xd, .inl (cB, 1300, .inl (az fe))), (li, .inl (cL, 160, .inr (.inl (azl lm)))), (bo, .inl (cB, 4096, .inl (az fb))), (cu, .inr (4, [.ref cd, .int (iz nc), .int (iz pp)])), (cd, .inl (cB, 1300, .inl (az fc)))] := hD
  refine va_get (D := D) (ci := 3) (v := .int (iz 24)) (C := R_3) (T := T_3) (N := 11) hx hb hts in_3 hown hK hP 0 rfl rfl 4 (by decide) (hts _ tw_396) (fun _ h9 => h9) rfl d_Mo_sgn24_1 ?_
  refine lv_bipush (v := iz 53) hx hb d_Mo_sgn24_4 (by decide) ?_
  refine z_icmp_ne (tgt := 15) hx hb d_Mo_sgn24_6 rfl ⟨by omega, by omega⟩ ⟨by omega, by omega⟩ (fun hc6 => ?_) (fun hc6 => ?_)
  · refine lv_ldc2 (v := (2147483648 : Int64)) hx hb hown (hts _ tw_457) d_Mo_sgn24_15 ?_
    refine z_topl (y := lz (2147483648)) (by decide) ?_
    exact z_lret hx hb hr hlk hS (zR_st zSt_MW) ⟨rfl, hw⟩ d_Mo_sgn24_18
  · exfalso
    omega
theorem d_Mo_none24_0 : decode b_Mo_isNone 0 = .ok (.lload_n 1, 1) := by decide +kernel
theorem d_Mo_none24_1 : decode b_Mo_isNone 1 = .ok (.aload_n 0, 1) := by decide +kernel
theorem d_Mo_none24_2 : decode b_Mo_isNone 2 = .ok (.invokevirtual 57, 3) := by decide +kernel
theorem d_Mo_none24_5 : decode b_Mo_isNone 5 = .ok (.lcmp, 1) := by decide +kernel
theorem d_Mo_none24_6 : decode b_Mo_isNone 6 = .ok (.ifCond .le (7), 3) := by decide +kernel
theorem d_Mo_none24_9 : decode b_Mo_isNone 9 = .ok (.iconst 1, 1) := by decide +kernel
theorem d_Mo_none24_10 : decode b_Mo_isNone 10 = .ok (.goto (4), 3) := by decide +kernel
theorem d_Mo_none24_13 : decode b_Mo_isNone 13 = .ok (.iconst 0, 1) := by decide +kernel
theorem d_Mo_none24_14 : decode b_Mo_isNone 14 = .ok (.ireturn, 1) := by decide +kernel
set_option maxHeartbeats 4000000 in
set_option maxRecDepth 100000 in
theorem c_Mo_none24 (l : Launch) (D : va_G) (cB cL : ClassId) (mo rs ex xd li bo cu cd : Nat) (co : Int) (rt bt : List Int) (V C : Int) (sz : Int) (hsz : lR sz) : Ct l y_Mo_isNone (ws_Mo_isNone) 1 (AM mo rs ex xd li bo cu cd) [.ref mo, .long (lz sz)] (MW D cB cL mo rs ex xd li bo cu cd co 24 (-149) rt bt V C) (zR (some (.int (iz (if 2139095040 < sz then 1 else 0)))) (MW D cB cL mo rs ex xd li bo cu cd co 24 (-149) rt bt V C)) := by
  refine z_body zSt_MW (by decide +kernel) rfl (Nat.le_of_ble_eq_true rfl) ?_
  intro p e s m args below meth c ls hx hb hml hr hlk hts0 hown hpre0 H locs hpre hS hl
  have hts : ∀ w ∈ TBL, w.before args s = true := fun w hw => hts0 w (List.mem_cons_of_mem _ hw)
  have hl : lv_has ls 3 [(0, .ref mo), (1, .long (lz sz))] := hl
  have hw := hpre
  refine lv_lload_n hx hb d_Mo_none24_0 rfl (lv_at hl 1 rfl) ?_
  refine lv_aload_n hx hb d_Mo_none24_1 rfl (lv_at hl 0 rfl) ?_
  have hct := c_Mo_inf24 l D cB cL mo rs ex xd li bo cu cd co rt bt V C
  have hw9 := hw
  obtain ⟨fc, nc, pp, ⟨len, used, bl, fr, fb, lm, fe, ne, pe, ⟨hK, hP, hD⟩, hrt, hbt, hE, hpe, hlm⟩, hC⟩ := hw9
  have hr1 := hrt.1
  have hr2 := hrt.2.1
  have hb1 := hbt.1
  have hb2 := hbt.2.1
  have hE1 := hE.1
  have hC1 := hC.1
  have hP : va_P D vwCl [(mo, .inr (3, [.ref rs, .int (iz len), .int (iz co), .ref ex, .int (iz 24), .int (iz (-149)), .ref li, .int (iz used), .ref bo, .int (iz bl), .ref cu])), (rs, .inl (cB, 4096, .inl (az fr))), (ex, .inr (4, [.ref xd, .int (iz ne), .int (iz pe)])), (xd, .inl (cB, 1300, .inl (az fe))), (li, .inl (cL, 160, .inr (.inl (azl lm)))), (bo, .inl (cB, 4096, .inl (az fb))), (cu, .inr (4, [.ref cd, .int (iz nc), .int (iz pp)])), (cd, .inl (cB, 1300, .inl (az fc)))] H := hP
  have hD : va_D (AM mo rs ex xd li bo cu cd) [(mo, .inr (3, [.ref rs, .int (iz len), .int (iz co), .ref ex, .int (iz 24), .int (iz (-149)), .ref li, .int (iz used), .ref bo, .int (iz bl), .ref cu])), (rs, .inl (cB, 4096, .inl (az fr))), (ex, .inr (4, [.ref xd, .int (iz ne), .int (iz pe)])), (xd, .inl (cB, 1300, .inl (az fe))), (li, .inl (cL, 160, .inr (.inl (azl lm)))), (bo, .inl (cB, 4096, .inl (az fb))), (cu, .inr (4, [.ref cd, .int (iz nc), .int (iz pp)])), (cd, .inl (cB, 1300, .inl (az fc)))] := hD
  refine z_go (va_runV (As := []) (rest := [.long (lz sz)]) ⟨hx, hb, hml, hown, hts⟩ hct.2 (z_cwV hts w_Mo_infinity tw_460 (by decide)) (z_preV hct.1 (va_recv hK hP (ci := 3) (q0 := 0) rfl rfl) hw) rfl rfl hl.1 rfl (lv_room (Nat.le_of_ble_eq_true rfl)) d_Mo_none24_2 ⟨Nat.zero_le _, Nat.zero_le _⟩) hS (fun _ h9 => h9) (fun v9 t9 H locs hv9 hp9 hz9 hk9 hS => ?_)
  obtain ⟨rfl, hw⟩ := hp9
  have hw := MW.moved hv9.symm hw
  refine W.eq (g2 := F0 m 5 ls [.long (lz 2139095040), .long (lz sz)]) rfl ?_
  refine z_lif_le (tgt := 13) hx hb d_Mo_none24_5 d_Mo_none24_6 rfl ⟨by omega, by omega⟩ ⟨by omega, by omega⟩ (fun hc5 => ?_) (fun hc5 => ?_)
  · refine lv_iconst (v := iz 0) hx hb d_Mo_none24_13 rfl ?_
    exact z_zret hx hb hr rfl hlk hS (zR_st zSt_MW) ⟨by first | rw [if_pos hc5] | rw [if_neg (by omega)], hw⟩ d_Mo_none24_14
  · refine lv_iconst (v := iz 1) hx hb d_Mo_none24_9 rfl ?_
    refine lv_goto (tgt := 14) hx hb d_Mo_none24_10 rfl ?_
    exact z_zret hx hb hr rfl hlk hS (zR_st zSt_MW) ⟨by first | rw [if_pos hc5] | rw [if_neg (by omega)], hw⟩ d_Mo_none24_14
theorem d_Mo_c24_0 : decode b_Mo_c 0 = .ok (.lload_n 1, 1) := by decide +kernel
theorem d_Mo_c24_1 : decode b_Mo_c 1 = .ok (.aload_n 0, 1) := by decide +kernel
theorem d_Mo_c24_2 : decode b_Mo_c 2 = .ok (.invokevirtual 61, 3) := by decide +kernel
theorem d_Mo_c24_5 : decode b_Mo_c 5 = .ok (.land, 1) := by decide +kernel
theorem d_Mo_c24_6 : decode b_Mo_c 6 = .ok (.lstore_n 3, 1) := by decide +kernel
theorem d_Mo_c24_7 : decode b_Mo_c 7 = .ok (.lload_n 1, 1) := by decide +kernel
theorem d_Mo_c24_8 : decode b_Mo_c 8 = .ok (.aload_n 0, 1) := by decide +kernel
theorem d_Mo_c24_9 : decode b_Mo_c 9 = .ok (.invokevirtual 61, 3) := by decide +kernel
theorem d_Mo_c24_12 : decode b_Mo_c 12 = .ok (.lcmp, 1) := by decide +kernel
theorem d_Mo_c24_13 : decode b_Mo_c 13 = .ok (.ifCond .le (14), 3) := by decide +kernel
theorem d_Mo_c24_16 : decode b_Mo_c 16 = .ok (.lload_n 3, 1) := by decide +kernel
theorem d_Mo_c24_17 : decode b_Mo_c 17 = .ok (.aload_n 0, 1) := by decide +kernel
theorem d_Mo_c24_18 : decode b_Mo_c 18 = .ok (.invokevirtual 61, 3) := by decide +kernel
theorem d_Mo_c24_21 : decode b_Mo_c 21 = .ok (.lconst 1, 1) := by decide +kernel
theorem d_Mo_c24_22 : decode b_Mo_c 22 = .ok (.ladd, 1) := by decide +kernel
theorem d_Mo_c24_23 : decode b_Mo_c 23 = .ok (.lor, 1) := by decide +kernel
theorem d_Mo_c24_24 : decode b_Mo_c 24 = .ok (.goto (4), 3) := by decide +kernel
theorem d_Mo_c24_27 : decode b_Mo_c 27 = .ok (.lload_n 3, 1) := by decide +kernel
theorem d_Mo_c24_28 : decode b_Mo_c 28 = .ok (.lreturn, 1) := by decide +kernel
set_option maxHeartbeats 4000000 in
set_option maxRecDepth 100000 in
theorem c_Mo_c24 (l : Launch) (D : va_G) (cB cL : ClassId) (mo rs ex xd li bo cu cd : Nat) (co : Int) (rt bt : List Int) (V C : Int) (sz : Int) (hsz : 0 ≤ sz ∧ sz ≤ 9223372036854775807) : Ct l y_Mo_c (ws_Mo_c) 1 (AM mo rs ex xd li bo cu cd) [.ref mo, .long (lz sz)] (MW D cB cL mo rs ex xd li bo cu cd co 24 (-149) rt bt V C) (zR (some (.long (lz (if 8388607 < sz then 2 ^ 23 + sz % 2 ^ 23 else sz % 2 ^ 23)))) (MW D cB cL mo rs ex xd li bo cu cd co 24 (-149) rt bt V C)) := by
  refine z_body zSt_MW (by decide +kernel) rfl (Nat.le_of_ble_eq_true rfl) ?_
  intro p e s m args below meth c ls hx hb hml hr hlk hts0 hown hpre0 H locs hpre hS hl
  have hts : ∀ w ∈ TBL, w.before args s = true := fun w hw => hts0 w (List.mem_cons_of_mem _ hw)
  have hl : lv_has ls 5 [(0, .ref mo), (1, .long (lz sz))] := hl
  have hw := hpre
  refine lv_lload_n hx hb d_Mo_c24_0 rfl (lv_at hl 1 rfl) ?_
  refine lv_aload_n hx hb d_Mo_c24_1 rfl (lv_at hl 0 rfl) ?_
  have hct := c_Mo_fra24 l D cB cL mo rs ex xd li bo cu cd co rt bt V C
  have hw9 := hw
  obtain ⟨fc, nc, pp, ⟨len, used, bl, fr, fb, lm, fe, ne, pe, ⟨hK, hP, hD⟩, hrt, hbt, hE, hpe, hlm⟩, hC⟩ := hw9
  have hr1 := hrt.1
  have hr2 := hrt.2.1
  have hb1 := hbt.1
  have hb2 := hbt.2.1
  have hE1 := hE.1
  have hC1 := hC.1
  have hP : va_P D vwCl [(mo, .inr (3, [.ref rs, .int (iz len), .int (iz co), .ref ex, .int (iz 24), .int (iz (-149)), .ref li, .int (iz used), .ref bo, .int (iz bl), .ref cu])), (rs, .inl (cB, 4096, .inl (az fr))), (ex, .inr (4, [.ref xd, .int (iz ne), .int (iz pe)])), (xd, .inl (cB, 1300, .inl (az fe))), (li, .inl (cL, 160, .inr (.inl (azl lm)))), (bo, .inl (cB, 4096, .inl (az fb))), (cu, .inr (4, [.ref cd, .int (iz nc), .int (iz pp)])), (cd, .inl (cB, 1300, .inl (az fc)))] H := hP
  have hD : va_D (AM mo rs ex xd li bo cu cd) [(mo, .inr (3, [.ref rs, .int (iz len), .int (iz co), .ref ex, .int (iz 24), .int (iz (-149)), .ref li, .int (iz used), .ref bo, .int (iz bl), .ref cu])), (rs, .inl (cB, 4096, .inl (az fr))), (ex, .inr (4, [.ref xd, .int (iz ne), .int (iz pe)])), (xd, .inl (cB, 1300, .inl (az fe))), (li, .inl (cL, 160, .inr (.inl (azl lm)))), (bo, .inl (cB, 4096, .inl (az fb))), (cu, .inr (4, [.ref cd, .int (iz nc), .int (iz pp)])), (cd, .inl (cB, 1300, .inl (az fc)))] := hD
  refine z_go (va_runV (As := []) (rest := [.long (lz sz)]) ⟨hx, hb, hml, hown, hts⟩ hct.2 (z_cwV hts w_Mo_fraction tw_482 (by decide)) (z_preV hct.1 (va_recv hK hP (ci := 3) (q0 := 0) rfl rfl) hw) rfl rfl hl.1 rfl (lv_room (Nat.le_of_ble_eq_true rfl)) d_Mo_c24_2 ⟨Nat.zero_le _, Nat.zero_le _⟩) hS (fun _ h9 => h9) (fun v9 t9 H locs hv9 hp9 hz9 hk9 hS => ?_)
  obtain ⟨rfl, hw⟩ := hp9
  have hw := MW.moved hv9.symm hw
  refine W.eq (g2 := F0 m 5 ls [.long (lz 8388607), .long (lz sz)]) rfl ?_
  refine z_landm hx hb 23 d_Mo_c24_5 (by decide) rfl ⟨by omega, by omega⟩ ?_
  refine lv_lstore_n hx hb d_Mo_c24_6 rfl hl (by decide) rfl (fun ls hl => ?_)
  have hl : lv_has ls 5 [(3, .long (lz (sz % 2 ^ 23))), (0, .ref mo), (1, .long (lz sz))] := hl
  refine lv_lload_n hx hb d_Mo_c24_7 rfl (lv_at hl 2 rfl) ?_
  refine lv_aload_n hx hb d_Mo_c24_8 rfl (lv_at hl 1 rfl) ?_
  have hct := c_Mo_fra24 l D cB cL mo rs ex xd li bo cu cd co rt bt V C
  have hw9 := hw
  obtain ⟨fc, nc, pp, ⟨len, used, bl, fr, fb, lm, fe, ne, pe, ⟨hK, hP, hD⟩, hrt, hbt, hE, hpe, hlm⟩, hC⟩ := hw9
  have hr1 := hrt.1
  have hr2 := hrt.2.1
  have hb1 := hbt.1
  have hb2 := hbt.2.1
  have hE1 := hE.1
  have hC1 := hC.1
  have hP : va_P D vwCl [(mo, .inr (3, [.ref rs, .int (iz len), .int (iz co), .ref ex, .int (iz 24), .int (iz (-149)), .ref li, .int (iz used), .ref bo, .int (iz bl), .ref cu])), (rs, .inl (cB, 4096, .inl (az fr))), (ex, .inr (4, [.ref xd, .int (iz ne), .int (iz pe)])), (xd, .inl (cB, 1300, .inl (az fe))), (li, .inl (cL, 160, .inr (.inl (azl lm)))), (bo, .inl (cB, 4096, .inl (az fb))), (cu, .inr (4, [.ref cd, .int (iz nc), .int (iz pp)])), (cd, .inl (cB, 1300, .inl (az fc)))] H := hP
  have hD : va_D (AM mo rs ex xd li bo cu cd) [(mo, .inr (3, [.ref rs, .int (iz len), .int (iz co), .ref ex, .int (iz 24), .int (iz (-149)), .ref li, .int (iz used), .ref bo, .int (iz bl), .ref cu])), (rs, .inl (cB, 4096, .inl (az fr))), (ex, .inr (4, [.ref xd, .int (iz ne), .int (iz pe)])), (xd, .inl (cB, 1300, .inl (az fe))), (li, .inl (cL, 160, .inr (.inl (azl lm)))), (bo, .inl (cB, 4096, .inl (az fb))), (cu, .inr (4, [.ref cd, .int (iz nc), .int (iz pp)])), (cd, .inl (cB, 1300, .inl (az fc)))] := hD
  refine z_go (va_runV (As := []) (rest := [.long (lz sz)]) ⟨hx, hb, hml, hown, hts⟩ hct.2 (z_cwV hts w_Mo_fraction tw_482 (by decide)) (z_preV hct.1 (va_recv hK hP (ci := 3) (q0 := 0) rfl rfl) hw) rfl rfl hl.1 rfl (lv_room (Nat.le_of_ble_eq_true rfl)) d_Mo_c24_9 ⟨Nat.zero_le _, Nat.zero_le _⟩) hS (fun _ h9 => h9) (fun v9 t9 H locs hv9 hp9 hz9 hk9 hS => ?_)
  obtain ⟨rfl, hw⟩ := hp9
  have hw := MW.moved hv9.symm hw
  refine W.eq (g2 := F0 m 12 ls [.long (lz 8388607), .long (lz sz)]) rfl ?_
  refine z_lif_le (tgt := 27) hx hb d_Mo_c24_12 d_Mo_c24_13 rfl ⟨by omega, by omega⟩ ⟨by omega, by omega⟩ (fun hc12 => ?_) (fun hc12 => ?_)
  · refine lv_lload_n hx hb d_Mo_c24_27 rfl (lv_at hl 0 rfl) ?_
    exact z_lret hx hb hr hlk hS (zR_st zSt_MW) ⟨by first | rw [if_pos hc12] | rw [if_neg (by omega)], hw⟩ d_Mo_c24_28
  · refine lv_lload_n hx hb d_Mo_c24_16 rfl (lv_at hl 0 rfl) ?_
    refine lv_aload_n hx hb d_Mo_c24_17 rfl (lv_at hl 1 rfl) ?_
    have hct := c_Mo_fra24 l D cB cL mo rs ex xd li bo cu cd co rt bt V C
    have hw9 := hw
    obtain ⟨fc, nc, pp, ⟨len, used, bl, fr, fb, lm, fe, ne, pe, ⟨hK, hP, hD⟩, hrt, hbt, hE, hpe, hlm⟩, hC⟩ := hw9
    have hr1 := hrt.1
    have hr2 := hrt.2.1
    have hb1 := hbt.1
    have hb2 := hbt.2.1
    have hE1 := hE.1
    have hC1 := hC.1
    have hP : va_P D vwCl [(mo, .inr (3, [.ref rs, .int (iz len), .int (iz co), .ref ex, .int (iz 24), .int (iz (-149)), .ref li, .int (iz used), .ref bo, .int (iz bl), .ref cu])), (rs, .inl (cB, 4096, .inl (az fr))), (ex, .inr (4, [.ref xd, .int (iz ne), .int (iz pe)])), (xd, .inl (cB, 1300, .inl (az fe))), (li, .inl (cL, 160, .inr (.inl (azl lm)))), (bo, .inl (cB, 4096, .inl (az fb))), (cu, .inr (4, [.ref cd, .int (iz nc), .int (iz pp)])), (cd, .inl (cB, 1300, .inl (az fc)))] H := hP
    have hD : va_D (AM mo rs ex xd li bo cu cd) [(mo, .inr (3, [.ref rs, .int (iz len), .int (iz co), .ref ex, .int (iz 24), .int (iz (-149)), .ref li, .int (iz used), .ref bo, .int (iz bl), .ref cu])), (rs, .inl (cB, 4096, .inl (az fr))), (ex, .inr (4, [.ref xd, .int (iz ne), .int (iz pe)])), (xd, .inl (cB, 1300, .inl (az fe))), (li, .inl (cL, 160, .inr (.inl (azl lm)))), (bo, .inl (cB, 4096, .inl (az fb))), (cu, .inr (4, [.ref cd, .int (iz nc), .int (iz pp)])), (cd, .inl (cB, 1300, .inl (az fc)))] := hD
    refine z_go (va_runV (As := []) (rest := [.long (lz (sz % 2 ^ 23))]) ⟨hx, hb, hml, hown, hts⟩ hct.2 (z_cwV hts w_Mo_fraction tw_482 (by decide)) (z_preV hct.1 (va_recv hK hP (ci := 3) (q0 := 0) rfl rfl) hw) rfl rfl hl.1 rfl (lv_room (Nat.le_of_ble_eq_true rfl)) d_Mo_c24_18 ⟨Nat.zero_le _, Nat.zero_le _⟩) hS (fun _ h9 => h9) (fun v9 t9 H locs hv9 hp9 hz9 hk9 hS => ?_)
    obtain ⟨rfl, hw⟩ := hp9
    have hw := MW.moved hv9.symm hw
    refine W.eq (g2 := F0 m 21 ls [.long (lz 8388607), .long (lz (sz % 2 ^ 23))]) rfl ?_
    refine lv_lconst (v := lz 1) hx hb d_Mo_c24_21 (by decide) ?_
    refine z_ladd hx hb d_Mo_c24_22 ?_
    refine lv_lor hx hb d_Mo_c24_23 ?_
    refine z_topl (y := lz (2 ^ 23 + sz % 2 ^ 23)) (lor_c 23 (by decide) sz) ?_
    refine lv_goto (tgt := 28) hx hb d_Mo_c24_24 rfl ?_
    exact z_lret hx hb hr hlk hS (zR_st zSt_MW) ⟨by first | rw [if_pos hc12] | rw [if_neg (by omega)], hw⟩ d_Mo_c24_28
theorem d_Mo_q24_0 : decode b_Mo_q 0 = .ok (.lload_n 1, 1) := by decide +kernel
theorem d_Mo_q24_1 : decode b_Mo_q 1 = .ok (.aload_n 0, 1) := by decide +kernel
theorem d_Mo_q24_2 : decode b_Mo_q 2 = .ok (.getfield 43, 3) := by decide +kernel
theorem d_Mo_q24_5 : decode b_Mo_q 5 = .ok (.iconst 1, 1) := by decide +kernel
theorem d_Mo_q24_6 : decode b_Mo_q 6 = .ok (.isub, 1) := by decide +kernel
theorem d_Mo_q24_7 : decode b_Mo_q 7 = .ok (.lushr, 1) := by decide +kernel
theorem d_Mo_q24_8 : decode b_Mo_q 8 = .ok (.lstore_n 3, 1) := by decide +kernel
theorem d_Mo_q24_9 : decode b_Mo_q 9 = .ok (.lload_n 3, 1) := by decide +kernel
theorem d_Mo_q24_10 : decode b_Mo_q 10 = .ok (.lconst 0, 1) := by decide +kernel
theorem d_Mo_q24_11 : decode b_Mo_q 11 = .ok (.lcmp, 1) := by decide +kernel
theorem d_Mo_q24_12 : decode b_Mo_q 12 = .ok (.ifCond .ne (10), 3) := by decide +kernel
theorem d_Mo_q24_15 : decode b_Mo_q 15 = .ok (.aload_n 0, 1) := by decide +kernel
theorem d_Mo_q24_16 : decode b_Mo_q 16 = .ok (.getfield 46, 3) := by decide +kernel
theorem d_Mo_q24_19 : decode b_Mo_q 19 = .ok (.goto (12), 3) := by decide +kernel
theorem d_Mo_q24_22 : decode b_Mo_q 22 = .ok (.aload_n 0, 1) := by decide +kernel
theorem d_Mo_q24_23 : decode b_Mo_q 23 = .ok (.getfield 46, 3) := by decide +kernel
theorem d_Mo_q24_26 : decode b_Mo_q 26 = .ok (.lload_n 3, 1) := by decide +kernel
theorem d_Mo_q24_27 : decode b_Mo_q 27 = .ok (.l2i, 1) := by decide +kernel
theorem d_Mo_q24_28 : decode b_Mo_q 28 = .ok (.iadd, 1) := by decide +kernel
theorem d_Mo_q24_29 : decode b_Mo_q 29 = .ok (.iconst 1, 1) := by decide +kernel
theorem d_Mo_q24_30 : decode b_Mo_q 30 = .ok (.isub, 1) := by decide +kernel
theorem d_Mo_q24_31 : decode b_Mo_q 31 = .ok (.ireturn, 1) := by decide +kernel
set_option maxHeartbeats 4000000 in
set_option maxRecDepth 100000 in
theorem c_Mo_q24 (l : Launch) (D : va_G) (cB cL : ClassId) (mo rs ex xd li bo cu cd : Nat) (co : Int) (rt bt : List Int) (V C : Int) (sz : Int) (hsz : 0 ≤ sz ∧ sz ≤ 9223372036854775807) : Ct l y_Mo_q (ws_Mo_q) 0 (AM mo rs ex xd li bo cu cd) [.ref mo, .long (lz sz)] (MW D cB cL mo rs ex xd li bo cu cd co 24 (-149) rt bt V C) (zR (some (.int (iz (if sz / 2 ^ 23 = 0 then -149 else -149 + sz / 2 ^ 23 - 1)))) (MW D cB cL mo rs ex xd li bo cu cd co 24 (-149) rt bt V C)) := by
  refine z_body zSt_MW (by decide +kernel) rfl (Nat.le_of_ble_eq_true rfl) ?_
  intro p e s m args below meth c ls hx hb hml hr hlk hts0 hown hpre0 H locs hpre hS hl
  have hts : ∀ w ∈ TBL, w.before args s = true := fun w hw => hts0 w (List.mem_cons_of_mem _ hw)
  have hl : lv_has ls 5 [(0, .ref mo), (1, .long (lz sz))] := hl
  have hw := hpre
  refine lv_lload_n hx hb d_Mo_q24_0 rfl (lv_at hl 1 rfl) ?_
  refine lv_aload_n hx hb d_Mo_q24_1 rfl (lv_at hl 0 rfl) ?_
  have hw9 := hw
  obtain ⟨fc, nc, pp, ⟨len, used, bl, fr, fb, lm, fe, ne, pe, ⟨hK, hP, hD⟩, hrt, hbt, hE, hpe, hlm⟩, hC⟩ := hw9
  have hr1 := hrt.1
  have hr2 := hrt.2.1
  have hb1 := hbt.1
  have hb2 := hbt.2.1
  have hE1 := hE.1
  have hC1 := hC.1
  have hP : va_P D vwCl [(mo, .inr (3, [.ref rs, .int (iz len), .int (iz co), .ref ex, .int (iz 24), .int (iz (-149)), .ref li, .int (iz used), .ref bo, .int (iz bl), .ref cu])), (rs, .inl (cB, 4096, .inl (az fr))), (ex, .inr (4, [.ref xd, .int (iz ne), .int (iz pe)])), (xd, .inl (cB, 1300, .inl (az fe))), (li, .inl (cL, 160, .inr (.inl (azl lm)))), (bo, .inl (cB, 4096, .inl (az fb))), (cu, .inr (4, [.ref cd, .int (iz nc), .int (iz pp)])), (cd, .inl (cB, 1300, .inl (az fc)))] H := hP
  have hD : va_D (AM mo rs ex xd li bo cu cd) [(mo, .inr (3, [.ref rs, .int (iz len), .int (iz co), .ref ex, .int (iz 24), .int (iz (-149)), .ref li, .int (iz used), .ref bo, .int (iz bl), .ref cu])), (rs, .inl (cB, 4096, .inl (az fr))), (ex, .inr (4, [.ref xd, .int (iz ne), .int (iz pe)])), (xd, .inl (cB, 1300, .inl (az fe))), (li, .inl (cL, 160, .inr (.inl (azl lm)))), (bo, .inl (cB, 4096, .inl (az fb))), (cu, .inr (4, [.ref cd, .int (iz nc), .int (iz pp)])), (cd, .inl (cB, 1300, .inl (az fc)))] := hD
  refine va_get (D := D) (ci := 3) (v := .int (iz 24)) (C := R_3) (T := T_3) (N := 11) hx hb hts in_3 hown hK hP 0 rfl rfl 4 (by decide) (hts _ tw_396) (fun _ h9 => h9) rfl d_Mo_q24_2 ?_
  refine lv_iconst (v := iz 1) hx hb d_Mo_q24_5 rfl ?_
  refine z_isub hx hb d_Mo_q24_6 ?_
  refine z_lushr hx hb 23 d_Mo_q24_7 rfl (by decide) ⟨by omega, by omega⟩ ?_
  have hsq : 0 ≤ sz / 2 ^ 23 ∧ sz / 2 ^ 23 ≤ sz := by omega
  refine lv_lstore_n hx hb d_Mo_q24_8 rfl hl (by decide) rfl (fun ls hl => ?_)
  have hl : lv_has ls 5 [(3, .long (lz (sz / 2 ^ 23))), (0, .ref mo), (1, .long (lz sz))] := hl
  refine lv_lload_n hx hb d_Mo_q24_9 rfl (lv_at hl 0 rfl) ?_
  refine lv_lconst (v := lz 0) hx hb d_Mo_q24_10 (by decide) ?_
  refine z_lif_ne (tgt := 22) hx hb d_Mo_q24_11 d_Mo_q24_12 rfl ⟨by omega, by omega⟩ ⟨by omega, by omega⟩ (fun hc11 => ?_) (fun hc11 => ?_)
  · refine lv_aload_n hx hb d_Mo_q24_22 rfl (lv_at hl 1 rfl) ?_
    refine va_get (D := D) (ci := 3) (v := .int (iz (-149))) (C := R_3) (T := T_3) (N := 11) hx hb hts in_3 hown hK hP 0 rfl rfl 5 (by decide) (hts _ tw_397) (fun _ h9 => h9) rfl d_Mo_q24_23 ?_
    refine lv_lload_n hx hb d_Mo_q24_26 rfl (lv_at hl 0 rfl) ?_
    refine z_l2i hx hb d_Mo_q24_27 ?_
    refine z_iadd hx hb d_Mo_q24_28 ?_
    refine lv_iconst (v := iz 1) hx hb d_Mo_q24_29 rfl ?_
    refine z_isub hx hb d_Mo_q24_30 ?_
    exact z_iret hx hb hr hlk hS (zR_st zSt_MW) ⟨by first | rw [if_pos hc11] | rw [if_neg hc11], hw⟩ d_Mo_q24_31
  · refine lv_aload_n hx hb d_Mo_q24_15 rfl (lv_at hl 1 rfl) ?_
    refine va_get (D := D) (ci := 3) (v := .int (iz (-149))) (C := R_3) (T := T_3) (N := 11) hx hb hts in_3 hown hK hP 0 rfl rfl 5 (by decide) (hts _ tw_397) (fun _ h9 => h9) rfl d_Mo_q24_16 ?_
    refine lv_goto (tgt := 31) hx hb d_Mo_q24_19 rfl ?_
    exact z_iret hx hb hr hlk hS (zR_st zSt_MW) ⟨by first | rw [if_pos hc11] | rw [if_neg hc11], hw⟩ d_Mo_q24_31
end
section
theorem d_Mo_add_0 : decode b_Mo_add 0 = .ok (.aload_n 0, 1) := by decide +kernel
theorem d_Mo_add_1 : decode b_Mo_add 1 = .ok (.getfield 24, 3) := by decide +kernel
theorem d_Mo_add_4 : decode b_Mo_add 4 = .ok (.aload_n 0, 1) := by decide +kernel
theorem d_Mo_add_5 : decode b_Mo_add 5 = .ok (.getfield 92, 3) := by decide +kernel
theorem d_Mo_add_8 : decode b_Mo_add 8 = .ok (.iload_n 1, 1) := by decide +kernel
theorem d_Mo_add_9 : decode b_Mo_add 9 = .ok (.i2b, 1) := by decide +kernel
theorem d_Mo_add_10 : decode b_Mo_add 10 = .ok (.bastore, 1) := by decide +kernel
theorem d_Mo_add_11 : decode b_Mo_add 11 = .ok (.aload_n 0, 1) := by decide +kernel
theorem d_Mo_add_12 : decode b_Mo_add 12 = .ok (.dup, 1) := by decide +kernel
theorem d_Mo_add_13 : decode b_Mo_add 13 = .ok (.getfield 92, 3) := by decide +kernel
theorem d_Mo_add_16 : decode b_Mo_add 16 = .ok (.iconst 1, 1) := by decide +kernel
theorem d_Mo_add_17 : decode b_Mo_add 17 = .ok (.iadd, 1) := by decide +kernel
theorem d_Mo_add_18 : decode b_Mo_add 18 = .ok (.putfield 92, 3) := by decide +kernel
theorem d_Mo_add_21 : decode b_Mo_add 21 = .ok (.return_, 1) := by decide +kernel
set_option maxHeartbeats 4000000 in
set_option maxRecDepth 100000 in
theorem c_Mo_add (l : Launch) (D : va_G) (cB cL : ClassId) (mo rs ex xd li bo cu cd : Nat) (co bi le : Int) (rt bt : List Int) (V C : Int) (b : Int) (hb0 : 0 ≤ b ∧ b < 128) (hbl : bt.length < 4096) : Ct l y_Mo_add (ws_Mo_add) 0 (AM mo rs ex xd li bo cu cd) [.ref mo, .int (iz b)] (MW D cB cL mo rs ex xd li bo cu cd co bi le rt bt V C) (zR none (MW D cB cL mo rs ex xd li bo cu cd co bi le rt (bt ++ [b]) V C)) := by
  refine z_body zSt_MW (by decide +kernel) rfl (Nat.le_of_ble_eq_true rfl) ?_
  intro p e s m args below meth c ls hx hb hml hr hlk hts0 hown hpre0 H locs hpre hS hl
  have hts : ∀ w ∈ TBL, w.before args s = true := fun w hw => hts0 w (List.mem_cons_of_mem _ hw)
  have hl : lv_has ls 2 [(0, .ref mo), (1, .int (iz b))] := hl
  have hw := hpre
  refine lv_aload_n hx hb d_Mo_add_0 rfl (lv_at hl 0 rfl) ?_
  have hw9 := hw
  obtain ⟨fc, nc, pp, ⟨len, used, bl, fr, fb, lm, fe, ne, pe, ⟨hK, hP, hD⟩, hrt, hbt, hE, hpe, hlm⟩, hC⟩ := hw9
  have hr1 := hrt.1
  have hr2 := hrt.2.1
  have hb1 := hbt.1
  have hb2 := hbt.2.1
  have hE1 := hE.1
  have hC1 := hC.1
  have hP : va_P D vwCl [(mo, .inr (3, [.ref rs, .int (iz len), .int (iz co), .ref ex, .int (iz bi), .int (iz le), .ref li, .int (iz used), .ref bo, .int (iz bl), .ref cu])), (rs, .inl (cB, 4096, .inl (az fr))), (ex, .inr (4, [.ref xd, .int (iz ne), .int (iz pe)])), (xd, .inl (cB, 1300, .inl (az fe))), (li, .inl (cL, 160, .inr (.inl (azl lm)))), (bo, .inl (cB, 4096, .inl (az fb))), (cu, .inr (4, [.ref cd, .int (iz nc), .int (iz pp)])), (cd, .inl (cB, 1300, .inl (az fc)))] H := hP
  have hD : va_D (AM mo rs ex xd li bo cu cd) [(mo, .inr (3, [.ref rs, .int (iz len), .int (iz co), .ref ex, .int (iz bi), .int (iz le), .ref li, .int (iz used), .ref bo, .int (iz bl), .ref cu])), (rs, .inl (cB, 4096, .inl (az fr))), (ex, .inr (4, [.ref xd, .int (iz ne), .int (iz pe)])), (xd, .inl (cB, 1300, .inl (az fe))), (li, .inl (cL, 160, .inr (.inl (azl lm)))), (bo, .inl (cB, 4096, .inl (az fb))), (cu, .inr (4, [.ref cd, .int (iz nc), .int (iz pp)])), (cd, .inl (cB, 1300, .inl (az fc)))] := hD
  refine va_get (D := D) (ci := 3) (v := .ref bo) (C := R_3) (T := T_3) (N := 11) hx hb hts in_3 hown hK hP 0 rfl rfl 8 (by decide) (hts _ tw_400) (fun _ h9 => h9) rfl d_Mo_add_1 ?_
  refine lv_aload_n hx hb d_Mo_add_4 rfl (lv_at hl 0 rfl) ?_
  refine va_get (D := D) (ci := 3) (v := .int (iz bl)) (C := R_3) (T := T_3) (N := 11) hx hb hts in_3 hown hK hP 0 rfl rfl 9 (by decide) (hts _ tw_401) (fun _ h9 => h9) rfl d_Mo_add_5 ?_
  refine lv_iload_n hx hb d_Mo_add_8 rfl (lv_at hl 1 rfl) ?_
  refine z_i2b hx hb d_Mo_add_9 ⟨by omega, by omega⟩ ?_
  refine z_bast hx hb hK hP hD hS 5 0 rfl rfl (by omega) (by omega) (by decide) ⟨by omega, by omega⟩ d_Mo_add_10 (fun H locs hP hD hS => ?_)
  have hP : va_P D vwCl [(mo, .inr (3, [.ref rs, .int (iz len), .int (iz co), .ref ex, .int (iz bi), .int (iz le), .ref li, .int (iz used), .ref bo, .int (iz bl), .ref cu])), (rs, .inl (cB, 4096, .inl (az fr))), (ex, .inr (4, [.ref xd, .int (iz ne), .int (iz pe)])), (xd, .inl (cB, 1300, .inl (az fe))), (li, .inl (cL, 160, .inr (.inl (azl lm)))), (bo, .inl (cB, 4096, .inl (az (up fb bl b)))), (cu, .inr (4, [.ref cd, .int (iz nc), .int (iz pp)])), (cd, .inl (cB, 1300, .inl (az fc)))] H := hP
  have hD : va_D (AM mo rs ex xd li bo cu cd) [(mo, .inr (3, [.ref rs, .int (iz len), .int (iz co), .ref ex, .int (iz bi), .int (iz le), .ref li, .int (iz used), .ref bo, .int (iz bl), .ref cu])), (rs, .inl (cB, 4096, .inl (az fr))), (ex, .inr (4, [.ref xd, .int (iz ne), .int (iz pe)])), (xd, .inl (cB, 1300, .inl (az fe))), (li, .inl (cL, 160, .inr (.inl (azl lm)))), (bo, .inl (cB, 4096, .inl (az (up fb bl b)))), (cu, .inr (4, [.ref cd, .int (iz nc), .int (iz pp)])), (cd, .inl (cB, 1300, .inl (az fc)))] := hD
  refine lv_aload_n hx hb d_Mo_add_11 rfl (lv_at hl 0 rfl) ?_
  refine lv_dup hx hb d_Mo_add_12 rfl ?_
  refine va_get (D := D) (ci := 3) (v := .int (iz bl)) (C := R_3) (T := T_3) (N := 11) hx hb hts in_3 hown hK hP 0 rfl rfl 9 (by decide) (hts _ tw_401) (fun _ h9 => h9) rfl d_Mo_add_13 ?_
  refine lv_iconst (v := iz 1) hx hb d_Mo_add_16 rfl ?_
  refine z_iadd hx hb d_Mo_add_17 ?_
  refine va_put (D := D) (ci := 3) (v := .int (iz (bl + 1))) (ty := .int) (C := R_3) (T := T_3) (N := 11) hx hb hts in_3 ty_3 tyok_3 nm_3 hown hK hP hD hS 0 rfl rfl 9 (by decide) (hts _ tw_401) (fun _ h9 => h9) rfl (by decide +kernel) rfl rfl (Nat.le_of_ble_eq_true rfl) d_Mo_add_18 (fun H locs hP hD hS => ?_)
  have hP : va_P D vwCl [(mo, .inr (3, [.ref rs, .int (iz len), .int (iz co), .ref ex, .int (iz bi), .int (iz le), .ref li, .int (iz used), .ref bo, .int (iz (bl + 1)), .ref cu])), (rs, .inl (cB, 4096, .inl (az fr))), (ex, .inr (4, [.ref xd, .int (iz ne), .int (iz pe)])), (xd, .inl (cB, 1300, .inl (az fe))), (li, .inl (cL, 160, .inr (.inl (azl lm)))), (bo, .inl (cB, 4096, .inl (az (up fb bl b)))), (cu, .inr (4, [.ref cd, .int (iz nc), .int (iz pp)])), (cd, .inl (cB, 1300, .inl (az fc)))] H := hP
  have hD : va_D (AM mo rs ex xd li bo cu cd) [(mo, .inr (3, [.ref rs, .int (iz len), .int (iz co), .ref ex, .int (iz bi), .int (iz le), .ref li, .int (iz used), .ref bo, .int (iz (bl + 1)), .ref cu])), (rs, .inl (cB, 4096, .inl (az fr))), (ex, .inr (4, [.ref xd, .int (iz ne), .int (iz pe)])), (xd, .inl (cB, 1300, .inl (az fe))), (li, .inl (cL, 160, .inr (.inl (azl lm)))), (bo, .inl (cB, 4096, .inl (az (up fb bl b)))), (cu, .inr (4, [.ref cd, .int (iz nc), .int (iz pp)])), (cd, .inl (cB, 1300, .inl (az fc)))] := hD
  exact z_vret hx hb hr hlk hS (zR_st zSt_MW) ⟨rfl, _, _, _, ⟨_, _, _, _, _, _, _, _, _, ⟨hK, hP, hD⟩, hrt, (TxM_add hbt hbl hb0), hE, hpe, hlm⟩, hC⟩ d_Mo_add_21
theorem d_Mo_digit_0 : decode b_Mo_digit 0 = .ok (.iload_n 1, 1) := by decide +kernel
theorem d_Mo_digit_1 : decode b_Mo_digit 1 = .ok (.ifCond .lt (23), 3) := by decide +kernel
theorem d_Mo_digit_4 : decode b_Mo_digit 4 = .ok (.iload_n 1, 1) := by decide +kernel
theorem d_Mo_digit_5 : decode b_Mo_digit 5 = .ok (.aload_n 0, 1) := by decide +kernel
theorem d_Mo_digit_6 : decode b_Mo_digit 6 = .ok (.getfield 79, 3) := by decide +kernel
theorem d_Mo_digit_9 : decode b_Mo_digit 9 = .ok (.if_icmp .ge (15), 3) := by decide +kernel
theorem d_Mo_digit_12 : decode b_Mo_digit 12 = .ok (.bipush (48), 2) := by decide +kernel
theorem d_Mo_digit_14 : decode b_Mo_digit 14 = .ok (.aload_n 0, 1) := by decide +kernel
theorem d_Mo_digit_15 : decode b_Mo_digit 15 = .ok (.getfield 86, 3) := by decide +kernel
theorem d_Mo_digit_18 : decode b_Mo_digit 18 = .ok (.iload_n 1, 1) := by decide +kernel
theorem d_Mo_digit_19 : decode b_Mo_digit 19 = .ok (.baload, 1) := by decide +kernel
theorem d_Mo_digit_20 : decode b_Mo_digit 20 = .ok (.iadd, 1) := by decide +kernel
theorem d_Mo_digit_21 : decode b_Mo_digit 21 = .ok (.goto (5), 3) := by decide +kernel
theorem d_Mo_digit_24 : decode b_Mo_digit 24 = .ok (.bipush (48), 2) := by decide +kernel
theorem d_Mo_digit_26 : decode b_Mo_digit 26 = .ok (.ireturn, 1) := by decide +kernel
set_option maxHeartbeats 4000000 in
set_option maxRecDepth 100000 in
theorem c_Mo_digit (l : Launch) (D : va_G) (cB cL : ClassId) (mo rs ex xd li bo cu cd : Nat) (co bi le : Int) (rt bt : List Int) (V C : Int) (i : Int) (hi : iR i) : Ct l y_Mo_digit (ws_Mo_digit) 0 (AM mo rs ex xd li bo cu cd) [.ref cu, .int (iz i)] (MW D cB cL mo rs ex xd li bo cu cd co bi le rt bt V C) (zR (some (.int (iz (48 + dgt C (lead C - i))))) (MW D cB cL mo rs ex xd li bo cu cd co bi le rt bt V C)) := by
  refine z_body zSt_MW (by decide +kernel) rfl (Nat.le_of_ble_eq_true rfl) ?_
  intro p e s m args below meth c ls hx hb hml hr hlk hts0 hown hpre0 H locs hpre hS hl
  have hts : ∀ w ∈ TBL, w.before args s = true := fun w hw => hts0 w (List.mem_cons_of_mem _ hw)
  have hl : lv_has ls 2 [(0, .ref cu), (1, .int (iz i))] := hl
  have hw := hpre
  have hw9 := hw
  obtain ⟨fc, nc, pp, ⟨len, used, bl, fr, fb, lm, fe, ne, pe, ⟨hK, hP, hD⟩, hrt, hbt, hE, hpe, hlm⟩, hC⟩ := hw9
  have hr1 := hrt.1
  have hr2 := hrt.2.1
  have hb1 := hbt.1
  have hb2 := hbt.2.1
  have hE1 := hE.1
  have hC1 := hC.1
  refine lv_iload_n hx hb d_Mo_digit_0 rfl (lv_at hl 1 rfl) ?_
  refine z_if_lt (tgt := 24) hx hb d_Mo_digit_1 rfl ⟨by omega, by omega⟩ (fun hc1 => ?_) (fun hc1 => ?_)
  · refine lv_bipush (v := iz 48) hx hb d_Mo_digit_24 (by decide) ?_
    exact z_iret hx hb hr hlk hS (zR_st zSt_MW) ⟨by rw [← hC.any i, if_neg (by omega)]; rfl, hw⟩ d_Mo_digit_26
  · refine lv_iload_n hx hb d_Mo_digit_4 rfl (lv_at hl 1 rfl) ?_
    refine lv_aload_n hx hb d_Mo_digit_5 rfl (lv_at hl 0 rfl) ?_
    refine va_get (D := D) (ci := 4) (v := .int (iz nc)) (C := R_4) (T := T_4) (N := 3) hx hb hts in_4 hown hK hP 6 rfl rfl 1 (by decide) (hts _ tw_383) (fun _ h9 => h9) rfl d_Mo_digit_6 ?_
    refine z_icmp_ge (tgt := 24) hx hb d_Mo_digit_9 rfl ⟨by omega, by omega⟩ ⟨by omega, by omega⟩ (fun hc9 => ?_) (fun hc9 => ?_)
    · refine lv_bipush (v := iz 48) hx hb d_Mo_digit_24 (by decide) ?_
      exact z_iret hx hb hr hlk hS (zR_st zSt_MW) ⟨by rw [← hC.any i, if_neg (by omega)]; rfl, hw⟩ d_Mo_digit_26
    · have hfc := hC.2.1 i (by omega) (by omega)
      refine lv_bipush (v := iz 48) hx hb d_Mo_digit_12 (by decide) ?_
      refine lv_aload_n hx hb d_Mo_digit_14 rfl (lv_at hl 0 rfl) ?_
      refine va_get (D := D) (ci := 4) (v := .ref cd) (C := R_4) (T := T_4) (N := 3) hx hb hts in_4 hown hK hP 6 rfl rfl 0 (by decide) (hts _ tw_382) (fun _ h9 => h9) rfl d_Mo_digit_15 ?_
      refine lv_iload_n hx hb d_Mo_digit_18 rfl (lv_at hl 1 rfl) ?_
      refine z_bald hx hb hK hP 7 0 rfl rfl (by omega) (by omega) (by decide) d_Mo_digit_19 ?_
      refine z_iadd hx hb d_Mo_digit_20 ?_
      refine lv_goto (tgt := 26) hx hb d_Mo_digit_21 rfl ?_
      exact z_iret hx hb hr hlk hS (zR_st zSt_MW) ⟨by rw [← hC.any i, if_pos ⟨hc1, hc9⟩], hw⟩ d_Mo_digit_26
theorem d_Mo_wordOut_0 : decode b_Mo_word 0 = .ok (.aload_n 0, 1) := by decide +kernel
theorem d_Mo_wordOut_1 : decode b_Mo_word 1 = .ok (.iload_n 1, 1) := by decide +kernel
theorem d_Mo_wordOut_2 : decode b_Mo_word 2 = .ok (.ifCond .lt (15), 3) := by decide +kernel
theorem d_Mo_wordOut_5 : decode b_Mo_word 5 = .ok (.iload_n 1, 1) := by decide +kernel
theorem d_Mo_wordOut_6 : decode b_Mo_word 6 = .ok (.aload_n 0, 1) := by decide +kernel
theorem d_Mo_wordOut_7 : decode b_Mo_word 7 = .ok (.getfield 34, 3) := by decide +kernel
theorem d_Mo_wordOut_10 : decode b_Mo_word 10 = .ok (.if_icmp .ge (7), 3) := by decide +kernel
theorem d_Mo_wordOut_17 : decode b_Mo_word 17 = .ok (.iconst 0, 1) := by decide +kernel
theorem d_Mo_wordOut_18 : decode b_Mo_word 18 = .ok (.iconst 1, 1) := by decide +kernel
theorem d_Mo_wordOut_19 : decode b_Mo_word 19 = .ok (.invokevirtual 37, 3) := by decide +kernel
theorem d_Mo_wordOut_22 : decode b_Mo_word 22 = .ok (.ifCond .ne (5), 3) := by decide +kernel
theorem d_Mo_wordOut_25 : decode b_Mo_word 25 = .ok (.lconst 0, 1) := by decide +kernel
theorem d_Mo_wordOut_26 : decode b_Mo_word 26 = .ok (.lreturn, 1) := by decide +kernel
set_option maxHeartbeats 4000000 in
set_option maxRecDepth 100000 in
theorem c_Mo_wordOut (l : Launch) (D : va_G) (cB cL : ClassId) (mo rs ex xd li bo cu cd : Nat) (co bi le : Int) (rt bt : List Int) (V C : Int) (i : Int) (hi : iR i) (ho : i < 0 ∨ (rt.length : Int) ≤ i) : Ct l y_Mo_word (ws_Mo_word) 1 (AM mo rs ex xd li bo cu cd) [.ref mo, .int (iz i)] (MW D cB cL mo rs ex xd li bo cu cd co bi le rt bt V C) (zR (some (.long (lz 0))) (MW D cB cL mo rs ex xd li bo cu cd 1 bi le rt bt V C)) := by
  refine z_body zSt_MW (by decide +kernel) rfl (Nat.le_of_ble_eq_true rfl) ?_
  intro p e s m args below meth c ls hx hb hml hr hlk hts0 hown hpre0 H locs hpre hS hl
  have hts : ∀ w ∈ TBL, w.before args s = true := fun w hw => hts0 w (List.mem_cons_of_mem _ hw)
  have hl : lv_has ls 5 [(0, .ref mo), (1, .int (iz i))] := hl
  have hw := hpre
  have hw9 := hw
  obtain ⟨fc, nc, pp, ⟨len, used, bl, fr, fb, lm, fe, ne, pe, ⟨hK, hP, hD⟩, hrt, hbt, hE, hpe, hlm⟩, hC⟩ := hw9
  have hr1 := hrt.1
  have hr2 := hrt.2.1
  have hb1 := hbt.1
  have hb2 := hbt.2.1
  have hE1 := hE.1
  have hC1 := hC.1
  refine lv_aload_n hx hb d_Mo_wordOut_0 rfl (lv_at hl 0 rfl) ?_
  refine lv_iload_n hx hb d_Mo_wordOut_1 rfl (lv_at hl 1 rfl) ?_
  refine z_if_lt (tgt := 17) hx hb d_Mo_wordOut_2 rfl ⟨by omega, by omega⟩ (fun hc2 => ?_) (fun hc2 => ?_)
  · refine lv_iconst (v := iz 0) hx hb d_Mo_wordOut_17 rfl ?_
    refine lv_iconst (v := iz 1) hx hb d_Mo_wordOut_18 rfl ?_
    have hct := c_Mo_good l D cB cL mo rs ex xd li bo cu cd co bi le rt bt V C 0 1 (by omega) ⟨by omega, by omega⟩
    refine z_go (va_runV (As := [.int (iz 0), .int (iz 1)]) (rest := []) ⟨hx, hb, hml, hown, hts⟩ hct.2 (z_cwV hts w_Mo_good tw_435 (by decide)) (z_preV hct.1 (va_recv hK hP (ci := 3) (q0 := 0) rfl rfl) hw) rfl rfl hl.1 rfl (lv_room (Nat.le_of_ble_eq_true rfl)) d_Mo_wordOut_19 ⟨Nat.zero_le _, Nat.zero_le _⟩) hS (fun _ h9 => h9) (fun v9 t9 H locs hv9 hp9 hz9 hk9 hS => ?_)
    obtain ⟨rfl, hw⟩ := hp9
    have hw := MW.moved hv9.symm hw
    rw [if_pos rfl] at hw
    refine W.eq (g2 := F0 m 22 ls [.int (iz 0)]) rfl ?_
    refine z_if_ne (tgt := 27) hx hb d_Mo_wordOut_22 rfl ⟨by omega, by omega⟩ (fun hc22 => ?_) (fun hc22 => ?_)
    · exfalso
      omega
    · refine lv_lconst (v := lz 0) hx hb d_Mo_wordOut_25 (by decide) ?_
      exact z_lret hx hb hr hlk hS (zR_st zSt_MW) ⟨rfl, hw⟩ d_Mo_wordOut_26
  · refine lv_iload_n hx hb d_Mo_wordOut_5 rfl (lv_at hl 1 rfl) ?_
    refine lv_aload_n hx hb d_Mo_wordOut_6 rfl (lv_at hl 0 rfl) ?_
    refine va_get (D := D) (ci := 3) (v := .int (iz len)) (C := R_3) (T := T_3) (N := 11) hx hb hts in_3 hown hK hP 0 rfl rfl 1 (by decide) (hts _ tw_393) (fun _ h9 => h9) rfl d_Mo_wordOut_7 ?_
    refine z_icmp_ge (tgt := 17) hx hb d_Mo_wordOut_10 rfl ⟨by omega, by omega⟩ ⟨by omega, by omega⟩ (fun hc10 => ?_) (fun hc10 => ?_)
    · refine lv_iconst (v := iz 0) hx hb d_Mo_wordOut_17 rfl ?_
      refine lv_iconst (v := iz 1) hx hb d_Mo_wordOut_18 rfl ?_
      have hct := c_Mo_good l D cB cL mo rs ex xd li bo cu cd co bi le rt bt V C 0 1 (by omega) ⟨by omega, by omega⟩
      refine z_go (va_runV (As := [.int (iz 0), .int (iz 1)]) (rest := []) ⟨hx, hb, hml, hown, hts⟩ hct.2 (z_cwV hts w_Mo_good tw_435 (by decide)) (z_preV hct.1 (va_recv hK hP (ci := 3) (q0 := 0) rfl rfl) hw) rfl rfl hl.1 rfl (lv_room (Nat.le_of_ble_eq_true rfl)) d_Mo_wordOut_19 ⟨Nat.zero_le _, Nat.zero_le _⟩) hS (fun _ h9 => h9) (fun v9 t9 H locs hv9 hp9 hz9 hk9 hS => ?_)
      obtain ⟨rfl, hw⟩ := hp9
      have hw := MW.moved hv9.symm hw
      rw [if_pos rfl] at hw
      refine W.eq (g2 := F0 m 22 ls [.int (iz 0)]) rfl ?_
      refine z_if_ne (tgt := 27) hx hb d_Mo_wordOut_22 rfl ⟨by omega, by omega⟩ (fun hc22 => ?_) (fun hc22 => ?_)
      · exfalso
        omega
      · refine lv_lconst (v := lz 0) hx hb d_Mo_wordOut_25 (by decide) ?_
        exact z_lret hx hb hr hlk hS (zR_st zSt_MW) ⟨rfl, hw⟩ d_Mo_wordOut_26
    · exfalso
      omega
theorem d_Mo_wordIn_0 : decode b_Mo_word 0 = .ok (.aload_n 0, 1) := by decide +kernel
theorem d_Mo_wordIn_1 : decode b_Mo_word 1 = .ok (.iload_n 1, 1) := by decide +kernel
theorem d_Mo_wordIn_2 : decode b_Mo_word 2 = .ok (.ifCond .lt (15), 3) := by decide +kernel
theorem d_Mo_wordIn_5 : decode b_Mo_word 5 = .ok (.iload_n 1, 1) := by decide +kernel
theorem d_Mo_wordIn_6 : decode b_Mo_word 6 = .ok (.aload_n 0, 1) := by decide +kernel
theorem d_Mo_wordIn_7 : decode b_Mo_word 7 = .ok (.getfield 34, 3) := by decide +kernel
theorem d_Mo_wordIn_10 : decode b_Mo_word 10 = .ok (.if_icmp .ge (7), 3) := by decide +kernel
theorem d_Mo_wordIn_13 : decode b_Mo_word 13 = .ok (.iconst 1, 1) := by decide +kernel
theorem d_Mo_wordIn_14 : decode b_Mo_word 14 = .ok (.goto (4), 3) := by decide +kernel
theorem d_Mo_wordIn_18 : decode b_Mo_word 18 = .ok (.iconst 1, 1) := by decide +kernel
theorem d_Mo_wordIn_19 : decode b_Mo_word 19 = .ok (.invokevirtual 37, 3) := by decide +kernel
theorem d_Mo_wordIn_22 : decode b_Mo_word 22 = .ok (.ifCond .ne (5), 3) := by decide +kernel
theorem d_Mo_wordIn_27 : decode b_Mo_word 27 = .ok (.lconst 0, 1) := by decide +kernel
theorem d_Mo_wordIn_28 : decode b_Mo_word 28 = .ok (.lstore_n 2, 1) := by decide +kernel
theorem d_Mo_wordIn_29 : decode b_Mo_word 29 = .ok (.iload_n 1, 1) := by decide +kernel
theorem d_Mo_wordIn_30 : decode b_Mo_word 30 = .ok (.istore 4, 2) := by decide +kernel
theorem d_Mo_wordIn_32 : decode b_Mo_word 32 = .ok (.iload 4, 2) := by decide +kernel
theorem d_Mo_wordIn_34 : decode b_Mo_word 34 = .ok (.iload_n 1, 1) := by decide +kernel
theorem d_Mo_wordIn_35 : decode b_Mo_word 35 = .ok (.bipush (8), 2) := by decide +kernel
theorem d_Mo_wordIn_37 : decode b_Mo_word 37 = .ok (.iadd, 1) := by decide +kernel
theorem d_Mo_wordIn_38 : decode b_Mo_word 38 = .ok (.if_icmp .ge (40), 3) := by decide +kernel
theorem d_Mo_wordIn_41 : decode b_Mo_word 41 = .ok (.lload_n 2, 1) := by decide +kernel
theorem d_Mo_wordIn_42 : decode b_Mo_word 42 = .ok (.bipush (8), 2) := by decide +kernel
theorem d_Mo_wordIn_44 : decode b_Mo_word 44 = .ok (.lshl, 1) := by decide +kernel
theorem d_Mo_wordIn_45 : decode b_Mo_word 45 = .ok (.iload 4, 2) := by decide +kernel
theorem d_Mo_wordIn_47 : decode b_Mo_word 47 = .ok (.aload_n 0, 1) := by decide +kernel
theorem d_Mo_wordIn_48 : decode b_Mo_word 48 = .ok (.getfield 34, 3) := by decide +kernel
theorem d_Mo_wordIn_51 : decode b_Mo_word 51 = .ok (.if_icmp .ge (18), 3) := by decide +kernel
theorem d_Mo_wordIn_54 : decode b_Mo_word 54 = .ok (.aload_n 0, 1) := by decide +kernel
theorem d_Mo_wordIn_55 : decode b_Mo_word 55 = .ok (.getfield 7, 3) := by decide +kernel
theorem d_Mo_wordIn_58 : decode b_Mo_word 58 = .ok (.iload 4, 2) := by decide +kernel
theorem d_Mo_wordIn_60 : decode b_Mo_word 60 = .ok (.baload, 1) := by decide +kernel
theorem d_Mo_wordIn_61 : decode b_Mo_word 61 = .ok (.i2l, 1) := by decide +kernel
theorem d_Mo_wordIn_62 : decode b_Mo_word 62 = .ok (.ldc2_w 41, 3) := by decide +kernel
theorem d_Mo_wordIn_65 : decode b_Mo_word 65 = .ok (.land, 1) := by decide +kernel
theorem d_Mo_wordIn_66 : decode b_Mo_word 66 = .ok (.goto (4), 3) := by decide +kernel
theorem d_Mo_wordIn_69 : decode b_Mo_word 69 = .ok (.lconst 0, 1) := by decide +kernel
theorem d_Mo_wordIn_70 : decode b_Mo_word 70 = .ok (.lor, 1) := by decide +kernel
theorem d_Mo_wordIn_71 : decode b_Mo_word 71 = .ok (.lstore_n 2, 1) := by decide +kernel
theorem d_Mo_wordIn_72 : decode b_Mo_word 72 = .ok (.iinc 4 (1), 3) := by decide +kernel
theorem d_Mo_wordIn_75 : decode b_Mo_word 75 = .ok (.goto (-43), 3) := by decide +kernel
theorem d_Mo_wordIn_78 : decode b_Mo_word 78 = .ok (.lload_n 2, 1) := by decide +kernel
theorem d_Mo_wordIn_79 : decode b_Mo_word 79 = .ok (.lreturn, 1) := by decide +kernel
set_option maxHeartbeats 4000000 in
set_option maxRecDepth 100000 in
theorem c_Mo_wordIn (l : Launch) (D : va_G) (cB cL : ClassId) (mo rs ex xd li bo cu cd : Nat) (co bi le : Int) (rt bt : List Int) (V C : Int) (st : Nat) (hst : st < rt.length) : Ct l y_Mo_word (ws_Mo_word) 1 (AM mo rs ex xd li bo cu cd) [.ref mo, .int (iz (st : Int))] (MW D cB cL mo rs ex xd li bo cu cd co bi le rt bt V C) (zR (some (.long (lz (w8 rt st 8)))) (MW D cB cL mo rs ex xd li bo cu cd 0 bi le rt bt V C)) := by
  refine z_body zSt_MW (by decide +kernel) rfl (Nat.le_of_ble_eq_true rfl) ?_
  intro p e s m args below meth c ls hx hb hml hr hlk hts0 hown hpre0 H locs hpre hS hl
  have hts : ∀ w ∈ TBL, w.before args s = true := fun w hw => hts0 w (List.mem_cons_of_mem _ hw)
  have hl : lv_has ls 5 [(0, .ref mo), (1, .int (iz (st : Int)))] := hl
  have hw := hpre
  have hw9 := hw
  obtain ⟨fc, nc, pp, ⟨len, used, bl, fr, fb, lm, fe, ne, pe, ⟨hK, hP, hD⟩, hrt, hbt, hE, hpe, hlm⟩, hC⟩ := hw9
  have hr1 := hrt.1
  have hr2 := hrt.2.1
  have hb1 := hbt.1
  have hb2 := hbt.2.1
  have hE1 := hE.1
  have hC1 := hC.1
  have htc0 := hrt.2.2.2
  have L32 : ∀ (N32 : Nat) (j : Nat) (i : Int) (H : Heap) (locs : List Loc) (ls : Array Slot), MW D cB cL mo rs ex xd li bo cu cd 0 bi le rt bt V C s H → va_S (AM mo rs ex xd li bo cu cd) s.heap H locs → lv_has ls 5 [(0, .ref mo), (1, .int (iz (st : Int))), (2, .long (lz (w8 rt st j))), (4, .int (iz i))] → (j ≤ 8 ∧ i = (st : Int) + (j : Int)) → 8 - j < N32 → W p l e (zrm 1) s m args below meth c H locs 0 0 (MQ below (zQ (AM mo rs ex xd li bo cu cd) (zR (some (.long (lz (w8 rt st 8)))) (MW D cB cL mo rs ex xd li bo cu cd 0 bi le rt bt V C))) args s 0 0 (AM mo rs ex xd li bo cu cd)) (F0 m 32 ls []) := by
    intro N32
    induction N32 with
    | zero => intro j i H locs ls hw hS hl hj hN32; exact absurd hN32 (Nat.not_lt_zero _)
    | succ N32 ih32 =>
      intro j i H locs ls hw hS hl hj hN32
      refine lv_iload hx hb d_Mo_wordIn_32 (lv_at hl 3 rfl) ?_
      refine lv_iload_n hx hb d_Mo_wordIn_34 rfl (lv_at hl 1 rfl) ?_
      refine lv_bipush (v := iz 8) hx hb d_Mo_wordIn_35 (by decide) ?_
      refine z_iadd hx hb d_Mo_wordIn_37 ?_
      refine z_icmp_ge (tgt := 78) hx hb d_Mo_wordIn_38 rfl ⟨by omega, by omega⟩ ⟨by omega, by omega⟩ (fun hc38 => ?_) (fun hc38 => ?_)
      · refine lv_lload_n hx hb d_Mo_wordIn_78 rfl (lv_at hl 2 rfl) ?_
        exact z_lret hx hb hr hlk hS (zR_st zSt_MW) (by
            have e8 : j = 8 := by omega
            subst e8
            exact ⟨rfl, hw⟩) d_Mo_wordIn_79
      · have hgr := tx_getD htc0 (st + j)
        have hw8 := w8_le htc0 st (j := j) (by omega)
        refine lv_lload_n hx hb d_Mo_wordIn_41 rfl (lv_at hl 2 rfl) ?_
        refine lv_bipush (v := iz 8) hx hb d_Mo_wordIn_42 (by decide) ?_
        refine z_lshl hx hb 8 d_Mo_wordIn_44 rfl (by decide) ⟨by omega, by omega⟩ ⟨by omega, by omega⟩ ?_
        refine lv_iload hx hb d_Mo_wordIn_45 (lv_at hl 3 rfl) ?_
        refine lv_aload_n hx hb d_Mo_wordIn_47 rfl (lv_at hl 0 rfl) ?_
        have hw9 := hw
        obtain ⟨fc, nc, pp, ⟨len, used, bl, fr, fb, lm, fe, ne, pe, ⟨hK, hP, hD⟩, hrt, hbt, hE, hpe, hlm⟩, hC⟩ := hw9
        have hr1 := hrt.1
        have hr2 := hrt.2.1
        have hb1 := hbt.1
        have hb2 := hbt.2.1
        have hE1 := hE.1
        have hC1 := hC.1
        have hP : va_P D vwCl [(mo, .inr (3, [.ref rs, .int (iz len), .int (iz 0), .ref ex, .int (iz bi), .int (iz le), .ref li, .int (iz used), .ref bo, .int (iz bl), .ref cu])), (rs, .inl (cB, 4096, .inl (az fr))), (ex, .inr (4, [.ref xd, .int (iz ne), .int (iz pe)])), (xd, .inl (cB, 1300, .inl (az fe))), (li, .inl (cL, 160, .inr (.inl (azl lm)))), (bo, .inl (cB, 4096, .inl (az fb))), (cu, .inr (4, [.ref cd, .int (iz nc), .int (iz pp)])), (cd, .inl (cB, 1300, .inl (az fc)))] H := hP
        have hD : va_D (AM mo rs ex xd li bo cu cd) [(mo, .inr (3, [.ref rs, .int (iz len), .int (iz 0), .ref ex, .int (iz bi), .int (iz le), .ref li, .int (iz used), .ref bo, .int (iz bl), .ref cu])), (rs, .inl (cB, 4096, .inl (az fr))), (ex, .inr (4, [.ref xd, .int (iz ne), .int (iz pe)])), (xd, .inl (cB, 1300, .inl (az fe))), (li, .inl (cL, 160, .inr (.inl (azl lm)))), (bo, .inl (cB, 4096, .inl (az fb))), (cu, .inr (4, [.ref cd, .int (iz nc), .int (iz pp)])), (cd, .inl (cB, 1300, .inl (az fc)))] := hD
        refine va_get (D := D) (ci := 3) (v := .int (iz len)) (C := R_3) (T := T_3) (N := 11) hx hb hts in_3 hown hK hP 0 rfl rfl 1 (by decide) (hts _ tw_393) (fun _ h9 => h9) rfl d_Mo_wordIn_48 ?_
        refine z_icmp_ge (tgt := 69) hx hb d_Mo_wordIn_51 rfl ⟨by omega, by omega⟩ ⟨by omega, by omega⟩ (fun hc51 => ?_) (fun hc51 => ?_)
        · have hgj : rt.getD (st + j) 0 = 0 := by
            simp only [List.getD]
            rw [List.getElem?_eq_none (by omega)]
            rfl
          refine lv_lconst (v := lz 0) hx hb d_Mo_wordIn_69 (by decide) ?_
          refine z_rl (b := rt.getD (st + j) 0) hgj.symm ?_
          refine z_lorp (a := w8 rt st j) hx hb 8 d_Mo_wordIn_70 (by omega) (by omega) (by omega) (by omega) ?_
          refine z_rl (b := w8 rt st (j + 1)) rfl ?_
          refine lv_lstore_n hx hb d_Mo_wordIn_71 rfl hl (by decide) rfl (fun ls hl => ?_)
          have hl : lv_has ls 5 [(2, .long (lz (w8 rt st (j + 1)))), (0, .ref mo), (1, .int (iz (st : Int))), (4, .int (iz i))] := hl
          refine lv_iinc (k := 3) (v := (iz (i + 1))) hx hb d_Mo_wordIn_72 hl rfl (by show iz _ + iz (1) = _; rw [← iz_add]; try rfl) (by decide) rfl (fun ls hl => ?_)
          have hl : lv_has ls 5 [(4, .int (iz (i + 1))), (2, .long (lz (w8 rt st (j + 1)))), (0, .ref mo), (1, .int (iz (st : Int)))] := hl
          refine lv_goto (tgt := 32) hx hb d_Mo_wordIn_75 rfl ?_
          exact ih32 (j + 1) (i + 1) _ _ _ hw hS (lv_sub hl [2, 3, 1, 0] rfl) ⟨by omega, by omega⟩ (by omega)
        · have hgj : fr i = rt.getD (st + j) 0 := by
            have h8 := hrt.2.2.1 (st + j) (by omega)
            rw [hj.2, ← Int.natCast_add]
            exact h8
          refine lv_aload_n hx hb d_Mo_wordIn_54 rfl (lv_at hl 0 rfl) ?_
          refine va_get (D := D) (ci := 3) (v := .ref rs) (C := R_3) (T := T_3) (N := 11) hx hb hts in_3 hown hK hP 0 rfl rfl 0 (by decide) (hts _ tw_392) (fun _ h9 => h9) rfl d_Mo_wordIn_55 ?_
          refine lv_iload hx hb d_Mo_wordIn_58 (lv_at hl 3 rfl) ?_
          refine z_bald hx hb hK hP 1 0 rfl rfl (by omega) (by omega) (by decide) d_Mo_wordIn_60 ?_
          refine z_ri (b := rt.getD (st + j) 0) hgj ?_
          refine z_i2l hx hb d_Mo_wordIn_61 ⟨by omega, by omega⟩ ?_
          refine lv_ldc2 (v := (255 : Int64)) hx hb hown (hts _ tw_439) d_Mo_wordIn_62 ?_
          refine z_topl (y := lz (255)) (by decide) ?_
          refine z_landm hx hb 8 d_Mo_wordIn_65 (by decide) rfl ⟨by omega, by omega⟩ ?_
          refine z_rl (b := rt.getD (st + j) 0) (by omega) ?_
          refine lv_goto (tgt := 70) hx hb d_Mo_wordIn_66 rfl ?_
          refine z_lorp (a := w8 rt st j) hx hb 8 d_Mo_wordIn_70 (by omega) (by omega) (by omega) (by omega) ?_
          refine z_rl (b := w8 rt st (j + 1)) rfl ?_
          refine lv_lstore_n hx hb d_Mo_wordIn_71 rfl hl (by decide) rfl (fun ls hl => ?_)
          have hl : lv_has ls 5 [(2, .long (lz (w8 rt st (j + 1)))), (0, .ref mo), (1, .int (iz (st : Int))), (4, .int (iz i))] := hl
          refine lv_iinc (k := 3) (v := (iz (i + 1))) hx hb d_Mo_wordIn_72 hl rfl (by show iz _ + iz (1) = _; rw [← iz_add]; try rfl) (by decide) rfl (fun ls hl => ?_)
          have hl : lv_has ls 5 [(4, .int (iz (i + 1))), (2, .long (lz (w8 rt st (j + 1)))), (0, .ref mo), (1, .int (iz (st : Int)))] := hl
          refine lv_goto (tgt := 32) hx hb d_Mo_wordIn_75 rfl ?_
          exact ih32 (j + 1) (i + 1) _ _ _ hw hS (lv_sub hl [2, 3, 1, 0] rfl) ⟨by omega, by omega⟩ (by omega)
  refine lv_aload_n hx hb d_Mo_wordIn_0 rfl (lv_at hl 0 rfl) ?_
  refine lv_iload_n hx hb d_Mo_wordIn_1 rfl (lv_at hl 1 rfl) ?_
  refine z_if_lt (tgt := 17) hx hb d_Mo_wordIn_2 rfl ⟨by omega, by omega⟩ (fun hc2 => ?_) (fun hc2 => ?_)
  · exfalso
    omega
  · refine lv_iload_n hx hb d_Mo_wordIn_5 rfl (lv_at hl 1 rfl) ?_
    refine lv_aload_n hx hb d_Mo_wordIn_6 rfl (lv_at hl 0 rfl) ?_
    refine va_get (D := D) (ci := 3) (v := .int (iz len)) (C := R_3) (T := T_3) (N := 11) hx hb hts in_3 hown hK hP 0 rfl rfl 1 (by decide) (hts _ tw_393) (fun _ h9 => h9) rfl d_Mo_wordIn_7 ?_
    refine z_icmp_ge (tgt := 17) hx hb d_Mo_wordIn_10 rfl ⟨by omega, by omega⟩ ⟨by omega, by omega⟩ (fun hc10 => ?_) (fun hc10 => ?_)
    · exfalso
      omega
    · refine lv_iconst (v := iz 1) hx hb d_Mo_wordIn_13 rfl ?_
      refine lv_goto (tgt := 18) hx hb d_Mo_wordIn_14 rfl ?_
      refine lv_iconst (v := iz 1) hx hb d_Mo_wordIn_18 rfl ?_
      have hct := c_Mo_good l D cB cL mo rs ex xd li bo cu cd co bi le rt bt V C 1 1 (by omega) ⟨by omega, by omega⟩
      refine z_go (va_runV (As := [.int (iz 1), .int (iz 1)]) (rest := []) ⟨hx, hb, hml, hown, hts⟩ hct.2 (z_cwV hts w_Mo_good tw_435 (by decide)) (z_preV hct.1 (va_recv hK hP (ci := 3) (q0 := 0) rfl rfl) hw) rfl rfl hl.1 rfl (lv_room (Nat.le_of_ble_eq_true rfl)) d_Mo_wordIn_19 ⟨Nat.zero_le _, Nat.zero_le _⟩) hS (fun _ h9 => h9) (fun v9 t9 H locs hv9 hp9 hz9 hk9 hS => ?_)
      obtain ⟨rfl, hw⟩ := hp9
      have hw := MW.moved hv9.symm hw
      rw [if_neg (by decide)] at hw
      refine W.eq (g2 := F0 m 22 ls [.int (iz 1)]) rfl ?_
      refine z_if_ne (tgt := 27) hx hb d_Mo_wordIn_22 rfl ⟨by omega, by omega⟩ (fun hc22 => ?_) (fun hc22 => ?_)
      · refine lv_lconst (v := lz 0) hx hb d_Mo_wordIn_27 (by decide) ?_
        refine lv_lstore_n hx hb d_Mo_wordIn_28 rfl hl (by decide) rfl (fun ls hl => ?_)
        have hl : lv_has ls 5 [(2, .long (lz 0)), (0, .ref mo), (1, .int (iz (st : Int)))] := hl
        refine lv_iload_n hx hb d_Mo_wordIn_29 rfl (lv_at hl 2 rfl) ?_
        refine lv_istore hx hb d_Mo_wordIn_30 hl (by decide) rfl (fun ls hl => ?_)
        have hl : lv_has ls 5 [(4, .int (iz (st : Int))), (2, .long (lz 0)), (0, .ref mo), (1, .int (iz (st : Int)))] := hl
        exact L32 _ 0 (st : Int) _ _ _ hw hS (lv_sub hl [2, 3, 1, 0] rfl) ⟨by omega, by omega⟩ (Nat.lt_succ_self _)
      · exfalso
        omega
end
section
theorem d_Mo_more_0 : decode b_Mo_more 0 = .ok (.aload_n 0, 1) := by decide +kernel
theorem d_Mo_more_1 : decode b_Mo_more 1 = .ok (.getfield 79, 3) := by decide +kernel
theorem d_Mo_more_4 : decode b_Mo_more 4 = .ok (.iconst 1, 1) := by decide +kernel
theorem d_Mo_more_5 : decode b_Mo_more 5 = .ok (.isub, 1) := by decide +kernel
theorem d_Mo_more_6 : decode b_Mo_more 6 = .ok (.istore_n 1, 1) := by decide +kernel
theorem d_Mo_more_7 : decode b_Mo_more 7 = .ok (.iload_n 1, 1) := by decide +kernel
theorem d_Mo_more_8 : decode b_Mo_more 8 = .ok (.ifCond .lt (27), 3) := by decide +kernel
theorem d_Mo_more_11 : decode b_Mo_more 11 = .ok (.aload_n 0, 1) := by decide +kernel
theorem d_Mo_more_12 : decode b_Mo_more 12 = .ok (.getfield 86, 3) := by decide +kernel
theorem d_Mo_more_15 : decode b_Mo_more 15 = .ok (.iload_n 1, 1) := by decide +kernel
theorem d_Mo_more_16 : decode b_Mo_more 16 = .ok (.baload, 1) := by decide +kernel
theorem d_Mo_more_17 : decode b_Mo_more 17 = .ok (.bipush (9), 2) := by decide +kernel
theorem d_Mo_more_19 : decode b_Mo_more 19 = .ok (.if_icmp .ne (16), 3) := by decide +kernel
theorem d_Mo_more_22 : decode b_Mo_more 22 = .ok (.aload_n 0, 1) := by decide +kernel
theorem d_Mo_more_23 : decode b_Mo_more 23 = .ok (.getfield 86, 3) := by decide +kernel
theorem d_Mo_more_26 : decode b_Mo_more 26 = .ok (.iload_n 1, 1) := by decide +kernel
theorem d_Mo_more_27 : decode b_Mo_more 27 = .ok (.iconst 0, 1) := by decide +kernel
theorem d_Mo_more_28 : decode b_Mo_more 28 = .ok (.bastore, 1) := by decide +kernel
theorem d_Mo_more_29 : decode b_Mo_more 29 = .ok (.iinc 1 (-1), 3) := by decide +kernel
theorem d_Mo_more_32 : decode b_Mo_more 32 = .ok (.goto (-25), 3) := by decide +kernel
theorem d_Mo_more_35 : decode b_Mo_more 35 = .ok (.iload_n 1, 1) := by decide +kernel
theorem d_Mo_more_36 : decode b_Mo_more 36 = .ok (.ifCond .lt (17), 3) := by decide +kernel
theorem d_Mo_more_39 : decode b_Mo_more 39 = .ok (.aload_n 0, 1) := by decide +kernel
theorem d_Mo_more_40 : decode b_Mo_more 40 = .ok (.getfield 86, 3) := by decide +kernel
theorem d_Mo_more_43 : decode b_Mo_more 43 = .ok (.iload_n 1, 1) := by decide +kernel
theorem d_Mo_more_44 : decode b_Mo_more 44 = .ok (.dup2, 1) := by decide +kernel
theorem d_Mo_more_45 : decode b_Mo_more 45 = .ok (.baload, 1) := by decide +kernel
theorem d_Mo_more_46 : decode b_Mo_more 46 = .ok (.iconst 1, 1) := by decide +kernel
theorem d_Mo_more_47 : decode b_Mo_more 47 = .ok (.iadd, 1) := by decide +kernel
theorem d_Mo_more_48 : decode b_Mo_more 48 = .ok (.i2b, 1) := by decide +kernel
theorem d_Mo_more_49 : decode b_Mo_more 49 = .ok (.bastore, 1) := by decide +kernel
theorem d_Mo_more_50 : decode b_Mo_more 50 = .ok (.goto (59), 3) := by decide +kernel
theorem d_Mo_more_53 : decode b_Mo_more 53 = .ok (.aload_n 0, 1) := by decide +kernel
theorem d_Mo_more_54 : decode b_Mo_more 54 = .ok (.getfield 79, 3) := by decide +kernel
theorem d_Mo_more_57 : decode b_Mo_more 57 = .ok (.istore_n 2, 1) := by decide +kernel
theorem d_Mo_more_58 : decode b_Mo_more 58 = .ok (.iload_n 2, 1) := by decide +kernel
theorem d_Mo_more_59 : decode b_Mo_more 59 = .ok (.ifCond .le (23), 3) := by decide +kernel
theorem d_Mo_more_62 : decode b_Mo_more 62 = .ok (.aload_n 0, 1) := by decide +kernel
theorem d_Mo_more_63 : decode b_Mo_more 63 = .ok (.getfield 86, 3) := by decide +kernel
theorem d_Mo_more_66 : decode b_Mo_more 66 = .ok (.iload_n 2, 1) := by decide +kernel
theorem d_Mo_more_67 : decode b_Mo_more 67 = .ok (.aload_n 0, 1) := by decide +kernel
theorem d_Mo_more_68 : decode b_Mo_more 68 = .ok (.getfield 86, 3) := by decide +kernel
theorem d_Mo_more_71 : decode b_Mo_more 71 = .ok (.iload_n 2, 1) := by decide +kernel
theorem d_Mo_more_72 : decode b_Mo_more 72 = .ok (.iconst 1, 1) := by decide +kernel
theorem d_Mo_more_73 : decode b_Mo_more 73 = .ok (.isub, 1) := by decide +kernel
theorem d_Mo_more_74 : decode b_Mo_more 74 = .ok (.baload, 1) := by decide +kernel
theorem d_Mo_more_75 : decode b_Mo_more 75 = .ok (.bastore, 1) := by decide +kernel
theorem d_Mo_more_76 : decode b_Mo_more 76 = .ok (.iinc 2 (-1), 3) := by decide +kernel
theorem d_Mo_more_79 : decode b_Mo_more 79 = .ok (.goto (-21), 3) := by decide +kernel
theorem d_Mo_more_82 : decode b_Mo_more 82 = .ok (.aload_n 0, 1) := by decide +kernel
theorem d_Mo_more_83 : decode b_Mo_more 83 = .ok (.getfield 86, 3) := by decide +kernel
theorem d_Mo_more_86 : decode b_Mo_more 86 = .ok (.iconst 0, 1) := by decide +kernel
theorem d_Mo_more_87 : decode b_Mo_more 87 = .ok (.iconst 1, 1) := by decide +kernel
theorem d_Mo_more_88 : decode b_Mo_more 88 = .ok (.bastore, 1) := by decide +kernel
theorem d_Mo_more_89 : decode b_Mo_more 89 = .ok (.aload_n 0, 1) := by decide +kernel
theorem d_Mo_more_90 : decode b_Mo_more 90 = .ok (.dup, 1) := by decide +kernel
theorem d_Mo_more_91 : decode b_Mo_more 91 = .ok (.getfield 79, 3) := by decide +kernel
theorem d_Mo_more_94 : decode b_Mo_more 94 = .ok (.iconst 1, 1) := by decide +kernel
theorem d_Mo_more_95 : decode b_Mo_more 95 = .ok (.iadd, 1) := by decide +kernel
theorem d_Mo_more_96 : decode b_Mo_more 96 = .ok (.putfield 79, 3) := by decide +kernel
theorem d_Mo_more_99 : decode b_Mo_more 99 = .ok (.aload_n 0, 1) := by decide +kernel
theorem d_Mo_more_100 : decode b_Mo_more 100 = .ok (.dup, 1) := by decide +kernel
theorem d_Mo_more_101 : decode b_Mo_more 101 = .ok (.getfield 89, 3) := by decide +kernel
theorem d_Mo_more_104 : decode b_Mo_more 104 = .ok (.iconst 1, 1) := by decide +kernel
theorem d_Mo_more_105 : decode b_Mo_more 105 = .ok (.iadd, 1) := by decide +kernel
theorem d_Mo_more_106 : decode b_Mo_more 106 = .ok (.putfield 89, 3) := by decide +kernel
theorem d_Mo_more_109 : decode b_Mo_more 109 = .ok (.return_, 1) := by decide +kernel
set_option maxHeartbeats 4000000 in
set_option maxRecDepth 100000 in
theorem c_Mo_more (l : Launch) (D : va_G) (cB cL : ClassId) (mo rs ex xd li bo cu cd : Nat) (co bi le : Int) (rt bt : List Int) (V C : Int) (fc : Int → Int) (nc pp : Int) (hC : RowOK fc nc pp C) (hn0 : 0 < nc) (hn1 : nc ≤ 1249) (hp1 : pp ≤ 1499) : Ct l y_Mo_more (ws_Mo_more) 0 (AM mo rs ex xd li bo cu cd) [.ref cu] (MWc D cB cL mo rs ex xd li bo cu cd co bi le rt bt V fc nc pp) (zR none (MW D cB cL mo rs ex xd li bo cu cd co bi le rt bt V (C + 10 ^ (pp - nc + 1080).toNat))) := by
  refine z_body zSt_MWc (by decide +kernel) rfl (Nat.le_of_ble_eq_true rfl) ?_
  intro p e s m args below meth c ls hx hb hml hr hlk hts0 hown hpre0 H locs hpre hS hl
  have hts : ∀ w ∈ TBL, w.before args s = true := fun w hw => hts0 w (List.mem_cons_of_mem _ hw)
  have hl : lv_has ls 3 [(0, .ref cu)] := hl
  have hw := hpre
  have hw9 := hw
  obtain ⟨len, used, bl, fr, fb, lm, fe, ne, pe, ⟨hK, hP, hD⟩, hrt, hbt, hE, hpe, hlm⟩ := hw9
  have L58 : ∀ (N58 : Nat) (h : Int → Int) (k : Int) (H : Heap) (locs : List Loc) (ls : Array Slot), va_P D vwCl [(mo, .inr (3, [.ref rs, .int (iz len), .int (iz co), .ref ex, .int (iz bi), .int (iz le), .ref li, .int (iz used), .ref bo, .int (iz bl), .ref cu])), (rs, .inl (cB, 4096, .inl (az fr))), (ex, .inr (4, [.ref xd, .int (iz ne), .int (iz pe)])), (xd, .inl (cB, 1300, .inl (az fe))), (li, .inl (cL, 160, .inr (.inl (azl lm)))), (bo, .inl (cB, 4096, .inl (az fb))), (cu, .inr (4, [.ref cd, .int (iz nc), .int (iz pp)])), (cd, .inl (cB, 1300, .inl (az h)))] H → va_D (AM mo rs ex xd li bo cu cd) [(mo, .inr (3, [.ref rs, .int (iz len), .int (iz co), .ref ex, .int (iz bi), .int (iz le), .ref li, .int (iz used), .ref bo, .int (iz bl), .ref cu])), (rs, .inl (cB, 4096, .inl (az fr))), (ex, .inr (4, [.ref xd, .int (iz ne), .int (iz pe)])), (xd, .inl (cB, 1300, .inl (az fe))), (li, .inl (cL, 160, .inr (.inl (azl lm)))), (bo, .inl (cB, 4096, .inl (az fb))), (cu, .inr (4, [.ref cd, .int (iz nc), .int (iz pp)])), (cd, .inl (cB, 1300, .inl (az h)))] → va_S (AM mo rs ex xd li bo cu cd) s.heap H locs → lv_has ls 3 [(0, .ref cu), (2, .int (iz k))] → (0 ≤ k ∧ k ≤ nc) → (∀ j, 0 ≤ j → j < nc → h j = 0) → (k < nc → h nc = 0) → (MoreI fc (fun j => if 0 ≤ j ∧ j < nc then 0 else fc j) nc (-1)) → k.toNat < N58 → W p l e (zrm 0) s m args below meth c H locs 0 0 (MQ below (zQ (AM mo rs ex xd li bo cu cd) (zR none (MW D cB cL mo rs ex xd li bo cu cd co bi le rt bt V (C + 10 ^ (pp - nc + 1080).toNat)))) args s 0 0 (AM mo rs ex xd li bo cu cd)) (F0 m 58 ls []) := by
    intro N58
    induction N58 with
    | zero => intro h k H locs ls hP hD hS hl hk hz hz2 hA hN58; exact absurd hN58 (Nat.not_lt_zero _)
    | succ N58 ih58 =>
      intro h k H locs ls hP hD hS hl hk hz hz2 hA hN58
      refine lv_iload_n hx hb d_Mo_more_58 rfl (lv_at hl 1 rfl) ?_
      refine z_if_le (tgt := 82) hx hb d_Mo_more_59 rfl ⟨by omega, by omega⟩ (fun hc59 => ?_) (fun hc59 => ?_)
      · refine lv_aload_n hx hb d_Mo_more_82 rfl (lv_at hl 0 rfl) ?_
        refine va_get (D := D) (ci := 4) (v := .ref cd) (C := R_4) (T := T_4) (N := 3) hx hb hts in_4 hown hK hP 6 rfl rfl 0 (by decide) (hts _ tw_382) (fun _ h9 => h9) rfl d_Mo_more_83 ?_
        refine lv_iconst (v := iz 0) hx hb d_Mo_more_86 rfl ?_
        refine lv_iconst (v := iz 1) hx hb d_Mo_more_87 rfl ?_
        refine z_bast hx hb hK hP hD hS 7 0 rfl rfl (by omega) (by omega) (by decide) ⟨by omega, by omega⟩ d_Mo_more_88 (fun H locs hP hD hS => ?_)
        have hP : va_P D vwCl [(mo, .inr (3, [.ref rs, .int (iz len), .int (iz co), .ref ex, .int (iz bi), .int (iz le), .ref li, .int (iz used), .ref bo, .int (iz bl), .ref cu])), (rs, .inl (cB, 4096, .inl (az fr))), (ex, .inr (4, [.ref xd, .int (iz ne), .int (iz pe)])), (xd, .inl (cB, 1300, .inl (az fe))), (li, .inl (cL, 160, .inr (.inl (azl lm)))), (bo, .inl (cB, 4096, .inl (az fb))), (cu, .inr (4, [.ref cd, .int (iz nc), .int (iz pp)])), (cd, .inl (cB, 1300, .inl (az (up h 0 1))))] H := hP
        have hD : va_D (AM mo rs ex xd li bo cu cd) [(mo, .inr (3, [.ref rs, .int (iz len), .int (iz co), .ref ex, .int (iz bi), .int (iz le), .ref li, .int (iz used), .ref bo, .int (iz bl), .ref cu])), (rs, .inl (cB, 4096, .inl (az fr))), (ex, .inr (4, [.ref xd, .int (iz ne), .int (iz pe)])), (xd, .inl (cB, 1300, .inl (az fe))), (li, .inl (cL, 160, .inr (.inl (azl lm)))), (bo, .inl (cB, 4096, .inl (az fb))), (cu, .inr (4, [.ref cd, .int (iz nc), .int (iz pp)])), (cd, .inl (cB, 1300, .inl (az (up h 0 1))))] := hD
        refine lv_aload_n hx hb d_Mo_more_89 rfl (lv_at hl 0 rfl) ?_
        refine lv_dup hx hb d_Mo_more_90 rfl ?_
        refine va_get (D := D) (ci := 4) (v := .int (iz nc)) (C := R_4) (T := T_4) (N := 3) hx hb hts in_4 hown hK hP 6 rfl rfl 1 (by decide) (hts _ tw_383) (fun _ h9 => h9) rfl d_Mo_more_91 ?_
        refine lv_iconst (v := iz 1) hx hb d_Mo_more_94 rfl ?_
        refine z_iadd hx hb d_Mo_more_95 ?_
        refine va_put (D := D) (ci := 4) (v := .int (iz (nc + 1))) (ty := .int) (C := R_4) (T := T_4) (N := 3) hx hb hts in_4 ty_4 tyok_4 nm_4 hown hK hP hD hS 6 rfl rfl 1 (by decide) (hts _ tw_383) (fun _ h9 => h9) rfl (by decide +kernel) rfl rfl (Nat.le_of_ble_eq_true rfl) d_Mo_more_96 (fun H locs hP hD hS => ?_)
        have hP : va_P D vwCl [(mo, .inr (3, [.ref rs, .int (iz len), .int (iz co), .ref ex, .int (iz bi), .int (iz le), .ref li, .int (iz used), .ref bo, .int (iz bl), .ref cu])), (rs, .inl (cB, 4096, .inl (az fr))), (ex, .inr (4, [.ref xd, .int (iz ne), .int (iz pe)])), (xd, .inl (cB, 1300, .inl (az fe))), (li, .inl (cL, 160, .inr (.inl (azl lm)))), (bo, .inl (cB, 4096, .inl (az fb))), (cu, .inr (4, [.ref cd, .int (iz (nc + 1)), .int (iz pp)])), (cd, .inl (cB, 1300, .inl (az (up h 0 1))))] H := hP
        have hD : va_D (AM mo rs ex xd li bo cu cd) [(mo, .inr (3, [.ref rs, .int (iz len), .int (iz co), .ref ex, .int (iz bi), .int (iz le), .ref li, .int (iz used), .ref bo, .int (iz bl), .ref cu])), (rs, .inl (cB, 4096, .inl (az fr))), (ex, .inr (4, [.ref xd, .int (iz ne), .int (iz pe)])), (xd, .inl (cB, 1300, .inl (az fe))), (li, .inl (cL, 160, .inr (.inl (azl lm)))), (bo, .inl (cB, 4096, .inl (az fb))), (cu, .inr (4, [.ref cd, .int (iz (nc + 1)), .int (iz pp)])), (cd, .inl (cB, 1300, .inl (az (up h 0 1))))] := hD
        refine lv_aload_n hx hb d_Mo_more_99 rfl (lv_at hl 0 rfl) ?_
        refine lv_dup hx hb d_Mo_more_100 rfl ?_
        refine va_get (D := D) (ci := 4) (v := .int (iz pp)) (C := R_4) (T := T_4) (N := 3) hx hb hts in_4 hown hK hP 6 rfl rfl 2 (by decide) (hts _ tw_384) (fun _ h9 => h9) rfl d_Mo_more_101 ?_
        refine lv_iconst (v := iz 1) hx hb d_Mo_more_104 rfl ?_
        refine z_iadd hx hb d_Mo_more_105 ?_
        refine va_put (D := D) (ci := 4) (v := .int (iz (pp + 1))) (ty := .int) (C := R_4) (T := T_4) (N := 3) hx hb hts in_4 ty_4 tyok_4 nm_4 hown hK hP hD hS 6 rfl rfl 2 (by decide) (hts _ tw_384) (fun _ h9 => h9) rfl (by decide +kernel) rfl rfl (Nat.le_of_ble_eq_true rfl) d_Mo_more_106 (fun H locs hP hD hS => ?_)
        have hP : va_P D vwCl [(mo, .inr (3, [.ref rs, .int (iz len), .int (iz co), .ref ex, .int (iz bi), .int (iz le), .ref li, .int (iz used), .ref bo, .int (iz bl), .ref cu])), (rs, .inl (cB, 4096, .inl (az fr))), (ex, .inr (4, [.ref xd, .int (iz ne), .int (iz pe)])), (xd, .inl (cB, 1300, .inl (az fe))), (li, .inl (cL, 160, .inr (.inl (azl lm)))), (bo, .inl (cB, 4096, .inl (az fb))), (cu, .inr (4, [.ref cd, .int (iz (nc + 1)), .int (iz (pp + 1))])), (cd, .inl (cB, 1300, .inl (az (up h 0 1))))] H := hP
        have hD : va_D (AM mo rs ex xd li bo cu cd) [(mo, .inr (3, [.ref rs, .int (iz len), .int (iz co), .ref ex, .int (iz bi), .int (iz le), .ref li, .int (iz used), .ref bo, .int (iz bl), .ref cu])), (rs, .inl (cB, 4096, .inl (az fr))), (ex, .inr (4, [.ref xd, .int (iz ne), .int (iz pe)])), (xd, .inl (cB, 1300, .inl (az fe))), (li, .inl (cL, 160, .inr (.inl (azl lm)))), (bo, .inl (cB, 4096, .inl (az fb))), (cu, .inr (4, [.ref cd, .int (iz (nc + 1)), .int (iz (pp + 1))])), (cd, .inl (cB, 1300, .inl (az (up h 0 1))))] := hD
        exact z_vret hx hb hr hlk hS (zR_st zSt_MW) ⟨rfl, _, _, _, ⟨_, _, _, _, _, _, _, _, _, ⟨hK, hP, hD⟩, hrt, hbt, hE, hpe, hlm⟩, (more_all hC hn0 hn1 hp1 hA (g := h) (fun j q1 q2 => by
              by_cases hq : j = nc
              · rw [hq]; exact hz2 (by omega)
              · exact hz j q1 (by omega)))⟩ d_Mo_more_109
      · have hz9 := hz (k - 1) (by omega) (by omega)
        refine lv_aload_n hx hb d_Mo_more_62 rfl (lv_at hl 0 rfl) ?_
        refine va_get (D := D) (ci := 4) (v := .ref cd) (C := R_4) (T := T_4) (N := 3) hx hb hts in_4 hown hK hP 6 rfl rfl 0 (by decide) (hts _ tw_382) (fun _ h9 => h9) rfl d_Mo_more_63 ?_
        refine lv_iload_n hx hb d_Mo_more_66 rfl (lv_at hl 1 rfl) ?_
        refine lv_aload_n hx hb d_Mo_more_67 rfl (lv_at hl 0 rfl) ?_
        refine va_get (D := D) (ci := 4) (v := .ref cd) (C := R_4) (T := T_4) (N := 3) hx hb hts in_4 hown hK hP 6 rfl rfl 0 (by decide) (hts _ tw_382) (fun _ h9 => h9) rfl d_Mo_more_68 ?_
        refine lv_iload_n hx hb d_Mo_more_71 rfl (lv_at hl 1 rfl) ?_
        refine lv_iconst (v := iz 1) hx hb d_Mo_more_72 rfl ?_
        refine z_isub hx hb d_Mo_more_73 ?_
        refine z_bald hx hb hK hP 7 0 rfl rfl (by omega) (by omega) (by decide) d_Mo_more_74 ?_
        refine z_bast hx hb hK hP hD hS 7 0 rfl rfl (by omega) (by omega) (by decide) ⟨by omega, by omega⟩ d_Mo_more_75 (fun H locs hP hD hS => ?_)
        have hP : va_P D vwCl [(mo, .inr (3, [.ref rs, .int (iz len), .int (iz co), .ref ex, .int (iz bi), .int (iz le), .ref li, .int (iz used), .ref bo, .int (iz bl), .ref cu])), (rs, .inl (cB, 4096, .inl (az fr))), (ex, .inr (4, [.ref xd, .int (iz ne), .int (iz pe)])), (xd, .inl (cB, 1300, .inl (az fe))), (li, .inl (cL, 160, .inr (.inl (azl lm)))), (bo, .inl (cB, 4096, .inl (az fb))), (cu, .inr (4, [.ref cd, .int (iz nc), .int (iz pp)])), (cd, .inl (cB, 1300, .inl (az (up h k (h (k - 1))))))] H := hP
        have hD : va_D (AM mo rs ex xd li bo cu cd) [(mo, .inr (3, [.ref rs, .int (iz len), .int (iz co), .ref ex, .int (iz bi), .int (iz le), .ref li, .int (iz used), .ref bo, .int (iz bl), .ref cu])), (rs, .inl (cB, 4096, .inl (az fr))), (ex, .inr (4, [.ref xd, .int (iz ne), .int (iz pe)])), (xd, .inl (cB, 1300, .inl (az fe))), (li, .inl (cL, 160, .inr (.inl (azl lm)))), (bo, .inl (cB, 4096, .inl (az fb))), (cu, .inr (4, [.ref cd, .int (iz nc), .int (iz pp)])), (cd, .inl (cB, 1300, .inl (az (up h k (h (k - 1))))))] := hD
        refine lv_iinc (k := 1) (v := (iz (k - 1))) hx hb d_Mo_more_76 hl rfl (by show iz _ + iz (-1) = _; rw [← iz_add]; try rfl) (by decide) rfl (fun ls hl => ?_)
        have hl : lv_has ls 3 [(2, .int (iz (k - 1))), (0, .ref cu)] := hl
        refine lv_goto (tgt := 58) hx hb d_Mo_more_79 rfl ?_
        exact ih58 (up h k (h (k - 1))) (k - 1) _ _ _ hP hD hS (lv_sub hl [1, 0] rfl) ⟨by omega, by omega⟩ (fun j q1 q2 => by
              by_cases hq : j = k
              · rw [hq, up_s]; exact hz (k - 1) (by omega) (by omega)
              · rw [up_n _ _ hq]; exact hz j q1 q2) (fun q => by
              by_cases hq : nc = k
              · rw [hq, up_s]; exact hz (k - 1) (by omega) (by omega)
              · rw [up_n _ _ hq]; exact hz2 (by omega)) hA (by omega)
  have L7 : ∀ (N7 : Nat) (h : Int → Int) (i : Int) (H : Heap) (locs : List Loc) (ls : Array Slot), va_P D vwCl [(mo, .inr (3, [.ref rs, .int (iz len), .int (iz co), .ref ex, .int (iz bi), .int (iz le), .ref li, .int (iz used), .ref bo, .int (iz bl), .ref cu])), (rs, .inl (cB, 4096, .inl (az fr))), (ex, .inr (4, [.ref xd, .int (iz ne), .int (iz pe)])), (xd, .inl (cB, 1300, .inl (az fe))), (li, .inl (cL, 160, .inr (.inl (azl lm)))), (bo, .inl (cB, 4096, .inl (az fb))), (cu, .inr (4, [.ref cd, .int (iz nc), .int (iz pp)])), (cd, .inl (cB, 1300, .inl (az h)))] H → va_D (AM mo rs ex xd li bo cu cd) [(mo, .inr (3, [.ref rs, .int (iz len), .int (iz co), .ref ex, .int (iz bi), .int (iz le), .ref li, .int (iz used), .ref bo, .int (iz bl), .ref cu])), (rs, .inl (cB, 4096, .inl (az fr))), (ex, .inr (4, [.ref xd, .int (iz ne), .int (iz pe)])), (xd, .inl (cB, 1300, .inl (az fe))), (li, .inl (cL, 160, .inr (.inl (azl lm)))), (bo, .inl (cB, 4096, .inl (az fb))), (cu, .inr (4, [.ref cd, .int (iz nc), .int (iz pp)])), (cd, .inl (cB, 1300, .inl (az h)))] → va_S (AM mo rs ex xd li bo cu cd) s.heap H locs → lv_has ls 3 [(0, .ref cu), (1, .int (iz i))] → (MoreI fc h nc i) → (i + 1).toNat < N7 → W p l e (zrm 0) s m args below meth c H locs 0 0 (MQ below (zQ (AM mo rs ex xd li bo cu cd) (zR none (MW D cB cL mo rs ex xd li bo cu cd co bi le rt bt V (C + 10 ^ (pp - nc + 1080).toNat)))) args s 0 0 (AM mo rs ex xd li bo cu cd)) (F0 m 7 ls []) := by
    intro N7
    induction N7 with
    | zero => intro h i H locs ls hP hD hS hl hM hN7; exact absurd hN7 (Nat.not_lt_zero _)
    | succ N7 ih7 =>
      intro h i H locs ls hP hD hS hl hM hN7
      have hM1 := hM.1
      refine lv_iload_n hx hb d_Mo_more_7 rfl (lv_at hl 1 rfl) ?_
      refine z_if_lt (tgt := 35) hx hb d_Mo_more_8 rfl ⟨by omega, by omega⟩ (fun hc8 => ?_) (fun hc8 => ?_)
      · refine lv_iload_n hx hb d_Mo_more_35 rfl (lv_at hl 1 rfl) ?_
        refine z_if_lt (tgt := 53) hx hb d_Mo_more_36 rfl ⟨by omega, by omega⟩ (fun hc36 => ?_) (fun hc36 => ?_)
        · refine lv_aload_n hx hb d_Mo_more_53 rfl (lv_at hl 0 rfl) ?_
          refine va_get (D := D) (ci := 4) (v := .int (iz nc)) (C := R_4) (T := T_4) (N := 3) hx hb hts in_4 hown hK hP 6 rfl rfl 1 (by decide) (hts _ tw_383) (fun _ h9 => h9) rfl d_Mo_more_54 ?_
          refine lv_istore_n hx hb d_Mo_more_57 rfl hl (by decide) rfl (fun ls hl => ?_)
          have hl : lv_has ls 3 [(2, .int (iz nc)), (0, .ref cu), (1, .int (iz i))] := hl
          exact L58 _ h nc _ _ _ hP hD hS (lv_sub hl [1, 0] rfl) ⟨by omega, by omega⟩ (fun j q1 q2 => (hM.2.2 j (by omega) q2).1) (fun q => absurd q (by omega)) (more_A hM (by omega)) (Nat.lt_succ_self _)
        · exfalso
          omega
      · have hfi := hC.2.1 i (by omega) (by omega)
        have hhi := hM.2.1 i (Int.le_refl _)
        refine lv_aload_n hx hb d_Mo_more_11 rfl (lv_at hl 0 rfl) ?_
        refine va_get (D := D) (ci := 4) (v := .ref cd) (C := R_4) (T := T_4) (N := 3) hx hb hts in_4 hown hK hP 6 rfl rfl 0 (by decide) (hts _ tw_382) (fun _ h9 => h9) rfl d_Mo_more_12 ?_
        refine lv_iload_n hx hb d_Mo_more_15 rfl (lv_at hl 1 rfl) ?_
        refine z_bald hx hb hK hP 7 0 rfl rfl (by omega) (by omega) (by decide) d_Mo_more_16 ?_
        refine lv_bipush (v := iz 9) hx hb d_Mo_more_17 (by decide) ?_
        refine z_icmp_ne (tgt := 35) hx hb d_Mo_more_19 rfl ⟨by omega, by omega⟩ ⟨by omega, by omega⟩ (fun hc19 => ?_) (fun hc19 => ?_)
        · refine lv_iload_n hx hb d_Mo_more_35 rfl (lv_at hl 1 rfl) ?_
          refine z_if_lt (tgt := 53) hx hb d_Mo_more_36 rfl ⟨by omega, by omega⟩ (fun hc36 => ?_) (fun hc36 => ?_)
          · exfalso
            omega
          · refine lv_aload_n hx hb d_Mo_more_39 rfl (lv_at hl 0 rfl) ?_
            refine va_get (D := D) (ci := 4) (v := .ref cd) (C := R_4) (T := T_4) (N := 3) hx hb hts in_4 hown hK hP 6 rfl rfl 0 (by decide) (hts _ tw_382) (fun _ h9 => h9) rfl d_Mo_more_40 ?_
            refine lv_iload_n hx hb d_Mo_more_43 rfl (lv_at hl 1 rfl) ?_
            refine lv_dup2_11 hx hb d_Mo_more_44 rfl rfl ?_
            refine z_bald hx hb hK hP 7 0 rfl rfl (by omega) (by omega) (by decide) d_Mo_more_45 ?_
            refine lv_iconst (v := iz 1) hx hb d_Mo_more_46 rfl ?_
            refine z_iadd hx hb d_Mo_more_47 ?_
            refine z_i2b hx hb d_Mo_more_48 ⟨by omega, by omega⟩ ?_
            refine z_bast hx hb hK hP hD hS 7 0 rfl rfl (by omega) (by omega) (by decide) ⟨by omega, by omega⟩ d_Mo_more_49 (fun H locs hP hD hS => ?_)
            have hP : va_P D vwCl [(mo, .inr (3, [.ref rs, .int (iz len), .int (iz co), .ref ex, .int (iz bi), .int (iz le), .ref li, .int (iz used), .ref bo, .int (iz bl), .ref cu])), (rs, .inl (cB, 4096, .inl (az fr))), (ex, .inr (4, [.ref xd, .int (iz ne), .int (iz pe)])), (xd, .inl (cB, 1300, .inl (az fe))), (li, .inl (cL, 160, .inr (.inl (azl lm)))), (bo, .inl (cB, 4096, .inl (az fb))), (cu, .inr (4, [.ref cd, .int (iz nc), .int (iz pp)])), (cd, .inl (cB, 1300, .inl (az (up h i ((h i) + 1)))))] H := hP
            have hD : va_D (AM mo rs ex xd li bo cu cd) [(mo, .inr (3, [.ref rs, .int (iz len), .int (iz co), .ref ex, .int (iz bi), .int (iz le), .ref li, .int (iz used), .ref bo, .int (iz bl), .ref cu])), (rs, .inl (cB, 4096, .inl (az fr))), (ex, .inr (4, [.ref xd, .int (iz ne), .int (iz pe)])), (xd, .inl (cB, 1300, .inl (az fe))), (li, .inl (cL, 160, .inr (.inl (azl lm)))), (bo, .inl (cB, 4096, .inl (az fb))), (cu, .inr (4, [.ref cd, .int (iz nc), .int (iz pp)])), (cd, .inl (cB, 1300, .inl (az (up h i ((h i) + 1)))))] := hD
            refine lv_goto (tgt := 109) hx hb d_Mo_more_50 rfl ?_
            exact z_vret hx hb hr hlk hS (zR_st zSt_MW) ⟨rfl, _, _, _, ⟨_, _, _, _, _, _, _, _, _, ⟨hK, hP, hD⟩, hrt, hbt, hE, hpe, hlm⟩, (more_inc hC hM (by omega) hc19)⟩ d_Mo_more_109
        · refine lv_aload_n hx hb d_Mo_more_22 rfl (lv_at hl 0 rfl) ?_
          refine va_get (D := D) (ci := 4) (v := .ref cd) (C := R_4) (T := T_4) (N := 3) hx hb hts in_4 hown hK hP 6 rfl rfl 0 (by decide) (hts _ tw_382) (fun _ h9 => h9) rfl d_Mo_more_23 ?_
          refine lv_iload_n hx hb d_Mo_more_26 rfl (lv_at hl 1 rfl) ?_
          refine lv_iconst (v := iz 0) hx hb d_Mo_more_27 rfl ?_
          refine z_bast hx hb hK hP hD hS 7 0 rfl rfl (by omega) (by omega) (by decide) ⟨by omega, by omega⟩ d_Mo_more_28 (fun H locs hP hD hS => ?_)
          have hP : va_P D vwCl [(mo, .inr (3, [.ref rs, .int (iz len), .int (iz co), .ref ex, .int (iz bi), .int (iz le), .ref li, .int (iz used), .ref bo, .int (iz bl), .ref cu])), (rs, .inl (cB, 4096, .inl (az fr))), (ex, .inr (4, [.ref xd, .int (iz ne), .int (iz pe)])), (xd, .inl (cB, 1300, .inl (az fe))), (li, .inl (cL, 160, .inr (.inl (azl lm)))), (bo, .inl (cB, 4096, .inl (az fb))), (cu, .inr (4, [.ref cd, .int (iz nc), .int (iz pp)])), (cd, .inl (cB, 1300, .inl (az (up h i 0))))] H := hP
          have hD : va_D (AM mo rs ex xd li bo cu cd) [(mo, .inr (3, [.ref rs, .int (iz len), .int (iz co), .ref ex, .int (iz bi), .int (iz le), .ref li, .int (iz used), .ref bo, .int (iz bl), .ref cu])), (rs, .inl (cB, 4096, .inl (az fr))), (ex, .inr (4, [.ref xd, .int (iz ne), .int (iz pe)])), (xd, .inl (cB, 1300, .inl (az fe))), (li, .inl (cL, 160, .inr (.inl (azl lm)))), (bo, .inl (cB, 4096, .inl (az fb))), (cu, .inr (4, [.ref cd, .int (iz nc), .int (iz pp)])), (cd, .inl (cB, 1300, .inl (az (up h i 0))))] := hD
          refine lv_iinc (k := 1) (v := (iz (i - 1))) hx hb d_Mo_more_29 hl rfl (by show iz _ + iz (-1) = _; rw [← iz_add]; try rfl) (by decide) rfl (fun ls hl => ?_)
          have hl : lv_has ls 3 [(1, .int (iz (i - 1))), (0, .ref cu)] := hl
          refine lv_goto (tgt := 7) hx hb d_Mo_more_32 rfl ?_
          exact ih7 (up h i 0) (i - 1) _ _ _ hP hD hS (lv_sub hl [1, 0] rfl) (hM.step (by omega) hc19) (by omega)
  refine lv_aload_n hx hb d_Mo_more_0 rfl (lv_at hl 0 rfl) ?_
  refine va_get (D := D) (ci := 4) (v := .int (iz nc)) (C := R_4) (T := T_4) (N := 3) hx hb hts in_4 hown hK hP 6 rfl rfl 1 (by decide) (hts _ tw_383) (fun _ h9 => h9) rfl d_Mo_more_1 ?_
  refine lv_iconst (v := iz 1) hx hb d_Mo_more_4 rfl ?_
  refine z_isub hx hb d_Mo_more_5 ?_
  refine lv_istore_n hx hb d_Mo_more_6 rfl hl (by decide) rfl (fun ls hl => ?_)
  have hl : lv_has ls 3 [(1, .int (iz (nc - 1))), (0, .ref cu)] := hl
  exact L7 _ fc (nc - 1) _ _ _ hP hD hS (lv_sub hl [1, 0] rfl) (MoreI.start fc hn0) (Nat.lt_succ_self _)
end
section
theorem d_Mo_round_0 : decode b_Mo_rounded 0 = .ok (.iload_n 2, 1) := by decide +kernel
theorem d_Mo_round_1 : decode b_Mo_rounded 1 = .ok (.aload_n 1, 1) := by decide +kernel
theorem d_Mo_round_2 : decode b_Mo_rounded 2 = .ok (.getfield 79, 3) := by decide +kernel
theorem d_Mo_round_5 : decode b_Mo_rounded 5 = .ok (.if_icmp .ge (7), 3) := by decide +kernel
theorem d_Mo_round_8 : decode b_Mo_rounded 8 = .ok (.iload_n 2, 1) := by decide +kernel
theorem d_Mo_round_9 : decode b_Mo_rounded 9 = .ok (.goto (7), 3) := by decide +kernel
theorem d_Mo_round_12 : decode b_Mo_rounded 12 = .ok (.aload_n 1, 1) := by decide +kernel
theorem d_Mo_round_13 : decode b_Mo_rounded 13 = .ok (.getfield 79, 3) := by decide +kernel
theorem d_Mo_round_16 : decode b_Mo_rounded 16 = .ok (.istore_n 3, 1) := by decide +kernel
theorem d_Mo_round_17 : decode b_Mo_rounded 17 = .ok (.aload_n 0, 1) := by decide +kernel
theorem d_Mo_round_18 : decode b_Mo_rounded 18 = .ok (.getfield 27, 3) := by decide +kernel
theorem d_Mo_round_21 : decode b_Mo_rounded 21 = .ok (.aload_n 1, 1) := by decide +kernel
theorem d_Mo_round_22 : decode b_Mo_rounded 22 = .ok (.getfield 89, 3) := by decide +kernel
theorem d_Mo_round_25 : decode b_Mo_rounded 25 = .ok (.putfield 89, 3) := by decide +kernel
theorem d_Mo_round_28 : decode b_Mo_rounded 28 = .ok (.aload_n 0, 1) := by decide +kernel
theorem d_Mo_round_29 : decode b_Mo_rounded 29 = .ok (.getfield 27, 3) := by decide +kernel
theorem d_Mo_round_32 : decode b_Mo_rounded 32 = .ok (.iload_n 3, 1) := by decide +kernel
theorem d_Mo_round_33 : decode b_Mo_rounded 33 = .ok (.ifCond .ge (7), 3) := by decide +kernel
theorem d_Mo_round_36 : decode b_Mo_rounded 36 = .ok (.iconst 0, 1) := by decide +kernel
theorem d_Mo_round_37 : decode b_Mo_rounded 37 = .ok (.goto (4), 3) := by decide +kernel
theorem d_Mo_round_40 : decode b_Mo_rounded 40 = .ok (.iload_n 3, 1) := by decide +kernel
theorem d_Mo_round_41 : decode b_Mo_rounded 41 = .ok (.putfield 79, 3) := by decide +kernel
theorem d_Mo_round_44 : decode b_Mo_rounded 44 = .ok (.iconst 0, 1) := by decide +kernel
theorem d_Mo_round_45 : decode b_Mo_rounded 45 = .ok (.istore 4, 2) := by decide +kernel
theorem d_Mo_round_47 : decode b_Mo_rounded 47 = .ok (.iload 4, 2) := by decide +kernel
theorem d_Mo_round_49 : decode b_Mo_rounded 49 = .ok (.iload_n 3, 1) := by decide +kernel
theorem d_Mo_round_50 : decode b_Mo_rounded 50 = .ok (.if_icmp .ge (39), 3) := by decide +kernel
theorem d_Mo_round_53 : decode b_Mo_rounded 53 = .ok (.aload_n 0, 1) := by decide +kernel
theorem d_Mo_round_54 : decode b_Mo_rounded 54 = .ok (.getfield 27, 3) := by decide +kernel
theorem d_Mo_round_57 : decode b_Mo_rounded 57 = .ok (.getfield 86, 3) := by decide +kernel
theorem d_Mo_round_60 : decode b_Mo_rounded 60 = .ok (.iload 4, 2) := by decide +kernel
theorem d_Mo_round_62 : decode b_Mo_rounded 62 = .ok (.iload 4, 2) := by decide +kernel
theorem d_Mo_round_64 : decode b_Mo_rounded 64 = .ok (.aload_n 1, 1) := by decide +kernel
theorem d_Mo_round_65 : decode b_Mo_rounded 65 = .ok (.getfield 79, 3) := by decide +kernel
theorem d_Mo_round_68 : decode b_Mo_rounded 68 = .ok (.if_icmp .ge (13), 3) := by decide +kernel
theorem d_Mo_round_71 : decode b_Mo_rounded 71 = .ok (.aload_n 1, 1) := by decide +kernel
theorem d_Mo_round_72 : decode b_Mo_rounded 72 = .ok (.getfield 86, 3) := by decide +kernel
theorem d_Mo_round_75 : decode b_Mo_rounded 75 = .ok (.iload 4, 2) := by decide +kernel
theorem d_Mo_round_77 : decode b_Mo_rounded 77 = .ok (.baload, 1) := by decide +kernel
theorem d_Mo_round_78 : decode b_Mo_rounded 78 = .ok (.goto (4), 3) := by decide +kernel
theorem d_Mo_round_82 : decode b_Mo_rounded 82 = .ok (.bastore, 1) := by decide +kernel
theorem d_Mo_round_83 : decode b_Mo_rounded 83 = .ok (.iinc 4 (1), 3) := by decide +kernel
theorem d_Mo_round_86 : decode b_Mo_rounded 86 = .ok (.goto (-39), 3) := by decide +kernel
theorem d_Mo_round_89 : decode b_Mo_rounded 89 = .ok (.iload_n 3, 1) := by decide +kernel
theorem d_Mo_round_90 : decode b_Mo_rounded 90 = .ok (.ifCond .lt (66), 3) := by decide +kernel
theorem d_Mo_round_93 : decode b_Mo_rounded 93 = .ok (.iload_n 3, 1) := by decide +kernel
theorem d_Mo_round_94 : decode b_Mo_rounded 94 = .ok (.aload_n 1, 1) := by decide +kernel
theorem d_Mo_round_95 : decode b_Mo_rounded 95 = .ok (.getfield 79, 3) := by decide +kernel
theorem d_Mo_round_98 : decode b_Mo_rounded 98 = .ok (.if_icmp .ge (58), 3) := by decide +kernel
theorem d_Mo_round_101 : decode b_Mo_rounded 101 = .ok (.aload_n 1, 1) := by decide +kernel
theorem d_Mo_round_102 : decode b_Mo_rounded 102 = .ok (.getfield 86, 3) := by decide +kernel
theorem d_Mo_round_105 : decode b_Mo_rounded 105 = .ok (.iload_n 3, 1) := by decide +kernel
theorem d_Mo_round_106 : decode b_Mo_rounded 106 = .ok (.baload, 1) := by decide +kernel
theorem d_Mo_round_107 : decode b_Mo_rounded 107 = .ok (.iconst 5, 1) := by decide +kernel
theorem d_Mo_round_108 : decode b_Mo_rounded 108 = .ok (.if_icmp .lt (48), 3) := by decide +kernel
theorem d_Mo_round_111 : decode b_Mo_rounded 111 = .ok (.iload_n 3, 1) := by decide +kernel
theorem d_Mo_round_112 : decode b_Mo_rounded 112 = .ok (.ifCond .ne (37), 3) := by decide +kernel
theorem d_Mo_round_115 : decode b_Mo_rounded 115 = .ok (.aload_n 0, 1) := by decide +kernel
theorem d_Mo_round_116 : decode b_Mo_rounded 116 = .ok (.getfield 27, 3) := by decide +kernel
theorem d_Mo_round_119 : decode b_Mo_rounded 119 = .ok (.getfield 86, 3) := by decide +kernel
theorem d_Mo_round_122 : decode b_Mo_rounded 122 = .ok (.iconst 0, 1) := by decide +kernel
theorem d_Mo_round_123 : decode b_Mo_rounded 123 = .ok (.iconst 1, 1) := by decide +kernel
theorem d_Mo_round_124 : decode b_Mo_rounded 124 = .ok (.bastore, 1) := by decide +kernel
theorem d_Mo_round_125 : decode b_Mo_rounded 125 = .ok (.aload_n 0, 1) := by decide +kernel
theorem d_Mo_round_126 : decode b_Mo_rounded 126 = .ok (.getfield 27, 3) := by decide +kernel
theorem d_Mo_round_129 : decode b_Mo_rounded 129 = .ok (.iconst 1, 1) := by decide +kernel
theorem d_Mo_round_130 : decode b_Mo_rounded 130 = .ok (.putfield 79, 3) := by decide +kernel
theorem d_Mo_round_133 : decode b_Mo_rounded 133 = .ok (.aload_n 0, 1) := by decide +kernel
theorem d_Mo_round_134 : decode b_Mo_rounded 134 = .ok (.getfield 27, 3) := by decide +kernel
theorem d_Mo_round_137 : decode b_Mo_rounded 137 = .ok (.aload_n 1, 1) := by decide +kernel
theorem d_Mo_round_138 : decode b_Mo_rounded 138 = .ok (.getfield 89, 3) := by decide +kernel
theorem d_Mo_round_141 : decode b_Mo_rounded 141 = .ok (.iconst 1, 1) := by decide +kernel
theorem d_Mo_round_142 : decode b_Mo_rounded 142 = .ok (.iadd, 1) := by decide +kernel
theorem d_Mo_round_143 : decode b_Mo_rounded 143 = .ok (.putfield 89, 3) := by decide +kernel
theorem d_Mo_round_146 : decode b_Mo_rounded 146 = .ok (.goto (10), 3) := by decide +kernel
theorem d_Mo_round_149 : decode b_Mo_rounded 149 = .ok (.aload_n 0, 1) := by decide +kernel
theorem d_Mo_round_150 : decode b_Mo_rounded 150 = .ok (.getfield 27, 3) := by decide +kernel
theorem d_Mo_round_153 : decode b_Mo_rounded 153 = .ok (.invokestatic 95, 3) := by decide +kernel
theorem d_Mo_round_156 : decode b_Mo_rounded 156 = .ok (.return_, 1) := by decide +kernel
set_option maxHeartbeats 4000000 in
set_option maxRecDepth 100000 in
theorem c_Mo_round (l : Launch) (D : va_G) (cB cL : ClassId) (mo rs ex xd li bo cu cd : Nat) (co bi le : Int) (rt bt : List Int) (V C : Int) (mx : Int) (hmx : -100000 ≤ mx ∧ mx ≤ 100000) : Ct l y_Mo_rounded (ws_Mo_rounded) 1 (AM mo rs ex xd li bo cu cd) [.ref mo, .ref ex, .int (iz mx)] (MW D cB cL mo rs ex xd li bo cu cd co bi le rt bt V C) (zR none (MW D cB cL mo rs ex xd li bo cu cd co bi le rt bt V (rnd V (lead V + 1 - mx)))) := by
  refine z_body zSt_MW (by decide +kernel) rfl (Nat.le_of_ble_eq_true rfl) ?_
  intro p e s m args below meth c ls hx hb hml hr hlk hts0 hown hpre0 H locs hpre hS hl
  have hts : ∀ w ∈ TBL, w.before args s = true := fun w hw => hts0 w (List.mem_cons_of_mem _ hw)
  have hl : lv_has ls 5 [(0, .ref mo), (1, .ref ex), (2, .int (iz mx))] := hl
  have hw := hpre
  have hw9 := hw
  obtain ⟨fc, nc, pp, ⟨len, used, bl, fr, fb, lm, fe, ne, pe, ⟨hK, hP, hD⟩, hrt, hbt, hE, hpe, hlm⟩, hC⟩ := hw9
  have hr1 := hrt.1
  have hr2 := hrt.2.1
  have hb1 := hbt.1
  have hb2 := hbt.2.1
  have hE1 := hE.1
  have hC1 := hC.1
  have L47 : ∀ (N47 : Nat) (n : Int) (h : Int → Int) (i : Int) (H : Heap) (locs : List Loc) (ls : Array Slot), va_P D vwCl [(mo, .inr (3, [.ref rs, .int (iz len), .int (iz co), .ref ex, .int (iz bi), .int (iz le), .ref li, .int (iz used), .ref bo, .int (iz bl), .ref cu])), (rs, .inl (cB, 4096, .inl (az fr))), (ex, .inr (4, [.ref xd, .int (iz ne), .int (iz pe)])), (xd, .inl (cB, 1300, .inl (az fe))), (li, .inl (cL, 160, .inr (.inl (azl lm)))), (bo, .inl (cB, 4096, .inl (az fb))), (cu, .inr (4, [.ref cd, .int (iz (max n 0)), .int (iz pe)])), (cd, .inl (cB, 1300, .inl (az h)))] H → va_D (AM mo rs ex xd li bo cu cd) [(mo, .inr (3, [.ref rs, .int (iz len), .int (iz co), .ref ex, .int (iz bi), .int (iz le), .ref li, .int (iz used), .ref bo, .int (iz bl), .ref cu])), (rs, .inl (cB, 4096, .inl (az fr))), (ex, .inr (4, [.ref xd, .int (iz ne), .int (iz pe)])), (xd, .inl (cB, 1300, .inl (az fe))), (li, .inl (cL, 160, .inr (.inl (azl lm)))), (bo, .inl (cB, 4096, .inl (az fb))), (cu, .inr (4, [.ref cd, .int (iz (max n 0)), .int (iz pe)])), (cd, .inl (cB, 1300, .inl (az h)))] → va_S (AM mo rs ex xd li bo cu cd) s.heap H locs → lv_has ls 5 [(0, .ref mo), (1, .ref ex), (2, .int (iz mx)), (3, .int (iz n)), (4, .int (iz i))] → (n = min mx ne) → (0 ≤ i ∧ (i ≤ n ∨ i = 0)) → (∀ j, 0 ≤ j → j < i → h j = fe j) → (n - i).toNat < N47 → W p l e (zrm 1) s m args below meth c H locs 0 0 (MQ below (zQ (AM mo rs ex xd li bo cu cd) (zR none (MW D cB cL mo rs ex xd li bo cu cd co bi le rt bt V (rnd V (lead V + 1 - mx))))) args s 0 0 (AM mo rs ex xd li bo cu cd)) (F0 m 47 ls []) := by
    intro N47
    induction N47 with
    | zero => intro n h i H locs ls hP hD hS hl hn hi hh hN47; exact absurd hN47 (Nat.not_lt_zero _)
    | succ N47 ih47 =>
      intro n h i H locs ls hP hD hS hl hn hi hh hN47
      refine lv_iload hx hb d_Mo_round_47 (lv_at hl 4 rfl) ?_
      refine lv_iload_n hx hb d_Mo_round_49 rfl (lv_at hl 3 rfl) ?_
      refine z_icmp_ge (tgt := 89) hx hb d_Mo_round_50 rfl ⟨by omega, by omega⟩ ⟨by omega, by omega⟩ (fun hc50 => ?_) (fun hc50 => ?_)
      · refine lv_iload_n hx hb d_Mo_round_89 rfl (lv_at hl 3 rfl) ?_
        refine z_if_lt (tgt := 156) hx hb d_Mo_round_90 rfl ⟨by omega, by omega⟩ (fun hc90 => ?_) (fun hc90 => ?_)
        · have hc9 : RowOK h (max n 0) pe (rnd V (lead V + 1 - mx)) := by
            rw [show max n 0 = 0 by omega, cut_neg hE (by omega)]
            exact row_none ⟨by omega, by omega⟩
          exact z_vret hx hb hr hlk hS (zR_st zSt_MW) ⟨rfl, _, _, _, ⟨_, _, _, _, _, _, _, _, _, ⟨hK, hP, hD⟩, hrt, hbt, hE, hpe, hlm⟩, hc9⟩ d_Mo_round_156
        · refine lv_iload_n hx hb d_Mo_round_93 rfl (lv_at hl 3 rfl) ?_
          refine lv_aload_n hx hb d_Mo_round_94 rfl (lv_at hl 1 rfl) ?_
          refine va_get (D := D) (ci := 4) (v := .int (iz ne)) (C := R_4) (T := T_4) (N := 3) hx hb hts in_4 hown hK hP 2 rfl rfl 1 (by decide) (hts _ tw_383) (fun _ h9 => h9) rfl d_Mo_round_95 ?_
          refine z_icmp_ge (tgt := 156) hx hb d_Mo_round_98 rfl ⟨by omega, by omega⟩ ⟨by omega, by omega⟩ (fun hc98 => ?_) (fun hc98 => ?_)
          · have hc9 : RowOK h (max n 0) pe (rnd V (lead V + 1 - mx)) := by
              rw [show max n 0 = ne by omega, cut_all hE (by omega)]
              exact row_same hE (fun j q1 q2 => hh j q1 (by omega))
            exact z_vret hx hb hr hlk hS (zR_st zSt_MW) ⟨rfl, _, _, _, ⟨_, _, _, _, _, _, _, _, _, ⟨hK, hP, hD⟩, hrt, hbt, hE, hpe, hlm⟩, hc9⟩ d_Mo_round_156
          · have hfn := hE.2.1 n (by omega) (by omega)
            have h3n := hE.2.2.1 (by omega)
            refine lv_aload_n hx hb d_Mo_round_101 rfl (lv_at hl 1 rfl) ?_
            refine va_get (D := D) (ci := 4) (v := .ref xd) (C := R_4) (T := T_4) (N := 3) hx hb hts in_4 hown hK hP 2 rfl rfl 0 (by decide) (hts _ tw_382) (fun _ h9 => h9) rfl d_Mo_round_102 ?_
            refine lv_iload_n hx hb d_Mo_round_105 rfl (lv_at hl 3 rfl) ?_
            refine z_bald hx hb hK hP 3 0 rfl rfl (by omega) (by omega) (by decide) d_Mo_round_106 ?_
            refine lv_iconst (v := iz 5) hx hb d_Mo_round_107 rfl ?_
            refine z_icmp_lt (tgt := 156) hx hb d_Mo_round_108 rfl ⟨by omega, by omega⟩ ⟨by omega, by omega⟩ (fun hc108 => ?_) (fun hc108 => ?_)
            · have hc9 : RowOK h (max n 0) pe (rnd V (lead V + 1 - mx)) := by
                rw [show max n 0 = n by omega, show mx = n by omega, cut_at hE (by omega) (by omega), if_neg (by omega), Int.add_zero]
                exact row_cut hE (by omega) (by omega) (fun j q1 q2 => hh j q1 (by omega))
              exact z_vret hx hb hr hlk hS (zR_st zSt_MW) ⟨rfl, _, _, _, ⟨_, _, _, _, _, _, _, _, _, ⟨hK, hP, hD⟩, hrt, hbt, hE, hpe, hlm⟩, hc9⟩ d_Mo_round_156
            · refine lv_iload_n hx hb d_Mo_round_111 rfl (lv_at hl 3 rfl) ?_
              refine z_if_ne (tgt := 149) hx hb d_Mo_round_112 rfl ⟨by omega, by omega⟩ (fun hc112 => ?_) (fun hc112 => ?_)
              · refine lv_aload_n hx hb d_Mo_round_149 rfl (lv_at hl 0 rfl) ?_
                refine va_get (D := D) (ci := 3) (v := .ref cu) (C := R_3) (T := T_3) (N := 11) hx hb hts in_3 hown hK hP 0 rfl rfl 10 (by decide) (hts _ tw_402) (fun _ h9 => h9) rfl d_Mo_round_150 ?_
                have hc8 := row_cut hE (k := n) (by omega) (by omega) (h := h) (fun j q1 q2 => hh j q1 (by omega))
                rw [show max n 0 = n by omega] at hP hD
                have hw : MWc D cB cL mo rs ex xd li bo cu cd co bi le rt bt V h n pe s H := ⟨_, _, _, _, _, _, _, _, _, ⟨hK, hP, hD⟩, hrt, hbt, hE, hpe, hlm⟩
                have hct := c_Mo_more l D cB cL mo rs ex xd li bo cu cd co bi le rt bt V _ h n pe hc8 (by omega) (by omega) (by omega)
                refine z_go (va_runS (As := [.ref cu]) (rest := []) ⟨hx, hb, hml, hown, hts⟩ hct.2 (z_cwS hts w_Mo_more tw_512 (by decide)) (z_preS hct.1 hw) rfl rfl hl.1 rfl (lv_room (Nat.le_of_ble_eq_true rfl)) d_Mo_round_153 ⟨Nat.zero_le _, Nat.zero_le _⟩) hS (fun _ h9 => h9) (fun v9 t9 H locs hv9 hp9 hz9 hk9 hS => ?_)
                obtain ⟨rfl, hw⟩ := hp9
                have hw := MW.moved hv9.symm hw
                refine W.eq (g2 := F0 m 156 ls []) rfl ?_
                exact z_vret hx hb hr hlk hS (zR_st zSt_MW) ⟨rfl, by
                    rw [show mx = n by omega, cut_at hE (by omega) (by omega), if_pos (by omega)]
                    exact hw⟩ d_Mo_round_156
              · refine lv_aload_n hx hb d_Mo_round_115 rfl (lv_at hl 0 rfl) ?_
                refine va_get (D := D) (ci := 3) (v := .ref cu) (C := R_3) (T := T_3) (N := 11) hx hb hts in_3 hown hK hP 0 rfl rfl 10 (by decide) (hts _ tw_402) (fun _ h9 => h9) rfl d_Mo_round_116 ?_
                refine va_get (D := D) (ci := 4) (v := .ref cd) (C := R_4) (T := T_4) (N := 3) hx hb hts in_4 hown hK hP 6 rfl rfl 0 (by decide) (hts _ tw_382) (fun _ h9 => h9) rfl d_Mo_round_119 ?_
                refine lv_iconst (v := iz 0) hx hb d_Mo_round_122 rfl ?_
                refine lv_iconst (v := iz 1) hx hb d_Mo_round_123 rfl ?_
                refine z_bast hx hb hK hP hD hS 7 0 rfl rfl (by omega) (by omega) (by decide) ⟨by omega, by omega⟩ d_Mo_round_124 (fun H locs hP hD hS => ?_)
                have hP : va_P D vwCl [(mo, .inr (3, [.ref rs, .int (iz len), .int (iz co), .ref ex, .int (iz bi), .int (iz le), .ref li, .int (iz used), .ref bo, .int (iz bl), .ref cu])), (rs, .inl (cB, 4096, .inl (az fr))), (ex, .inr (4, [.ref xd, .int (iz ne), .int (iz pe)])), (xd, .inl (cB, 1300, .inl (az fe))), (li, .inl (cL, 160, .inr (.inl (azl lm)))), (bo, .inl (cB, 4096, .inl (az fb))), (cu, .inr (4, [.ref cd, .int (iz (max n 0)), .int (iz pe)])), (cd, .inl (cB, 1300, .inl (az (up h 0 1))))] H := hP
                have hD : va_D (AM mo rs ex xd li bo cu cd) [(mo, .inr (3, [.ref rs, .int (iz len), .int (iz co), .ref ex, .int (iz bi), .int (iz le), .ref li, .int (iz used), .ref bo, .int (iz bl), .ref cu])), (rs, .inl (cB, 4096, .inl (az fr))), (ex, .inr (4, [.ref xd, .int (iz ne), .int (iz pe)])), (xd, .inl (cB, 1300, .inl (az fe))), (li, .inl (cL, 160, .inr (.inl (azl lm)))), (bo, .inl (cB, 4096, .inl (az fb))), (cu, .inr (4, [.ref cd, .int (iz (max n 0)), .int (iz pe)])), (cd, .inl (cB, 1300, .inl (az (up h 0 1))))] := hD
                refine lv_aload_n hx hb d_Mo_round_125 rfl (lv_at hl 0 rfl) ?_
                refine va_get (D := D) (ci := 3) (v := .ref cu) (C := R_3) (T := T_3) (N := 11) hx hb hts in_3 hown hK hP 0 rfl rfl 10 (by decide) (hts _ tw_402) (fun _ h9 => h9) rfl d_Mo_round_126 ?_
                refine lv_iconst (v := iz 1) hx hb d_Mo_round_129 rfl ?_
                refine va_put (D := D) (ci := 4) (v := .int (iz 1)) (ty := .int) (C := R_4) (T := T_4) (N := 3) hx hb hts in_4 ty_4 tyok_4 nm_4 hown hK hP hD hS 6 rfl rfl 1 (by decide) (hts _ tw_383) (fun _ h9 => h9) rfl (by decide +kernel) rfl rfl (Nat.le_of_ble_eq_true rfl) d_Mo_round_130 (fun H locs hP hD hS => ?_)
                have hP : va_P D vwCl [(mo, .inr (3, [.ref rs, .int (iz len), .int (iz co), .ref ex, .int (iz bi), .int (iz le), .ref li, .int (iz used), .ref bo, .int (iz bl), .ref cu])), (rs, .inl (cB, 4096, .inl (az fr))), (ex, .inr (4, [.ref xd, .int (iz ne), .int (iz pe)])), (xd, .inl (cB, 1300, .inl (az fe))), (li, .inl (cL, 160, .inr (.inl (azl lm)))), (bo, .inl (cB, 4096, .inl (az fb))), (cu, .inr (4, [.ref cd, .int (iz 1), .int (iz pe)])), (cd, .inl (cB, 1300, .inl (az (up h 0 1))))] H := hP
                have hD : va_D (AM mo rs ex xd li bo cu cd) [(mo, .inr (3, [.ref rs, .int (iz len), .int (iz co), .ref ex, .int (iz bi), .int (iz le), .ref li, .int (iz used), .ref bo, .int (iz bl), .ref cu])), (rs, .inl (cB, 4096, .inl (az fr))), (ex, .inr (4, [.ref xd, .int (iz ne), .int (iz pe)])), (xd, .inl (cB, 1300, .inl (az fe))), (li, .inl (cL, 160, .inr (.inl (azl lm)))), (bo, .inl (cB, 4096, .inl (az fb))), (cu, .inr (4, [.ref cd, .int (iz 1), .int (iz pe)])), (cd, .inl (cB, 1300, .inl (az (up h 0 1))))] := hD
                refine lv_aload_n hx hb d_Mo_round_133 rfl (lv_at hl 0 rfl) ?_
                refine va_get (D := D) (ci := 3) (v := .ref cu) (C := R_3) (T := T_3) (N := 11) hx hb hts in_3 hown hK hP 0 rfl rfl 10 (by decide) (hts _ tw_402) (fun _ h9 => h9) rfl d_Mo_round_134 ?_
                refine lv_aload_n hx hb d_Mo_round_137 rfl (lv_at hl 1 rfl) ?_
                refine va_get (D := D) (ci := 4) (v := .int (iz pe)) (C := R_4) (T := T_4) (N := 3) hx hb hts in_4 hown hK hP 2 rfl rfl 2 (by decide) (hts _ tw_384) (fun _ h9 => h9) rfl d_Mo_round_138 ?_
                refine lv_iconst (v := iz 1) hx hb d_Mo_round_141 rfl ?_
                refine z_iadd hx hb d_Mo_round_142 ?_
                refine va_put (D := D) (ci := 4) (v := .int (iz (pe + 1))) (ty := .int) (C := R_4) (T := T_4) (N := 3) hx hb hts in_4 ty_4 tyok_4 nm_4 hown hK hP hD hS 6 rfl rfl 2 (by decide) (hts _ tw_384) (fun _ h9 => h9) rfl (by decide +kernel) rfl rfl (Nat.le_of_ble_eq_true rfl) d_Mo_round_143 (fun H locs hP hD hS => ?_)
                have hP : va_P D vwCl [(mo, .inr (3, [.ref rs, .int (iz len), .int (iz co), .ref ex, .int (iz bi), .int (iz le), .ref li, .int (iz used), .ref bo, .int (iz bl), .ref cu])), (rs, .inl (cB, 4096, .inl (az fr))), (ex, .inr (4, [.ref xd, .int (iz ne), .int (iz pe)])), (xd, .inl (cB, 1300, .inl (az fe))), (li, .inl (cL, 160, .inr (.inl (azl lm)))), (bo, .inl (cB, 4096, .inl (az fb))), (cu, .inr (4, [.ref cd, .int (iz 1), .int (iz (pe + 1))])), (cd, .inl (cB, 1300, .inl (az (up h 0 1))))] H := hP
                have hD : va_D (AM mo rs ex xd li bo cu cd) [(mo, .inr (3, [.ref rs, .int (iz len), .int (iz co), .ref ex, .int (iz bi), .int (iz le), .ref li, .int (iz used), .ref bo, .int (iz bl), .ref cu])), (rs, .inl (cB, 4096, .inl (az fr))), (ex, .inr (4, [.ref xd, .int (iz ne), .int (iz pe)])), (xd, .inl (cB, 1300, .inl (az fe))), (li, .inl (cL, 160, .inr (.inl (azl lm)))), (bo, .inl (cB, 4096, .inl (az fb))), (cu, .inr (4, [.ref cd, .int (iz 1), .int (iz (pe + 1))])), (cd, .inl (cB, 1300, .inl (az (up h 0 1))))] := hD
                refine lv_goto (tgt := 156) hx hb d_Mo_round_146 rfl ?_
                have hc9 : RowOK (up h 0 1) 1 (pe + 1) (rnd V (lead V + 1 - mx)) := by
                  rw [show mx = 0 by omega, cut_at hE (k := 0) (by omega) (by omega), if_pos (by rw [← hc112]; omega), show pe - 0 + 1080 = pe + 1080 by omega]
                  show RowOK _ _ _ (0 * _ + _)
                  rw [Int.zero_mul, Int.zero_add]
                  exact row_one ⟨by omega, by omega⟩
                exact z_vret hx hb hr hlk hS (zR_st zSt_MW) ⟨rfl, _, _, _, ⟨_, _, _, _, _, _, _, _, _, ⟨hK, hP, hD⟩, hrt, hbt, hE, hpe, hlm⟩, hc9⟩ d_Mo_round_156
      · refine lv_aload_n hx hb d_Mo_round_53 rfl (lv_at hl 0 rfl) ?_
        refine va_get (D := D) (ci := 3) (v := .ref cu) (C := R_3) (T := T_3) (N := 11) hx hb hts in_3 hown hK hP 0 rfl rfl 10 (by decide) (hts _ tw_402) (fun _ h9 => h9) rfl d_Mo_round_54 ?_
        refine va_get (D := D) (ci := 4) (v := .ref cd) (C := R_4) (T := T_4) (N := 3) hx hb hts in_4 hown hK hP 6 rfl rfl 0 (by decide) (hts _ tw_382) (fun _ h9 => h9) rfl d_Mo_round_57 ?_
        refine lv_iload hx hb d_Mo_round_60 (lv_at hl 4 rfl) ?_
        refine lv_iload hx hb d_Mo_round_62 (lv_at hl 4 rfl) ?_
        refine lv_aload_n hx hb d_Mo_round_64 rfl (lv_at hl 1 rfl) ?_
        refine va_get (D := D) (ci := 4) (v := .int (iz ne)) (C := R_4) (T := T_4) (N := 3) hx hb hts in_4 hown hK hP 2 rfl rfl 1 (by decide) (hts _ tw_383) (fun _ h9 => h9) rfl d_Mo_round_65 ?_
        refine z_icmp_ge (tgt := 81) hx hb d_Mo_round_68 rfl ⟨by omega, by omega⟩ ⟨by omega, by omega⟩ (fun hc68 => ?_) (fun hc68 => ?_)
        · exfalso
          omega
        · have hfe := hE.2.1 i (by omega) (by omega)
          refine lv_aload_n hx hb d_Mo_round_71 rfl (lv_at hl 1 rfl) ?_
          refine va_get (D := D) (ci := 4) (v := .ref xd) (C := R_4) (T := T_4) (N := 3) hx hb hts in_4 hown hK hP 2 rfl rfl 0 (by decide) (hts _ tw_382) (fun _ h9 => h9) rfl d_Mo_round_72 ?_
          refine lv_iload hx hb d_Mo_round_75 (lv_at hl 4 rfl) ?_
          refine z_bald hx hb hK hP 3 0 rfl rfl (by omega) (by omega) (by decide) d_Mo_round_77 ?_
          refine lv_goto (tgt := 82) hx hb d_Mo_round_78 rfl ?_
          refine z_bast hx hb hK hP hD hS 7 0 rfl rfl (by omega) (by omega) (by decide) ⟨by omega, by omega⟩ d_Mo_round_82 (fun H locs hP hD hS => ?_)
          have hP : va_P D vwCl [(mo, .inr (3, [.ref rs, .int (iz len), .int (iz co), .ref ex, .int (iz bi), .int (iz le), .ref li, .int (iz used), .ref bo, .int (iz bl), .ref cu])), (rs, .inl (cB, 4096, .inl (az fr))), (ex, .inr (4, [.ref xd, .int (iz ne), .int (iz pe)])), (xd, .inl (cB, 1300, .inl (az fe))), (li, .inl (cL, 160, .inr (.inl (azl lm)))), (bo, .inl (cB, 4096, .inl (az fb))), (cu, .inr (4, [.ref cd, .int (iz (max n 0)), .int (iz pe)])), (cd, .inl (cB, 1300, .inl (az (up h i (fe i)))))] H := hP
          have hD : va_D (AM mo rs ex xd li bo cu cd) [(mo, .inr (3, [.ref rs, .int (iz len), .int (iz co), .ref ex, .int (iz bi), .int (iz le), .ref li, .int (iz used), .ref bo, .int (iz bl), .ref cu])), (rs, .inl (cB, 4096, .inl (az fr))), (ex, .inr (4, [.ref xd, .int (iz ne), .int (iz pe)])), (xd, .inl (cB, 1300, .inl (az fe))), (li, .inl (cL, 160, .inr (.inl (azl lm)))), (bo, .inl (cB, 4096, .inl (az fb))), (cu, .inr (4, [.ref cd, .int (iz (max n 0)), .int (iz pe)])), (cd, .inl (cB, 1300, .inl (az (up h i (fe i)))))] := hD
          refine lv_iinc (k := 4) (v := (iz (i + 1))) hx hb d_Mo_round_83 hl rfl (by show iz _ + iz (1) = _; rw [← iz_add]; try rfl) (by decide) rfl (fun ls hl => ?_)
          have hl : lv_has ls 5 [(4, .int (iz (i + 1))), (0, .ref mo), (1, .ref ex), (2, .int (iz mx)), (3, .int (iz n))] := hl
          refine lv_goto (tgt := 47) hx hb d_Mo_round_86 rfl ?_
          exact ih47 n (up h i (fe i)) (i + 1) _ _ _ hP hD hS (lv_sub hl [1, 2, 3, 4, 0] rfl) hn ⟨by omega, by omega⟩ (fun j q1 q2 => by
                by_cases hq : j = i
                · rw [hq, up_s]
                · rw [up_n _ _ hq]; exact hh j q1 (by omega)) (by omega)
  refine lv_iload_n hx hb d_Mo_round_0 rfl (lv_at hl 2 rfl) ?_
  refine lv_aload_n hx hb d_Mo_round_1 rfl (lv_at hl 1 rfl) ?_
  refine va_get (D := D) (ci := 4) (v := .int (iz ne)) (C := R_4) (T := T_4) (N := 3) hx hb hts in_4 hown hK hP 2 rfl rfl 1 (by decide) (hts _ tw_383) (fun _ h9 => h9) rfl d_Mo_round_2 ?_
  refine z_icmp_ge (tgt := 12) hx hb d_Mo_round_5 rfl ⟨by omega, by omega⟩ ⟨by omega, by omega⟩ (fun hc5 => ?_) (fun hc5 => ?_)
  · refine lv_aload_n hx hb d_Mo_round_12 rfl (lv_at hl 1 rfl) ?_
    refine va_get (D := D) (ci := 4) (v := .int (iz ne)) (C := R_4) (T := T_4) (N := 3) hx hb hts in_4 hown hK hP 2 rfl rfl 1 (by decide) (hts _ tw_383) (fun _ h9 => h9) rfl d_Mo_round_13 ?_
    refine lv_istore_n hx hb d_Mo_round_16 rfl hl (by decide) rfl (fun ls hl => ?_)
    have hl : lv_has ls 5 [(3, .int (iz ne)), (0, .ref mo), (1, .ref ex), (2, .int (iz mx))] := hl
    refine lv_aload_n hx hb d_Mo_round_17 rfl (lv_at hl 1 rfl) ?_
    refine va_get (D := D) (ci := 3) (v := .ref cu) (C := R_3) (T := T_3) (N := 11) hx hb hts in_3 hown hK hP 0 rfl rfl 10 (by decide) (hts _ tw_402) (fun _ h9 => h9) rfl d_Mo_round_18 ?_
    refine lv_aload_n hx hb d_Mo_round_21 rfl (lv_at hl 2 rfl) ?_
    refine va_get (D := D) (ci := 4) (v := .int (iz pe)) (C := R_4) (T := T_4) (N := 3) hx hb hts in_4 hown hK hP 2 rfl rfl 2 (by decide) (hts _ tw_384) (fun _ h9 => h9) rfl d_Mo_round_22 ?_
    refine va_put (D := D) (ci := 4) (v := .int (iz pe)) (ty := .int) (C := R_4) (T := T_4) (N := 3) hx hb hts in_4 ty_4 tyok_4 nm_4 hown hK hP hD hS 6 rfl rfl 2 (by decide) (hts _ tw_384) (fun _ h9 => h9) rfl (by decide +kernel) rfl rfl (Nat.le_of_ble_eq_true rfl) d_Mo_round_25 (fun H locs hP hD hS => ?_)
    have hP : va_P D vwCl [(mo, .inr (3, [.ref rs, .int (iz len), .int (iz co), .ref ex, .int (iz bi), .int (iz le), .ref li, .int (iz used), .ref bo, .int (iz bl), .ref cu])), (rs, .inl (cB, 4096, .inl (az fr))), (ex, .inr (4, [.ref xd, .int (iz ne), .int (iz pe)])), (xd, .inl (cB, 1300, .inl (az fe))), (li, .inl (cL, 160, .inr (.inl (azl lm)))), (bo, .inl (cB, 4096, .inl (az fb))), (cu, .inr (4, [.ref cd, .int (iz nc), .int (iz pe)])), (cd, .inl (cB, 1300, .inl (az fc)))] H := hP
    have hD : va_D (AM mo rs ex xd li bo cu cd) [(mo, .inr (3, [.ref rs, .int (iz len), .int (iz co), .ref ex, .int (iz bi), .int (iz le), .ref li, .int (iz used), .ref bo, .int (iz bl), .ref cu])), (rs, .inl (cB, 4096, .inl (az fr))), (ex, .inr (4, [.ref xd, .int (iz ne), .int (iz pe)])), (xd, .inl (cB, 1300, .inl (az fe))), (li, .inl (cL, 160, .inr (.inl (azl lm)))), (bo, .inl (cB, 4096, .inl (az fb))), (cu, .inr (4, [.ref cd, .int (iz nc), .int (iz pe)])), (cd, .inl (cB, 1300, .inl (az fc)))] := hD
    refine lv_aload_n hx hb d_Mo_round_28 rfl (lv_at hl 1 rfl) ?_
    refine va_get (D := D) (ci := 3) (v := .ref cu) (C := R_3) (T := T_3) (N := 11) hx hb hts in_3 hown hK hP 0 rfl rfl 10 (by decide) (hts _ tw_402) (fun _ h9 => h9) rfl d_Mo_round_29 ?_
    refine lv_iload_n hx hb d_Mo_round_32 rfl (lv_at hl 0 rfl) ?_
    refine z_if_ge (tgt := 40) hx hb d_Mo_round_33 rfl ⟨by omega, by omega⟩ (fun hc33 => ?_) (fun hc33 => ?_)
    · refine lv_iload_n hx hb d_Mo_round_40 rfl (lv_at hl 0 rfl) ?_
      refine z_ri (b := max ne 0) (by omega) ?_
      refine va_put (D := D) (ci := 4) (v := .int (iz (max ne 0))) (ty := .int) (C := R_4) (T := T_4) (N := 3) hx hb hts in_4 ty_4 tyok_4 nm_4 hown hK hP hD hS 6 rfl rfl 1 (by decide) (hts _ tw_383) (fun _ h9 => h9) rfl (by decide +kernel) rfl rfl (Nat.le_of_ble_eq_true rfl) d_Mo_round_41 (fun H locs hP hD hS => ?_)
      have hP : va_P D vwCl [(mo, .inr (3, [.ref rs, .int (iz len), .int (iz co), .ref ex, .int (iz bi), .int (iz le), .ref li, .int (iz used), .ref bo, .int (iz bl), .ref cu])), (rs, .inl (cB, 4096, .inl (az fr))), (ex, .inr (4, [.ref xd, .int (iz ne), .int (iz pe)])), (xd, .inl (cB, 1300, .inl (az fe))), (li, .inl (cL, 160, .inr (.inl (azl lm)))), (bo, .inl (cB, 4096, .inl (az fb))), (cu, .inr (4, [.ref cd, .int (iz (max ne 0)), .int (iz pe)])), (cd, .inl (cB, 1300, .inl (az fc)))] H := hP
      have hD : va_D (AM mo rs ex xd li bo cu cd) [(mo, .inr (3, [.ref rs, .int (iz len), .int (iz co), .ref ex, .int (iz bi), .int (iz le), .ref li, .int (iz used), .ref bo, .int (iz bl), .ref cu])), (rs, .inl (cB, 4096, .inl (az fr))), (ex, .inr (4, [.ref xd, .int (iz ne), .int (iz pe)])), (xd, .inl (cB, 1300, .inl (az fe))), (li, .inl (cL, 160, .inr (.inl (azl lm)))), (bo, .inl (cB, 4096, .inl (az fb))), (cu, .inr (4, [.ref cd, .int (iz (max ne 0)), .int (iz pe)])), (cd, .inl (cB, 1300, .inl (az fc)))] := hD
      refine lv_iconst (v := iz 0) hx hb d_Mo_round_44 rfl ?_
      refine lv_istore hx hb d_Mo_round_45 hl (by decide) rfl (fun ls hl => ?_)
      have hl : lv_has ls 5 [(4, .int (iz 0)), (3, .int (iz ne)), (0, .ref mo), (1, .ref ex), (2, .int (iz mx))] := hl
      exact L47 _ ne fc 0 _ _ _ hP hD hS (lv_sub hl [2, 3, 4, 1, 0] rfl) (by omega) ⟨by omega, Or.inr rfl⟩ (fun j q1 q2 => absurd q1 (by omega)) (Nat.lt_succ_self _)
    · refine lv_iconst (v := iz 0) hx hb d_Mo_round_36 rfl ?_
      refine z_ri (b := max ne 0) (by omega) ?_
      refine lv_goto (tgt := 41) hx hb d_Mo_round_37 rfl ?_
      refine va_put (D := D) (ci := 4) (v := .int (iz (max ne 0))) (ty := .int) (C := R_4) (T := T_4) (N := 3) hx hb hts in_4 ty_4 tyok_4 nm_4 hown hK hP hD hS 6 rfl rfl 1 (by decide) (hts _ tw_383) (fun _ h9 => h9) rfl (by decide +kernel) rfl rfl (Nat.le_of_ble_eq_true rfl) d_Mo_round_41 (fun H locs hP hD hS => ?_)
      have hP : va_P D vwCl [(mo, .inr (3, [.ref rs, .int (iz len), .int (iz co), .ref ex, .int (iz bi), .int (iz le), .ref li, .int (iz used), .ref bo, .int (iz bl), .ref cu])), (rs, .inl (cB, 4096, .inl (az fr))), (ex, .inr (4, [.ref xd, .int (iz ne), .int (iz pe)])), (xd, .inl (cB, 1300, .inl (az fe))), (li, .inl (cL, 160, .inr (.inl (azl lm)))), (bo, .inl (cB, 4096, .inl (az fb))), (cu, .inr (4, [.ref cd, .int (iz (max ne 0)), .int (iz pe)])), (cd, .inl (cB, 1300, .inl (az fc)))] H := hP
      have hD : va_D (AM mo rs ex xd li bo cu cd) [(mo, .inr (3, [.ref rs, .int (iz len), .int (iz co), .ref ex, .int (iz bi), .int (iz le), .ref li, .int (iz used), .ref bo, .int (iz bl), .ref cu])), (rs, .inl (cB, 4096, .inl (az fr))), (ex, .inr (4, [.ref xd, .int (iz ne), .int (iz pe)])), (xd, .inl (cB, 1300, .inl (az fe))), (li, .inl (cL, 160, .inr (.inl (azl lm)))), (bo, .inl (cB, 4096, .inl (az fb))), (cu, .inr (4, [.ref cd, .int (iz (max ne 0)), .int (iz pe)])), (cd, .inl (cB, 1300, .inl (az fc)))] := hD
      refine lv_iconst (v := iz 0) hx hb d_Mo_round_44 rfl ?_
      refine lv_istore hx hb d_Mo_round_45 hl (by decide) rfl (fun ls hl => ?_)
      have hl : lv_has ls 5 [(4, .int (iz 0)), (3, .int (iz ne)), (0, .ref mo), (1, .ref ex), (2, .int (iz mx))] := hl
      exact L47 _ ne fc 0 _ _ _ hP hD hS (lv_sub hl [2, 3, 4, 1, 0] rfl) (by omega) ⟨by omega, Or.inr rfl⟩ (fun j q1 q2 => absurd q1 (by omega)) (Nat.lt_succ_self _)
  · refine lv_iload_n hx hb d_Mo_round_8 rfl (lv_at hl 2 rfl) ?_
    refine lv_goto (tgt := 16) hx hb d_Mo_round_9 rfl ?_
    refine lv_istore_n hx hb d_Mo_round_16 rfl hl (by decide) rfl (fun ls hl => ?_)
    have hl : lv_has ls 5 [(3, .int (iz mx)), (0, .ref mo), (1, .ref ex), (2, .int (iz mx))] := hl
    refine lv_aload_n hx hb d_Mo_round_17 rfl (lv_at hl 1 rfl) ?_
    refine va_get (D := D) (ci := 3) (v := .ref cu) (C := R_3) (T := T_3) (N := 11) hx hb hts in_3 hown hK hP 0 rfl rfl 10 (by decide) (hts _ tw_402) (fun _ h9 => h9) rfl d_Mo_round_18 ?_
    refine lv_aload_n hx hb d_Mo_round_21 rfl (lv_at hl 2 rfl) ?_
    refine va_get (D := D) (ci := 4) (v := .int (iz pe)) (C := R_4) (T := T_4) (N := 3) hx hb hts in_4 hown hK hP 2 rfl rfl 2 (by decide) (hts _ tw_384) (fun _ h9 => h9) rfl d_Mo_round_22 ?_
    refine va_put (D := D) (ci := 4) (v := .int (iz pe)) (ty := .int) (C := R_4) (T := T_4) (N := 3) hx hb hts in_4 ty_4 tyok_4 nm_4 hown hK hP hD hS 6 rfl rfl 2 (by decide) (hts _ tw_384) (fun _ h9 => h9) rfl (by decide +kernel) rfl rfl (Nat.le_of_ble_eq_true rfl) d_Mo_round_25 (fun H locs hP hD hS => ?_)
    have hP : va_P D vwCl [(mo, .inr (3, [.ref rs, .int (iz len), .int (iz co), .ref ex, .int (iz bi), .int (iz le), .ref li, .int (iz used), .ref bo, .int (iz bl), .ref cu])), (rs, .inl (cB, 4096, .inl (az fr))), (ex, .inr (4, [.ref xd, .int (iz ne), .int (iz pe)])), (xd, .inl (cB, 1300, .inl (az fe))), (li, .inl (cL, 160, .inr (.inl (azl lm)))), (bo, .inl (cB, 4096, .inl (az fb))), (cu, .inr (4, [.ref cd, .int (iz nc), .int (iz pe)])), (cd, .inl (cB, 1300, .inl (az fc)))] H := hP
    have hD : va_D (AM mo rs ex xd li bo cu cd) [(mo, .inr (3, [.ref rs, .int (iz len), .int (iz co), .ref ex, .int (iz bi), .int (iz le), .ref li, .int (iz used), .ref bo, .int (iz bl), .ref cu])), (rs, .inl (cB, 4096, .inl (az fr))), (ex, .inr (4, [.ref xd, .int (iz ne), .int (iz pe)])), (xd, .inl (cB, 1300, .inl (az fe))), (li, .inl (cL, 160, .inr (.inl (azl lm)))), (bo, .inl (cB, 4096, .inl (az fb))), (cu, .inr (4, [.ref cd, .int (iz nc), .int (iz pe)])), (cd, .inl (cB, 1300, .inl (az fc)))] := hD
    refine lv_aload_n hx hb d_Mo_round_28 rfl (lv_at hl 1 rfl) ?_
    refine va_get (D := D) (ci := 3) (v := .ref cu) (C := R_3) (T := T_3) (N := 11) hx hb hts in_3 hown hK hP 0 rfl rfl 10 (by decide) (hts _ tw_402) (fun _ h9 => h9) rfl d_Mo_round_29 ?_
    refine lv_iload_n hx hb d_Mo_round_32 rfl (lv_at hl 0 rfl) ?_
    refine z_if_ge (tgt := 40) hx hb d_Mo_round_33 rfl ⟨by omega, by omega⟩ (fun hc33 => ?_) (fun hc33 => ?_)
    · refine lv_iload_n hx hb d_Mo_round_40 rfl (lv_at hl 0 rfl) ?_
      refine z_ri (b := max mx 0) (by omega) ?_
      refine va_put (D := D) (ci := 4) (v := .int (iz (max mx 0))) (ty := .int) (C := R_4) (T := T_4) (N := 3) hx hb hts in_4 ty_4 tyok_4 nm_4 hown hK hP hD hS 6 rfl rfl 1 (by decide) (hts _ tw_383) (fun _ h9 => h9) rfl (by decide +kernel) rfl rfl (Nat.le_of_ble_eq_true rfl) d_Mo_round_41 (fun H locs hP hD hS => ?_)
      have hP : va_P D vwCl [(mo, .inr (3, [.ref rs, .int (iz len), .int (iz co), .ref ex, .int (iz bi), .int (iz le), .ref li, .int (iz used), .ref bo, .int (iz bl), .ref cu])), (rs, .inl (cB, 4096, .inl (az fr))), (ex, .inr (4, [.ref xd, .int (iz ne), .int (iz pe)])), (xd, .inl (cB, 1300, .inl (az fe))), (li, .inl (cL, 160, .inr (.inl (azl lm)))), (bo, .inl (cB, 4096, .inl (az fb))), (cu, .inr (4, [.ref cd, .int (iz (max mx 0)), .int (iz pe)])), (cd, .inl (cB, 1300, .inl (az fc)))] H := hP
      have hD : va_D (AM mo rs ex xd li bo cu cd) [(mo, .inr (3, [.ref rs, .int (iz len), .int (iz co), .ref ex, .int (iz bi), .int (iz le), .ref li, .int (iz used), .ref bo, .int (iz bl), .ref cu])), (rs, .inl (cB, 4096, .inl (az fr))), (ex, .inr (4, [.ref xd, .int (iz ne), .int (iz pe)])), (xd, .inl (cB, 1300, .inl (az fe))), (li, .inl (cL, 160, .inr (.inl (azl lm)))), (bo, .inl (cB, 4096, .inl (az fb))), (cu, .inr (4, [.ref cd, .int (iz (max mx 0)), .int (iz pe)])), (cd, .inl (cB, 1300, .inl (az fc)))] := hD
      refine lv_iconst (v := iz 0) hx hb d_Mo_round_44 rfl ?_
      refine lv_istore hx hb d_Mo_round_45 hl (by decide) rfl (fun ls hl => ?_)
      have hl : lv_has ls 5 [(4, .int (iz 0)), (3, .int (iz mx)), (0, .ref mo), (1, .ref ex), (2, .int (iz mx))] := hl
      exact L47 _ mx fc 0 _ _ _ hP hD hS (lv_sub hl [2, 3, 4, 1, 0] rfl) (by omega) ⟨by omega, Or.inr rfl⟩ (fun j q1 q2 => absurd q1 (by omega)) (Nat.lt_succ_self _)
    · refine lv_iconst (v := iz 0) hx hb d_Mo_round_36 rfl ?_
      refine z_ri (b := max mx 0) (by omega) ?_
      refine lv_goto (tgt := 41) hx hb d_Mo_round_37 rfl ?_
      refine va_put (D := D) (ci := 4) (v := .int (iz (max mx 0))) (ty := .int) (C := R_4) (T := T_4) (N := 3) hx hb hts in_4 ty_4 tyok_4 nm_4 hown hK hP hD hS 6 rfl rfl 1 (by decide) (hts _ tw_383) (fun _ h9 => h9) rfl (by decide +kernel) rfl rfl (Nat.le_of_ble_eq_true rfl) d_Mo_round_41 (fun H locs hP hD hS => ?_)
      have hP : va_P D vwCl [(mo, .inr (3, [.ref rs, .int (iz len), .int (iz co), .ref ex, .int (iz bi), .int (iz le), .ref li, .int (iz used), .ref bo, .int (iz bl), .ref cu])), (rs, .inl (cB, 4096, .inl (az fr))), (ex, .inr (4, [.ref xd, .int (iz ne), .int (iz pe)])), (xd, .inl (cB, 1300, .inl (az fe))), (li, .inl (cL, 160, .inr (.inl (azl lm)))), (bo, .inl (cB, 4096, .inl (az fb))), (cu, .inr (4, [.ref cd, .int (iz (max mx 0)), .int (iz pe)])), (cd, .inl (cB, 1300, .inl (az fc)))] H := hP
      have hD : va_D (AM mo rs ex xd li bo cu cd) [(mo, .inr (3, [.ref rs, .int (iz len), .int (iz co), .ref ex, .int (iz bi), .int (iz le), .ref li, .int (iz used), .ref bo, .int (iz bl), .ref cu])), (rs, .inl (cB, 4096, .inl (az fr))), (ex, .inr (4, [.ref xd, .int (iz ne), .int (iz pe)])), (xd, .inl (cB, 1300, .inl (az fe))), (li, .inl (cL, 160, .inr (.inl (azl lm)))), (bo, .inl (cB, 4096, .inl (az fb))), (cu, .inr (4, [.ref cd, .int (iz (max mx 0)), .int (iz pe)])), (cd, .inl (cB, 1300, .inl (az fc)))] := hD
      refine lv_iconst (v := iz 0) hx hb d_Mo_round_44 rfl ?_
      refine lv_istore hx hb d_Mo_round_45 hl (by decide) rfl (fun ls hl => ?_)
      have hl : lv_has ls 5 [(4, .int (iz 0)), (3, .int (iz mx)), (0, .ref mo), (1, .ref ex), (2, .int (iz mx))] := hl
      exact L47 _ mx fc 0 _ _ _ hP hD hS (lv_sub hl [2, 3, 4, 1, 0] rfl) (by omega) ⟨by omega, Or.inr rfl⟩ (fun j q1 q2 => absurd q1 (by omega)) (Nat.lt_succ_self _)
end
section
theorem d_Mo_sci_0 : decode b_Mo_scientific 0 = .ok (.aload_n 0, 1) := by decide +kernel
theorem d_Mo_sci_1 : decode b_Mo_scientific 1 = .ok (.aload_n 1, 1) := by decide +kernel
theorem d_Mo_sci_2 : decode b_Mo_scientific 2 = .ok (.iload_n 2, 1) := by decide +kernel
theorem d_Mo_sci_3 : decode b_Mo_scientific 3 = .ok (.iconst 1, 1) := by decide +kernel
theorem d_Mo_sci_4 : decode b_Mo_scientific 4 = .ok (.iadd, 1) := by decide +kernel
theorem d_Mo_sci_5 : decode b_Mo_scientific 5 = .ok (.invokevirtual 99, 3) := by decide +kernel
theorem d_Mo_sci_8 : decode b_Mo_scientific 8 = .ok (.aload_n 0, 1) := by decide +kernel
theorem d_Mo_sci_9 : decode b_Mo_scientific 9 = .ok (.aload_n 1, 1) := by decide +kernel
theorem d_Mo_sci_10 : decode b_Mo_scientific 10 = .ok (.getfield 79, 3) := by decide +kernel
theorem d_Mo_sci_13 : decode b_Mo_scientific 13 = .ok (.ifCond .ne (8), 3) := by decide +kernel
theorem d_Mo_sci_16 : decode b_Mo_scientific 16 = .ok (.bipush (48), 2) := by decide +kernel
theorem d_Mo_sci_18 : decode b_Mo_scientific 18 = .ok (.goto (11), 3) := by decide +kernel
theorem d_Mo_sci_21 : decode b_Mo_scientific 21 = .ok (.aload_n 0, 1) := by decide +kernel
theorem d_Mo_sci_22 : decode b_Mo_scientific 22 = .ok (.getfield 27, 3) := by decide +kernel
theorem d_Mo_sci_25 : decode b_Mo_scientific 25 = .ok (.iconst 0, 1) := by decide +kernel
theorem d_Mo_sci_26 : decode b_Mo_scientific 26 = .ok (.invokestatic 103, 3) := by decide +kernel
theorem d_Mo_sci_29 : decode b_Mo_scientific 29 = .ok (.invokevirtual 107, 3) := by decide +kernel
theorem d_Mo_sci_32 : decode b_Mo_scientific 32 = .ok (.iload_n 2, 1) := by decide +kernel
theorem d_Mo_sci_33 : decode b_Mo_scientific 33 = .ok (.ifCond .gt (7), 3) := by decide +kernel
theorem d_Mo_sci_36 : decode b_Mo_scientific 36 = .ok (.iload_n 3, 1) := by decide +kernel
theorem d_Mo_sci_37 : decode b_Mo_scientific 37 = .ok (.ifCond .eq (9), 3) := by decide +kernel
theorem d_Mo_sci_40 : decode b_Mo_scientific 40 = .ok (.aload_n 0, 1) := by decide +kernel
theorem d_Mo_sci_41 : decode b_Mo_scientific 41 = .ok (.bipush (46), 2) := by decide +kernel
theorem d_Mo_sci_43 : decode b_Mo_scientific 43 = .ok (.invokevirtual 107, 3) := by decide +kernel
theorem d_Mo_sci_46 : decode b_Mo_scientific 46 = .ok (.iconst 1, 1) := by decide +kernel
theorem d_Mo_sci_47 : decode b_Mo_scientific 47 = .ok (.istore 4, 2) := by decide +kernel
theorem d_Mo_sci_49 : decode b_Mo_scientific 49 = .ok (.iload 4, 2) := by decide +kernel
theorem d_Mo_sci_51 : decode b_Mo_scientific 51 = .ok (.iload_n 2, 1) := by decide +kernel
theorem d_Mo_sci_52 : decode b_Mo_scientific 52 = .ok (.if_icmp .gt (34), 3) := by decide +kernel
theorem d_Mo_sci_55 : decode b_Mo_scientific 55 = .ok (.aload_n 0, 1) := by decide +kernel
theorem d_Mo_sci_56 : decode b_Mo_scientific 56 = .ok (.aload_n 1, 1) := by decide +kernel
theorem d_Mo_sci_57 : decode b_Mo_scientific 57 = .ok (.getfield 79, 3) := by decide +kernel
theorem d_Mo_sci_60 : decode b_Mo_scientific 60 = .ok (.ifCond .ne (8), 3) := by decide +kernel
theorem d_Mo_sci_63 : decode b_Mo_scientific 63 = .ok (.bipush (48), 2) := by decide +kernel
theorem d_Mo_sci_65 : decode b_Mo_scientific 65 = .ok (.goto (12), 3) := by decide +kernel
theorem d_Mo_sci_68 : decode b_Mo_scientific 68 = .ok (.aload_n 0, 1) := by decide +kernel
theorem d_Mo_sci_69 : decode b_Mo_scientific 69 = .ok (.getfield 27, 3) := by decide +kernel
theorem d_Mo_sci_72 : decode b_Mo_scientific 72 = .ok (.iload 4, 2) := by decide +kernel
theorem d_Mo_sci_74 : decode b_Mo_scientific 74 = .ok (.invokestatic 103, 3) := by decide +kernel
theorem d_Mo_sci_77 : decode b_Mo_scientific 77 = .ok (.invokevirtual 107, 3) := by decide +kernel
theorem d_Mo_sci_80 : decode b_Mo_scientific 80 = .ok (.iinc 4 (1), 3) := by decide +kernel
theorem d_Mo_sci_83 : decode b_Mo_scientific 83 = .ok (.goto (-34), 3) := by decide +kernel
theorem d_Mo_sci_86 : decode b_Mo_scientific 86 = .ok (.aload_n 1, 1) := by decide +kernel
theorem d_Mo_sci_87 : decode b_Mo_scientific 87 = .ok (.getfield 79, 3) := by decide +kernel
theorem d_Mo_sci_90 : decode b_Mo_scientific 90 = .ok (.ifCond .ne (7), 3) := by decide +kernel
theorem d_Mo_sci_93 : decode b_Mo_scientific 93 = .ok (.iconst 0, 1) := by decide +kernel
theorem d_Mo_sci_94 : decode b_Mo_scientific 94 = .ok (.goto (12), 3) := by decide +kernel
theorem d_Mo_sci_97 : decode b_Mo_scientific 97 = .ok (.aload_n 0, 1) := by decide +kernel
theorem d_Mo_sci_98 : decode b_Mo_scientific 98 = .ok (.getfield 27, 3) := by decide +kernel
theorem d_Mo_sci_101 : decode b_Mo_scientific 101 = .ok (.getfield 89, 3) := by decide +kernel
theorem d_Mo_sci_104 : decode b_Mo_scientific 104 = .ok (.iconst 1, 1) := by decide +kernel
theorem d_Mo_sci_105 : decode b_Mo_scientific 105 = .ok (.isub, 1) := by decide +kernel
theorem d_Mo_sci_106 : decode b_Mo_scientific 106 = .ok (.istore 4, 2) := by decide +kernel
theorem d_Mo_sci_108 : decode b_Mo_scientific 108 = .ok (.aload_n 0, 1) := by decide +kernel
theorem d_Mo_sci_109 : decode b_Mo_scientific 109 = .ok (.bipush (101), 2) := by decide +kernel
theorem d_Mo_sci_111 : decode b_Mo_scientific 111 = .ok (.invokevirtual 107, 3) := by decide +kernel
theorem d_Mo_sci_114 : decode b_Mo_scientific 114 = .ok (.aload_n 0, 1) := by decide +kernel
theorem d_Mo_sci_115 : decode b_Mo_scientific 115 = .ok (.iload 4, 2) := by decide +kernel
theorem d_Mo_sci_117 : decode b_Mo_scientific 117 = .ok (.ifCond .ge (8), 3) := by decide +kernel
theorem d_Mo_sci_120 : decode b_Mo_scientific 120 = .ok (.bipush (45), 2) := by decide +kernel
theorem d_Mo_sci_122 : decode b_Mo_scientific 122 = .ok (.goto (5), 3) := by decide +kernel
theorem d_Mo_sci_125 : decode b_Mo_scientific 125 = .ok (.bipush (43), 2) := by decide +kernel
theorem d_Mo_sci_127 : decode b_Mo_scientific 127 = .ok (.invokevirtual 107, 3) := by decide +kernel
theorem d_Mo_sci_130 : decode b_Mo_scientific 130 = .ok (.iload 4, 2) := by decide +kernel
theorem d_Mo_sci_132 : decode b_Mo_scientific 132 = .ok (.ifCond .ge (9), 3) := by decide +kernel
theorem d_Mo_sci_135 : decode b_Mo_scientific 135 = .ok (.iload 4, 2) := by decide +kernel
theorem d_Mo_sci_137 : decode b_Mo_scientific 137 = .ok (.ineg, 1) := by decide +kernel
theorem d_Mo_sci_138 : decode b_Mo_scientific 138 = .ok (.goto (5), 3) := by decide +kernel
theorem d_Mo_sci_141 : decode b_Mo_scientific 141 = .ok (.iload 4, 2) := by decide +kernel
theorem d_Mo_sci_143 : decode b_Mo_scientific 143 = .ok (.istore 5, 2) := by decide +kernel
theorem d_Mo_sci_145 : decode b_Mo_scientific 145 = .ok (.iload 5, 2) := by decide +kernel
theorem d_Mo_sci_147 : decode b_Mo_scientific 147 = .ok (.bipush (99), 2) := by decide +kernel
theorem d_Mo_sci_149 : decode b_Mo_scientific 149 = .ok (.if_icmp .le (15), 3) := by decide +kernel
theorem d_Mo_sci_152 : decode b_Mo_scientific 152 = .ok (.aload_n 0, 1) := by decide +kernel
theorem d_Mo_sci_153 : decode b_Mo_scientific 153 = .ok (.bipush (48), 2) := by decide +kernel
theorem d_Mo_sci_155 : decode b_Mo_scientific 155 = .ok (.iload 5, 2) := by decide +kernel
theorem d_Mo_sci_157 : decode b_Mo_scientific 157 = .ok (.bipush (100), 2) := by decide +kernel
theorem d_Mo_sci_159 : decode b_Mo_scientific 159 = .ok (.idiv, 1) := by decide +kernel
theorem d_Mo_sci_160 : decode b_Mo_scientific 160 = .ok (.iadd, 1) := by decide +kernel
theorem d_Mo_sci_161 : decode b_Mo_scientific 161 = .ok (.invokevirtual 107, 3) := by decide +kernel
theorem d_Mo_sci_164 : decode b_Mo_scientific 164 = .ok (.aload_n 0, 1) := by decide +kernel
theorem d_Mo_sci_165 : decode b_Mo_scientific 165 = .ok (.bipush (48), 2) := by decide +kernel
theorem d_Mo_sci_167 : decode b_Mo_scientific 167 = .ok (.iload 5, 2) := by decide +kernel
theorem d_Mo_sci_169 : decode b_Mo_scientific 169 = .ok (.bipush (10), 2) := by decide +kernel
theorem d_Mo_sci_171 : decode b_Mo_scientific 171 = .ok (.idiv, 1) := by decide +kernel
theorem d_Mo_sci_172 : decode b_Mo_scientific 172 = .ok (.bipush (10), 2) := by decide +kernel
theorem d_Mo_sci_174 : decode b_Mo_scientific 174 = .ok (.irem, 1) := by decide +kernel
theorem d_Mo_sci_175 : decode b_Mo_scientific 175 = .ok (.iadd, 1) := by decide +kernel
theorem d_Mo_sci_176 : decode b_Mo_scientific 176 = .ok (.invokevirtual 107, 3) := by decide +kernel
theorem d_Mo_sci_179 : decode b_Mo_scientific 179 = .ok (.aload_n 0, 1) := by decide +kernel
theorem d_Mo_sci_180 : decode b_Mo_scientific 180 = .ok (.bipush (48), 2) := by decide +kernel
theorem d_Mo_sci_182 : decode b_Mo_scientific 182 = .ok (.iload 5, 2) := by decide +kernel
theorem d_Mo_sci_184 : decode b_Mo_scientific 184 = .ok (.bipush (10), 2) := by decide +kernel
theorem d_Mo_sci_186 : decode b_Mo_scientific 186 = .ok (.irem, 1) := by decide +kernel
theorem d_Mo_sci_187 : decode b_Mo_scientific 187 = .ok (.iadd, 1) := by decide +kernel
theorem d_Mo_sci_188 : decode b_Mo_scientific 188 = .ok (.invokevirtual 107, 3) := by decide +kernel
theorem d_Mo_sci_191 : decode b_Mo_scientific 191 = .ok (.return_, 1) := by decide +kernel
set_option maxHeartbeats 4000000 in
set_option maxRecDepth 100000 in
theorem c_Mo_sci (l : Launch) (D : va_G) (cB cL : ClassId) (mo rs ex xd li bo cu cd : Nat) (co bi le : Int) (rt bt : List Int) (V C : Int) (cn : Nat) (pt Cx : Int) (hCx : Cx = rnd V (lead V + 1 - ((cn : Int) + 1))) (hcn : cn ≤ 1300) (hpt : pt = 0 ∨ pt = 1) (hr0 : -999 ≤ lead Cx ∧ lead Cx ≤ 999) (hlen : bt.length + cn + 8 ≤ 4096) : Ct l y_Mo_scientific (ws_Mo_scientific) 2 (AM mo rs ex xd li bo cu cd) [.ref mo, .ref ex, .int (iz (cn : Int)), .int (iz pt)] (MW D cB cL mo rs ex xd li bo cu cd co bi le rt bt V C) (zR none (MW D cB cL mo rs ex xd li bo cu cd co bi le rt (bt ++ sciL Cx (lead Cx) cn pt) V Cx)) := by
  refine z_body zSt_MW (by decide +kernel) rfl (Nat.le_of_ble_eq_true rfl) ?_
  intro p e s m args below meth c ls hx hb hml hr hlk hts0 hown hpre0 H locs hpre hS hl
  have hts : ∀ w ∈ TBL, w.before args s = true := fun w hw => hts0 w (List.mem_cons_of_mem _ hw)
  have hl : lv_has ls 6 [(0, .ref mo), (1, .ref ex), (2, .int (iz (cn : Int))), (3, .int (iz pt))] := hl
  have hw := hpre
  have L108 : ∀  (H : Heap) (locs : List Loc) (ls : Array Slot), MW D cB cL mo rs ex xd li bo cu cd co bi le rt ((bt ++ [48 + dgt Cx (lead Cx)]) ++ behL Cx (lead Cx - 1) cn pt) V Cx s H → va_S (AM mo rs ex xd li bo cu cd) s.heap H locs → lv_has ls 6 [(0, .ref mo), (4, .int (iz (lead Cx)))] → W p l e (zrm 2) s m args below meth c H locs 0 0 (MQ below (zQ (AM mo rs ex xd li bo cu cd) (zR none (MW D cB cL mo rs ex xd li bo cu cd co bi le rt (bt ++ sciL Cx (lead Cx) cn pt) V Cx))) args s 0 0 (AM mo rs ex xd li bo cu cd)) (F0 m 108 ls []) := by
    intro  H locs ls hw hS hl 
    have hbl := behL_len Cx (lead Cx - 1) cn pt
    refine lv_aload_n hx hb d_Mo_sci_108 rfl (lv_at hl 0 rfl) ?_
    refine lv_bipush (v := iz 101) hx hb d_Mo_sci_109 (by decide) ?_
    have hct := c_Mo_add l D cB cL mo rs ex xd li bo cu cd co bi le rt (((bt ++ [48 + dgt Cx (lead Cx)]) ++ behL Cx (lead Cx - 1) cn pt)) V Cx (101) ⟨by omega, by omega⟩ (by (try simp only [List.length_append, List.length_cons, List.length_nil]); omega)
    have hw9 := hw
    obtain ⟨fc, nc, pp, ⟨len, used, bl, fr, fb, lm, fe, ne, pe, ⟨hK, hP, hD⟩, hrt, hbt, hE, hpe, hlm⟩, hC⟩ := hw9
    have hr1 := hrt.1
    have hr2 := hrt.2.1
    have hb1 := hbt.1
    have hb2 := hbt.2.1
    have hE1 := hE.1
    have hC1 := hC.1
    have hP : va_P D vwCl [(mo, .inr (3, [.ref rs, .int (iz len), .int (iz co), .ref ex, .int (iz bi), .int (iz le), .ref li, .int (iz used), .ref bo, .int (iz bl), .ref cu])), (rs, .inl (cB, 4096, .inl (az fr))), (ex, .inr (4, [.ref xd, .int (iz ne), .int (iz pe)])), (xd, .inl (cB, 1300, .inl (az fe))), (li, .inl (cL, 160, .inr (.inl (azl lm)))), (bo, .inl (cB, 4096, .inl (az fb))), (cu, .inr (4, [.ref cd, .int (iz nc), .int (iz pp)])), (cd, .inl (cB, 1300, .inl (az fc)))] H := hP
    have hD : va_D (AM mo rs ex xd li bo cu cd) [(mo, .inr (3, [.ref rs, .int (iz len), .int (iz co), .ref ex, .int (iz bi), .int (iz le), .ref li, .int (iz used), .ref bo, .int (iz bl), .ref cu])), (rs, .inl (cB, 4096, .inl (az fr))), (ex, .inr (4, [.ref xd, .int (iz ne), .int (iz pe)])), (xd, .inl (cB, 1300, .inl (az fe))), (li, .inl (cL, 160, .inr (.inl (azl lm)))), (bo, .inl (cB, 4096, .inl (az fb))), (cu, .inr (4, [.ref cd, .int (iz nc), .int (iz pp)])), (cd, .inl (cB, 1300, .inl (az fc)))] := hD
    refine z_go (va_runV (As := [.int (iz 101)]) (rest := []) ⟨hx, hb, hml, hown, hts⟩ hct.2 (z_cwV hts w_Mo_add tw_474 (by decide)) (z_preV hct.1 (va_recv hK hP (ci := 3) (q0 := 0) rfl rfl) hw) rfl rfl hl.1 rfl (lv_room (Nat.le_of_ble_eq_true rfl)) d_Mo_sci_111 ⟨Nat.zero_le _, Nat.zero_le _⟩) hS (fun _ h9 => h9) (fun v9 t9 H locs hv9 hp9 hz9 hk9 hS => ?_)
    obtain ⟨rfl, hw⟩ := hp9
    have hw := MW.moved hv9.symm hw
    refine W.eq (g2 := F0 m 114 ls []) rfl ?_
    refine lv_aload_n hx hb d_Mo_sci_114 rfl (lv_at hl 0 rfl) ?_
    refine lv_iload hx hb d_Mo_sci_115 (lv_at hl 1 rfl) ?_
    refine z_if_ge (tgt := 125) hx hb d_Mo_sci_117 rfl ⟨by omega, by omega⟩ (fun hc117 => ?_) (fun hc117 => ?_)
    · refine lv_bipush (v := iz 43) hx hb d_Mo_sci_125 (by decide) ?_
      have hct := c_Mo_add l D cB cL mo rs ex xd li bo cu cd co bi le rt ((((bt ++ [48 + dgt Cx (lead Cx)]) ++ behL Cx (lead Cx - 1) cn pt) ++ [101])) V Cx (43) ⟨by omega, by omega⟩ (by (try simp only [List.length_append, List.length_cons, List.length_nil]); omega)
      have hw9 := hw
      obtain ⟨fc, nc, pp, ⟨len, used, bl, fr, fb, lm, fe, ne, pe, ⟨hK, hP, hD⟩, hrt, hbt, hE, hpe, hlm⟩, hC⟩ := hw9
      have hr1 := hrt.1
      have hr2 := hrt.2.1
      have hb1 := hbt.1
      have hb2 := hbt.2.1
      have hE1 := hE.1
      have hC1 := hC.1
      have hP : va_P D vwCl [(mo, .inr (3, [.ref rs, .int (iz len), .int (iz co), .ref ex, .int (iz bi), .int (iz le), .ref li, .int (iz used), .ref bo, .int (iz bl), .ref cu])), (rs, .inl (cB, 4096, .inl (az fr))), (ex, .inr (4, [.ref xd, .int (iz ne), .int (iz pe)])), (xd, .inl (cB, 1300, .inl (az fe))), (li, .inl (cL, 160, .inr (.inl (azl lm)))), (bo, .inl (cB, 4096, .inl (az fb))), (cu, .inr (4, [.ref cd, .int (iz nc), .int (iz pp)])), (cd, .inl (cB, 1300, .inl (az fc)))] H := hP
      have hD : va_D (AM mo rs ex xd li bo cu cd) [(mo, .inr (3, [.ref rs, .int (iz len), .int (iz co), .ref ex, .int (iz bi), .int (iz le), .ref li, .int (iz used), .ref bo, .int (iz bl), .ref cu])), (rs, .inl (cB, 4096, .inl (az fr))), (ex, .inr (4, [.ref xd, .int (iz ne), .int (iz pe)])), (xd, .inl (cB, 1300, .inl (az fe))), (li, .inl (cL, 160, .inr (.inl (azl lm)))), (bo, .inl (cB, 4096, .inl (az fb))), (cu, .inr (4, [.ref cd, .int (iz nc), .int (iz pp)])), (cd, .inl (cB, 1300, .inl (az fc)))] := hD
      refine z_go (va_runV (As := [.int (iz 43)]) (rest := []) ⟨hx, hb, hml, hown, hts⟩ hct.2 (z_cwV hts w_Mo_add tw_474 (by decide)) (z_preV hct.1 (va_recv hK hP (ci := 3) (q0 := 0) rfl rfl) hw) rfl rfl hl.1 rfl (lv_room (Nat.le_of_ble_eq_true rfl)) d_Mo_sci_127 ⟨Nat.zero_le _, Nat.zero_le _⟩) hS (fun _ h9 => h9) (fun v9 t9 H locs hv9 hp9 hz9 hk9 hS => ?_)
      obtain ⟨rfl, hw⟩ := hp9
      have hw := MW.moved hv9.symm hw
      refine W.eq (g2 := F0 m 130 ls []) rfl ?_
      refine lv_iload hx hb d_Mo_sci_130 (lv_at hl 1 rfl) ?_
      refine z_if_ge (tgt := 141) hx hb d_Mo_sci_132 rfl ⟨by omega, by omega⟩ (fun hc132 => ?_) (fun hc132 => ?_)
      · refine lv_iload hx hb d_Mo_sci_141 (lv_at hl 1 rfl) ?_
        refine z_ri (b := max (lead Cx) (-lead Cx)) (by omega) ?_
        refine lv_istore hx hb d_Mo_sci_143 hl (by decide) rfl (fun ls hl => ?_)
        have hl : lv_has ls 6 [(5, .int (iz (max (lead Cx) (-lead Cx)))), (0, .ref mo), (4, .int (iz (lead Cx)))] := hl
        refine lv_iload hx hb d_Mo_sci_145 (lv_at hl 0 rfl) ?_
        refine lv_bipush (v := iz 99) hx hb d_Mo_sci_147 (by decide) ?_
        refine z_icmp_le (tgt := 164) hx hb d_Mo_sci_149 rfl ⟨by omega, by omega⟩ ⟨by omega, by omega⟩ (fun hc149 => ?_) (fun hc149 => ?_)
        · refine lv_aload_n hx hb d_Mo_sci_164 rfl (lv_at hl 1 rfl) ?_
          refine lv_bipush (v := iz 48) hx hb d_Mo_sci_165 (by decide) ?_
          refine lv_iload hx hb d_Mo_sci_167 (lv_at hl 0 rfl) ?_
          refine lv_bipush (v := iz 10) hx hb d_Mo_sci_169 (by decide) ?_
          refine z_idiv hx hb d_Mo_sci_171 ⟨by omega, by omega⟩ ⟨by omega, by omega⟩ ?_
          refine lv_bipush (v := iz 10) hx hb d_Mo_sci_172 (by decide) ?_
          refine z_irem hx hb d_Mo_sci_174 ⟨by omega, by omega⟩ ⟨by omega, by omega⟩ ?_
          refine z_iadd hx hb d_Mo_sci_175 ?_
          have hct := c_Mo_add l D cB cL mo rs ex xd li bo cu cd co bi le rt (((((bt ++ [48 + dgt Cx (lead Cx)]) ++ behL Cx (lead Cx - 1) cn pt) ++ [101]) ++ [43])) V Cx (48 + (((max (lead Cx) (-lead Cx)) / 10) % 10)) ⟨by omega, by omega⟩ (by (try simp only [List.length_append, List.length_cons, List.length_nil]); omega)
          have hw9 := hw
          obtain ⟨fc, nc, pp, ⟨len, used, bl, fr, fb, lm, fe, ne, pe, ⟨hK, hP, hD⟩, hrt, hbt, hE, hpe, hlm⟩, hC⟩ := hw9
          have hr1 := hrt.1
          have hr2 := hrt.2.1
          have hb1 := hbt.1
          have hb2 := hbt.2.1
          have hE1 := hE.1
          have hC1 := hC.1
          have hP : va_P D vwCl [(mo, .inr (3, [.ref rs, .int (iz len), .int (iz co), .ref ex, .int (iz bi), .int (iz le), .ref li, .int (iz used), .ref bo, .int (iz bl), .ref cu])), (rs, .inl (cB, 4096, .inl (az fr))), (ex, .inr (4, [.ref xd, .int (iz ne), .int (iz pe)])), (xd, .inl (cB, 1300, .inl (az fe))), (li, .inl (cL, 160, .inr (.inl (azl lm)))), (bo, .inl (cB, 4096, .inl (az fb))), (cu, .inr (4, [.ref cd, .int (iz nc), .int (iz pp)])), (cd, .inl (cB, 1300, .inl (az fc)))] H := hP
          have hD : va_D (AM mo rs ex xd li bo cu cd) [(mo, .inr (3, [.ref rs, .int (iz len), .int (iz co), .ref ex, .int (iz bi), .int (iz le), .ref li, .int (iz used), .ref bo, .int (iz bl), .ref cu])), (rs, .inl (cB, 4096, .inl (az fr))), (ex, .inr (4, [.ref xd, .int (iz ne), .int (iz pe)])), (xd, .inl (cB, 1300, .inl (az fe))), (li, .inl (cL, 160, .inr (.inl (azl lm)))), (bo, .inl (cB, 4096, .inl (az fb))), (cu, .inr (4, [.ref cd, .int (iz nc), .int (iz pp)])), (cd, .inl (cB, 1300, .inl (az fc)))] := hD
          refine z_go (va_runV (As := [.int (iz (48 + (((max (lead Cx) (-lead Cx)) / 10) % 10)))]) (rest := []) ⟨hx, hb, hml, hown, hts⟩ hct.2 (z_cwV hts w_Mo_add tw_474 (by decide)) (z_preV hct.1 (va_recv hK hP (ci := 3) (q0 := 0) rfl rfl) hw) rfl rfl hl.1 rfl (lv_room (Nat.le_of_ble_eq_true rfl)) d_Mo_sci_176 ⟨Nat.zero_le _, Nat.zero_le _⟩) hS (fun _ h9 => h9) (fun v9 t9 H locs hv9 hp9 hz9 hk9 hS => ?_)
          obtain ⟨rfl, hw⟩ := hp9
          have hw := MW.moved hv9.symm hw
          refine W.eq (g2 := F0 m 179 ls []) rfl ?_
          refine lv_aload_n hx hb d_Mo_sci_179 rfl (lv_at hl 1 rfl) ?_
          refine lv_bipush (v := iz 48) hx hb d_Mo_sci_180 (by decide) ?_
          refine lv_iload hx hb d_Mo_sci_182 (lv_at hl 0 rfl) ?_
          refine lv_bipush (v := iz 10) hx hb d_Mo_sci_184 (by decide) ?_
          refine z_irem hx hb d_Mo_sci_186 ⟨by omega, by omega⟩ ⟨by omega, by omega⟩ ?_
          refine z_iadd hx hb d_Mo_sci_187 ?_
          have hct := c_Mo_add l D cB cL mo rs ex xd li bo cu cd co bi le rt ((((((bt ++ [48 + dgt Cx (lead Cx)]) ++ behL Cx (lead Cx - 1) cn pt) ++ [101]) ++ [43]) ++ [48 + (((max (lead Cx) (-lead Cx)) / 10) % 10)])) V Cx (48 + ((max (lead Cx) (-lead Cx)) % 10)) ⟨by omega, by omega⟩ (by (try simp only [List.length_append, List.length_cons, List.length_nil]); omega)
          have hw9 := hw
          obtain ⟨fc, nc, pp, ⟨len, used, bl, fr, fb, lm, fe, ne, pe, ⟨hK, hP, hD⟩, hrt, hbt, hE, hpe, hlm⟩, hC⟩ := hw9
          have hr1 := hrt.1
          have hr2 := hrt.2.1
          have hb1 := hbt.1
          have hb2 := hbt.2.1
          have hE1 := hE.1
          have hC1 := hC.1
          have hP : va_P D vwCl [(mo, .inr (3, [.ref rs, .int (iz len), .int (iz co), .ref ex, .int (iz bi), .int (iz le), .ref li, .int (iz used), .ref bo, .int (iz bl), .ref cu])), (rs, .inl (cB, 4096, .inl (az fr))), (ex, .inr (4, [.ref xd, .int (iz ne), .int (iz pe)])), (xd, .inl (cB, 1300, .inl (az fe))), (li, .inl (cL, 160, .inr (.inl (azl lm)))), (bo, .inl (cB, 4096, .inl (az fb))), (cu, .inr (4, [.ref cd, .int (iz nc), .int (iz pp)])), (cd, .inl (cB, 1300, .inl (az fc)))] H := hP
          have hD : va_D (AM mo rs ex xd li bo cu cd) [(mo, .inr (3, [.ref rs, .int (iz len), .int (iz co), .ref ex, .int (iz bi), .int (iz le), .ref li, .int (iz used), .ref bo, .int (iz bl), .ref cu])), (rs, .inl (cB, 4096, .inl (az fr))), (ex, .inr (4, [.ref xd, .int (iz ne), .int (iz pe)])), (xd, .inl (cB, 1300, .inl (az fe))), (li, .inl (cL, 160, .inr (.inl (azl lm)))), (bo, .inl (cB, 4096, .inl (az fb))), (cu, .inr (4, [.ref cd, .int (iz nc), .int (iz pp)])), (cd, .inl (cB, 1300, .inl (az fc)))] := hD
          refine z_go (va_runV (As := [.int (iz (48 + ((max (lead Cx) (-lead Cx)) % 10)))]) (rest := []) ⟨hx, hb, hml, hown, hts⟩ hct.2 (z_cwV hts w_Mo_add tw_474 (by decide)) (z_preV hct.1 (va_recv hK hP (ci := 3) (q0 := 0) rfl rfl) hw) rfl rfl hl.1 rfl (lv_room (Nat.le_of_ble_eq_true rfl)) d_Mo_sci_188 ⟨Nat.zero_le _, Nat.zero_le _⟩) hS (fun _ h9 => h9) (fun v9 t9 H locs hv9 hp9 hz9 hk9 hS => ?_)
          obtain ⟨rfl, hw⟩ := hp9
          have hw := MW.moved hv9.symm hw
          refine W.eq (g2 := F0 m 191 ls []) rfl ?_
          exact z_vret hx hb hr hlk hS (zR_st zSt_MW) ⟨rfl, by
              unfold sciL expL
              first
                | rw [if_pos (show lead Cx < 0 by omega)]
                | rw [if_neg (show ¬ lead Cx < 0 by omega)]
              first
                | rw [if_pos (show 100 ≤ max (lead Cx) (-lead Cx) by omega)]
                | rw [if_neg (show ¬ 100 ≤ max (lead Cx) (-lead Cx) by omega)]
              simpa [List.append_assoc] using hw⟩ d_Mo_sci_191
        · refine lv_aload_n hx hb d_Mo_sci_152 rfl (lv_at hl 1 rfl) ?_
          refine lv_bipush (v := iz 48) hx hb d_Mo_sci_153 (by decide) ?_
          refine lv_iload hx hb d_Mo_sci_155 (lv_at hl 0 rfl) ?_
          refine lv_bipush (v := iz 100) hx hb d_Mo_sci_157 (by decide) ?_
          refine z_idiv hx hb d_Mo_sci_159 ⟨by omega, by omega⟩ ⟨by omega, by omega⟩ ?_
          refine z_iadd hx hb d_Mo_sci_160 ?_
          have hct := c_Mo_add l D cB cL mo rs ex xd li bo cu cd co bi le rt (((((bt ++ [48 + dgt Cx (lead Cx)]) ++ behL Cx (lead Cx - 1) cn pt) ++ [101]) ++ [43])) V Cx (48 + ((max (lead Cx) (-lead Cx)) / 100)) ⟨by omega, by omega⟩ (by (try simp only [List.length_append, List.length_cons, List.length_nil]); omega)
          have hw9 := hw
          obtain ⟨fc, nc, pp, ⟨len, used, bl, fr, fb, lm, fe, ne, pe, ⟨hK, hP, hD⟩, hrt, hbt, hE, hpe, hlm⟩, hC⟩ := hw9
          have hr1 := hrt.1
          have hr2 := hrt.2.1
          have hb1 := hbt.1
          have hb2 := hbt.2.1
          have hE1 := hE.1
          have hC1 := hC.1
          have hP : va_P D vwCl [(mo, .inr (3, [.ref rs, .int (iz len), .int (iz co), .ref ex, .int (iz bi), .int (iz le), .ref li, .int (iz used), .ref bo, .int (iz bl), .ref cu])), (rs, .inl (cB, 4096, .inl (az fr))), (ex, .inr (4, [.ref xd, .int (iz ne), .int (iz pe)])), (xd, .inl (cB, 1300, .inl (az fe))), (li, .inl (cL, 160, .inr (.inl (azl lm)))), (bo, .inl (cB, 4096, .inl (az fb))), (cu, .inr (4, [.ref cd, .int (iz nc), .int (iz pp)])), (cd, .inl (cB, 1300, .inl (az fc)))] H := hP
          have hD : va_D (AM mo rs ex xd li bo cu cd) [(mo, .inr (3, [.ref rs, .int (iz len), .int (iz co), .ref ex, .int (iz bi), .int (iz le), .ref li, .int (iz used), .ref bo, .int (iz bl), .ref cu])), (rs, .inl (cB, 4096, .inl (az fr))), (ex, .inr (4, [.ref xd, .int (iz ne), .int (iz pe)])), (xd, .inl (cB, 1300, .inl (az fe))), (li, .inl (cL, 160, .inr (.inl (azl lm)))), (bo, .inl (cB, 4096, .inl (az fb))), (cu, .inr (4, [.ref cd, .int (iz nc), .int (iz pp)])), (cd, .inl (cB, 1300, .inl (az fc)))] := hD
          refine z_go (va_runV (As := [.int (iz (48 + ((max (lead Cx) (-lead Cx)) / 100)))]) (rest := []) ⟨hx, hb, hml, hown, hts⟩ hct.2 (z_cwV hts w_Mo_add tw_474 (by decide)) (z_preV hct.1 (va_recv hK hP (ci := 3) (q0 := 0) rfl rfl) hw) rfl rfl hl.1 rfl (lv_room (Nat.le_of_ble_eq_true rfl)) d_Mo_sci_161 ⟨Nat.zero_le _, Nat.zero_le _⟩) hS (fun _ h9 => h9) (fun v9 t9 H locs hv9 hp9 hz9 hk9 hS => ?_)
          obtain ⟨rfl, hw⟩ := hp9
          have hw := MW.moved hv9.symm hw
          refine W.eq (g2 := F0 m 164 ls []) rfl ?_
          refine lv_aload_n hx hb d_Mo_sci_164 rfl (lv_at hl 1 rfl) ?_
          refine lv_bipush (v := iz 48) hx hb d_Mo_sci_165 (by decide) ?_
          refine lv_iload hx hb d_Mo_sci_167 (lv_at hl 0 rfl) ?_
          refine lv_bipush (v := iz 10) hx hb d_Mo_sci_169 (by decide) ?_
          refine z_idiv hx hb d_Mo_sci_171 ⟨by omega, by omega⟩ ⟨by omega, by omega⟩ ?_
          refine lv_bipush (v := iz 10) hx hb d_Mo_sci_172 (by decide) ?_
          refine z_irem hx hb d_Mo_sci_174 ⟨by omega, by omega⟩ ⟨by omega, by omega⟩ ?_
          refine z_iadd hx hb d_Mo_sci_175 ?_
          have hct := c_Mo_add l D cB cL mo rs ex xd li bo cu cd co bi le rt ((((((bt ++ [48 + dgt Cx (lead Cx)]) ++ behL Cx (lead Cx - 1) cn pt) ++ [101]) ++ [43]) ++ [48 + ((max (lead Cx) (-lead Cx)) / 100)])) V Cx (48 + (((max (lead Cx) (-lead Cx)) / 10) % 10)) ⟨by omega, by omega⟩ (by (try simp only [List.length_append, List.length_cons, List.length_nil]); omega)
          have hw9 := hw
          obtain ⟨fc, nc, pp, ⟨len, used, bl, fr, fb, lm, fe, ne, pe, ⟨hK, hP, hD⟩, hrt, hbt, hE, hpe, hlm⟩, hC⟩ := hw9
          have hr1 := hrt.1
          have hr2 := hrt.2.1
          have hb1 := hbt.1
          have hb2 := hbt.2.1
          have hE1 := hE.1
          have hC1 := hC.1
          have hP : va_P D vwCl [(mo, .inr (3, [.ref rs, .int (iz len), .int (iz co), .ref ex, .int (iz bi), .int (iz le), .ref li, .int (iz used), .ref bo, .int (iz bl), .ref cu])), (rs, .inl (cB, 4096, .inl (az fr))), (ex, .inr (4, [.ref xd, .int (iz ne), .int (iz pe)])), (xd, .inl (cB, 1300, .inl (az fe))), (li, .inl (cL, 160, .inr (.inl (azl lm)))), (bo, .inl (cB, 4096, .inl (az fb))), (cu, .inr (4, [.ref cd, .int (iz nc), .int (iz pp)])), (cd, .inl (cB, 1300, .inl (az fc)))] H := hP
          have hD : va_D (AM mo rs ex xd li bo cu cd) [(mo, .inr (3, [.ref rs, .int (iz len), .int (iz co), .ref ex, .int (iz bi), .int (iz le), .ref li, .int (iz used), .ref bo, .int (iz bl), .ref cu])), (rs, .inl (cB, 4096, .inl (az fr))), (ex, .inr (4, [.ref xd, .int (iz ne), .int (iz pe)])), (xd, .inl (cB, 1300, .inl (az fe))), (li, .inl (cL, 160, .inr (.inl (azl lm)))), (bo, .inl (cB, 4096, .inl (az fb))), (cu, .inr (4, [.ref cd, .int (iz nc), .int (iz pp)])), (cd, .inl (cB, 1300, .inl (az fc)))] := hD
          refine z_go (va_runV (As := [.int (iz (48 + (((max (lead Cx) (-lead Cx)) / 10) % 10)))]) (rest := []) ⟨hx, hb, hml, hown, hts⟩ hct.2 (z_cwV hts w_Mo_add tw_474 (by decide)) (z_preV hct.1 (va_recv hK hP (ci := 3) (q0 := 0) rfl rfl) hw) rfl rfl hl.1 rfl (lv_room (Nat.le_of_ble_eq_true rfl)) d_Mo_sci_176 ⟨Nat.zero_le _, Nat.zero_le _⟩) hS (fun _ h9 => h9) (fun v9 t9 H locs hv9 hp9 hz9 hk9 hS => ?_)
          obtain ⟨rfl, hw⟩ := hp9
          have hw := MW.moved hv9.symm hw
          refine W.eq (g2 := F0 m 179 ls []) rfl ?_
          refine lv_aload_n hx hb d_Mo_sci_179 rfl (lv_at hl 1 rfl) ?_
          refine lv_bipush (v := iz 48) hx hb d_Mo_sci_180 (by decide) ?_
          refine lv_iload hx hb d_Mo_sci_182 (lv_at hl 0 rfl) ?_
          refine lv_bipush (v := iz 10) hx hb d_Mo_sci_184 (by decide) ?_
          refine z_irem hx hb d_Mo_sci_186 ⟨by omega, by omega⟩ ⟨by omega, by omega⟩ ?_
          refine z_iadd hx hb d_Mo_sci_187 ?_
          have hct := c_Mo_add l D cB cL mo rs ex xd li bo cu cd co bi le rt (((((((bt ++ [48 + dgt Cx (lead Cx)]) ++ behL Cx (lead Cx - 1) cn pt) ++ [101]) ++ [43]) ++ [48 + ((max (lead Cx) (-lead Cx)) / 100)]) ++ [48 + (((max (lead Cx) (-lead Cx)) / 10) % 10)])) V Cx (48 + ((max (lead Cx) (-lead Cx)) % 10)) ⟨by omega, by omega⟩ (by (try simp only [List.length_append, List.length_cons, List.length_nil]); omega)
          have hw9 := hw
          obtain ⟨fc, nc, pp, ⟨len, used, bl, fr, fb, lm, fe, ne, pe, ⟨hK, hP, hD⟩, hrt, hbt, hE, hpe, hlm⟩, hC⟩ := hw9
          have hr1 := hrt.1
          have hr2 := hrt.2.1
          have hb1 := hbt.1
          have hb2 := hbt.2.1
          have hE1 := hE.1
          have hC1 := hC.1
          have hP : va_P D vwCl [(mo, .inr (3, [.ref rs, .int (iz len), .int (iz co), .ref ex, .int (iz bi), .int (iz le), .ref li, .int (iz used), .ref bo, .int (iz bl), .ref cu])), (rs, .inl (cB, 4096, .inl (az fr))), (ex, .inr (4, [.ref xd, .int (iz ne), .int (iz pe)])), (xd, .inl (cB, 1300, .inl (az fe))), (li, .inl (cL, 160, .inr (.inl (azl lm)))), (bo, .inl (cB, 4096, .inl (az fb))), (cu, .inr (4, [.ref cd, .int (iz nc), .int (iz pp)])), (cd, .inl (cB, 1300, .inl (az fc)))] H := hP
          have hD : va_D (AM mo rs ex xd li bo cu cd) [(mo, .inr (3, [.ref rs, .int (iz len), .int (iz co), .ref ex, .int (iz bi), .int (iz le), .ref li, .int (iz used), .ref bo, .int (iz bl), .ref cu])), (rs, .inl (cB, 4096, .inl (az fr))), (ex, .inr (4, [.ref xd, .int (iz ne), .int (iz pe)])), (xd, .inl (cB, 1300, .inl (az fe))), (li, .inl (cL, 160, .inr (.inl (azl lm)))), (bo, .inl (cB, 4096, .inl (az fb))), (cu, .inr (4, [.ref cd, .int (iz nc), .int (iz pp)])), (cd, .inl (cB, 1300, .inl (az fc)))] := hD
          refine z_go (va_runV (As := [.int (iz (48 + ((max (lead Cx) (-lead Cx)) % 10)))]) (rest := []) ⟨hx, hb, hml, hown, hts⟩ hct.2 (z_cwV hts w_Mo_add tw_474 (by decide)) (z_preV hct.1 (va_recv hK hP (ci := 3) (q0 := 0) rfl rfl) hw) rfl rfl hl.1 rfl (lv_room (Nat.le_of_ble_eq_true rfl)) d_Mo_sci_188 ⟨Nat.zero_le _, Nat.zero_le _⟩) hS (fun _ h9 => h9) (fun v9 t9 H locs hv9 hp9 hz9 hk9 hS => ?_)
          obtain ⟨rfl, hw⟩ := hp9
          have hw := MW.moved hv9.symm hw
          refine W.eq (g2 := F0 m 191 ls []) rfl ?_
          exact z_vret hx hb hr hlk hS (zR_st zSt_MW) ⟨rfl, by
              unfold sciL expL
              first
                | rw [if_pos (show lead Cx < 0 by omega)]
                | rw [if_neg (show ¬ lead Cx < 0 by omega)]
              first
                | rw [if_pos (show 100 ≤ max (lead Cx) (-lead Cx) by omega)]
                | rw [if_neg (show ¬ 100 ≤ max (lead Cx) (-lead Cx) by omega)]
              simpa [List.append_assoc] using hw⟩ d_Mo_sci_191
      · exfalso
        omega
    · refine lv_bipush (v := iz 45) hx hb d_Mo_sci_120 (by decide) ?_
      refine lv_goto (tgt := 127) hx hb d_Mo_sci_122 rfl ?_
      have hct := c_Mo_add l D cB cL mo rs ex xd li bo cu cd co bi le rt ((((bt ++ [48 + dgt Cx (lead Cx)]) ++ behL Cx (lead Cx - 1) cn pt) ++ [101])) V Cx (45) ⟨by omega, by omega⟩ (by (try simp only [List.length_append, List.length_cons, List.length_nil]); omega)
      have hw9 := hw
      obtain ⟨fc, nc, pp, ⟨len, used, bl, fr, fb, lm, fe, ne, pe, ⟨hK, hP, hD⟩, hrt, hbt, hE, hpe, hlm⟩, hC⟩ := hw9
      have hr1 := hrt.1
      have hr2 := hrt.2.1
      have hb1 := hbt.1
      have hb2 := hbt.2.1
      have hE1 := hE.1
      have hC1 := hC.1
      have hP : va_P D vwCl [(mo, .inr (3, [.ref rs, .int (iz len), .int (iz co), .ref ex, .int (iz bi), .int (iz le), .ref li, .int (iz used), .ref bo, .int (iz bl), .ref cu])), (rs, .inl (cB, 4096, .inl (az fr))), (ex, .inr (4, [.ref xd, .int (iz ne), .int (iz pe)])), (xd, .inl (cB, 1300, .inl (az fe))), (li, .inl (cL, 160, .inr (.inl (azl lm)))), (bo, .inl (cB, 4096, .inl (az fb))), (cu, .inr (4, [.ref cd, .int (iz nc), .int (iz pp)])), (cd, .inl (cB, 1300, .inl (az fc)))] H := hP
      have hD : va_D (AM mo rs ex xd li bo cu cd) [(mo, .inr (3, [.ref rs, .int (iz len), .int (iz co), .ref ex, .int (iz bi), .int (iz le), .ref li, .int (iz used), .ref bo, .int (iz bl), .ref cu])), (rs, .inl (cB, 4096, .inl (az fr))), (ex, .inr (4, [.ref xd, .int (iz ne), .int (iz pe)])), (xd, .inl (cB, 1300, .inl (az fe))), (li, .inl (cL, 160, .inr (.inl (azl lm)))), (bo, .inl (cB, 4096, .inl (az fb))), (cu, .inr (4, [.ref cd, .int (iz nc), .int (iz pp)])), (cd, .inl (cB, 1300, .inl (az fc)))] := hD
      refine z_go (va_runV (As := [.int (iz 45)]) (rest := []) ⟨hx, hb, hml, hown, hts⟩ hct.2 (z_cwV hts w_Mo_add tw_474 (by decide)) (z_preV hct.1 (va_recv hK hP (ci := 3) (q0 := 0) rfl rfl) hw) rfl rfl hl.1 rfl (lv_room (Nat.le_of_ble_eq_true rfl)) d_Mo_sci_127 ⟨Nat.zero_le _, Nat.zero_le _⟩) hS (fun _ h9 => h9) (fun v9 t9 H locs hv9 hp9 hz9 hk9 hS => ?_)
      obtain ⟨rfl, hw⟩ := hp9
      have hw := MW.moved hv9.symm hw
      refine W.eq (g2 := F0 m 130 ls []) rfl ?_
      refine lv_iload hx hb d_Mo_sci_130 (lv_at hl 1 rfl) ?_
      refine z_if_ge (tgt := 141) hx hb d_Mo_sci_132 rfl ⟨by omega, by omega⟩ (fun hc132 => ?_) (fun hc132 => ?_)
      · exfalso
        omega
      · refine lv_iload hx hb d_Mo_sci_135 (lv_at hl 1 rfl) ?_
        refine z_ineg hx hb d_Mo_sci_137 ?_
        refine z_ri (b := max (lead Cx) (-lead Cx)) (by omega) ?_
        refine lv_goto (tgt := 143) hx hb d_Mo_sci_138 rfl ?_
        refine lv_istore hx hb d_Mo_sci_143 hl (by decide) rfl (fun ls hl => ?_)
        have hl : lv_has ls 6 [(5, .int (iz (max (lead Cx) (-lead Cx)))), (0, .ref mo), (4, .int (iz (lead Cx)))] := hl
        refine lv_iload hx hb d_Mo_sci_145 (lv_at hl 0 rfl) ?_
        refine lv_bipush (v := iz 99) hx hb d_Mo_sci_147 (by decide) ?_
        refine z_icmp_le (tgt := 164) hx hb d_Mo_sci_149 rfl ⟨by omega, by omega⟩ ⟨by omega, by omega⟩ (fun hc149 => ?_) (fun hc149 => ?_)
        · refine lv_aload_n hx hb d_Mo_sci_164 rfl (lv_at hl 1 rfl) ?_
          refine lv_bipush (v := iz 48) hx hb d_Mo_sci_165 (by decide) ?_
          refine lv_iload hx hb d_Mo_sci_167 (lv_at hl 0 rfl) ?_
          refine lv_bipush (v := iz 10) hx hb d_Mo_sci_169 (by decide) ?_
          refine z_idiv hx hb d_Mo_sci_171 ⟨by omega, by omega⟩ ⟨by omega, by omega⟩ ?_
          refine lv_bipush (v := iz 10) hx hb d_Mo_sci_172 (by decide) ?_
          refine z_irem hx hb d_Mo_sci_174 ⟨by omega, by omega⟩ ⟨by omega, by omega⟩ ?_
          refine z_iadd hx hb d_Mo_sci_175 ?_
          have hct := c_Mo_add l D cB cL mo rs ex xd li bo cu cd co bi le rt (((((bt ++ [48 + dgt Cx (lead Cx)]) ++ behL Cx (lead Cx - 1) cn pt) ++ [101]) ++ [45])) V Cx (48 + (((max (lead Cx) (-lead Cx)) / 10) % 10)) ⟨by omega, by omega⟩ (by (try simp only [List.length_append, List.length_cons, List.length_nil]); omega)
          have hw9 := hw
          obtain ⟨fc, nc, pp, ⟨len, used, bl, fr, fb, lm, fe, ne, pe, ⟨hK, hP, hD⟩, hrt, hbt, hE, hpe, hlm⟩, hC⟩ := hw9
          have hr1 := hrt.1
          have hr2 := hrt.2.1
          have hb1 := hbt.1
          have hb2 := hbt.2.1
          have hE1 := hE.1
          have hC1 := hC.1
          have hP : va_P D vwCl [(mo, .inr (3, [.ref rs, .int (iz len), .int (iz co), .ref ex, .int (iz bi), .int (iz le), .ref li, .int (iz used), .ref bo, .int (iz bl), .ref cu])), (rs, .inl (cB, 4096, .inl (az fr))), (ex, .inr (4, [.ref xd, .int (iz ne), .int (iz pe)])), (xd, .inl (cB, 1300, .inl (az fe))), (li, .inl (cL, 160, .inr (.inl (azl lm)))), (bo, .inl (cB, 4096, .inl (az fb))), (cu, .inr (4, [.ref cd, .int (iz nc), .int (iz pp)])), (cd, .inl (cB, 1300, .inl (az fc)))] H := hP
          have hD : va_D (AM mo rs ex xd li bo cu cd) [(mo, .inr (3, [.ref rs, .int (iz len), .int (iz co), .ref ex, .int (iz bi), .int (iz le), .ref li, .int (iz used), .ref bo, .int (iz bl), .ref cu])), (rs, .inl (cB, 4096, .inl (az fr))), (ex, .inr (4, [.ref xd, .int (iz ne), .int (iz pe)])), (xd, .inl (cB, 1300, .inl (az fe))), (li, .inl (cL, 160, .inr (.inl (azl lm)))), (bo, .inl (cB, 4096, .inl (az fb))), (cu, .inr (4, [.ref cd, .int (iz nc), .int (iz pp)])), (cd, .inl (cB, 1300, .inl (az fc)))] := hD
          refine z_go (va_runV (As := [.int (iz (48 + (((max (lead Cx) (-lead Cx)) / 10) % 10)))]) (rest := []) ⟨hx, hb, hml, hown, hts⟩ hct.2 (z_cwV hts w_Mo_add tw_474 (by decide)) (z_preV hct.1 (va_recv hK hP (ci := 3) (q0 := 0) rfl rfl) hw) rfl rfl hl.1 rfl (lv_room (Nat.le_of_ble_eq_true rfl)) d_Mo_sci_176 ⟨Nat.zero_le _, Nat.zero_le _⟩) hS (fun _ h9 => h9) (fun v9 t9 H locs hv9 hp9 hz9 hk9 hS => ?_)
          obtain ⟨rfl, hw⟩ := hp9
          have hw := MW.moved hv9.symm hw
          refine W.eq (g2 := F0 m 179 ls []) rfl ?_
          refine lv_aload_n hx hb d_Mo_sci_179 rfl (lv_at hl 1 rfl) ?_
          refine lv_bipush (v := iz 48) hx hb d_Mo_sci_180 (by decide) ?_
          refine lv_iload hx hb d_Mo_sci_182 (lv_at hl 0 rfl) ?_
          refine lv_bipush (v := iz 10) hx hb d_Mo_sci_184 (by decide) ?_
          refine z_irem hx hb d_Mo_sci_186 ⟨by omega, by omega⟩ ⟨by omega, by omega⟩ ?_
          refine z_iadd hx hb d_Mo_sci_187 ?_
          have hct := c_Mo_add l D cB cL mo rs ex xd li bo cu cd co bi le rt ((((((bt ++ [48 + dgt Cx (lead Cx)]) ++ behL Cx (lead Cx - 1) cn pt) ++ [101]) ++ [45]) ++ [48 + (((max (lead Cx) (-lead Cx)) / 10) % 10)])) V Cx (48 + ((max (lead Cx) (-lead Cx)) % 10)) ⟨by omega, by omega⟩ (by (try simp only [List.length_append, List.length_cons, List.length_nil]); omega)
          have hw9 := hw
          obtain ⟨fc, nc, pp, ⟨len, used, bl, fr, fb, lm, fe, ne, pe, ⟨hK, hP, hD⟩, hrt, hbt, hE, hpe, hlm⟩, hC⟩ := hw9
          have hr1 := hrt.1
          have hr2 := hrt.2.1
          have hb1 := hbt.1
          have hb2 := hbt.2.1
          have hE1 := hE.1
          have hC1 := hC.1
          have hP : va_P D vwCl [(mo, .inr (3, [.ref rs, .int (iz len), .int (iz co), .ref ex, .int (iz bi), .int (iz le), .ref li, .int (iz used), .ref bo, .int (iz bl), .ref cu])), (rs, .inl (cB, 4096, .inl (az fr))), (ex, .inr (4, [.ref xd, .int (iz ne), .int (iz pe)])), (xd, .inl (cB, 1300, .inl (az fe))), (li, .inl (cL, 160, .inr (.inl (azl lm)))), (bo, .inl (cB, 4096, .inl (az fb))), (cu, .inr (4, [.ref cd, .int (iz nc), .int (iz pp)])), (cd, .inl (cB, 1300, .inl (az fc)))] H := hP
          have hD : va_D (AM mo rs ex xd li bo cu cd) [(mo, .inr (3, [.ref rs, .int (iz len), .int (iz co), .ref ex, .int (iz bi), .int (iz le), .ref li, .int (iz used), .ref bo, .int (iz bl), .ref cu])), (rs, .inl (cB, 4096, .inl (az fr))), (ex, .inr (4, [.ref xd, .int (iz ne), .int (iz pe)])), (xd, .inl (cB, 1300, .inl (az fe))), (li, .inl (cL, 160, .inr (.inl (azl lm)))), (bo, .inl (cB, 4096, .inl (az fb))), (cu, .inr (4, [.ref cd, .int (iz nc), .int (iz pp)])), (cd, .inl (cB, 1300, .inl (az fc)))] := hD
          refine z_go (va_runV (As := [.int (iz (48 + ((max (lead Cx) (-lead Cx)) % 10)))]) (rest := []) ⟨hx, hb, hml, hown, hts⟩ hct.2 (z_cwV hts w_Mo_add tw_474 (by decide)) (z_preV hct.1 (va_recv hK hP (ci := 3) (q0 := 0) rfl rfl) hw) rfl rfl hl.1 rfl (lv_room (Nat.le_of_ble_eq_true rfl)) d_Mo_sci_188 ⟨Nat.zero_le _, Nat.zero_le _⟩) hS (fun _ h9 => h9) (fun v9 t9 H locs hv9 hp9 hz9 hk9 hS => ?_)
          obtain ⟨rfl, hw⟩ := hp9
          have hw := MW.moved hv9.symm hw
          refine W.eq (g2 := F0 m 191 ls []) rfl ?_
          exact z_vret hx hb hr hlk hS (zR_st zSt_MW) ⟨rfl, by
              unfold sciL expL
              first
                | rw [if_pos (show lead Cx < 0 by omega)]
                | rw [if_neg (show ¬ lead Cx < 0 by omega)]
              first
                | rw [if_pos (show 100 ≤ max (lead Cx) (-lead Cx) by omega)]
                | rw [if_neg (show ¬ 100 ≤ max (lead Cx) (-lead Cx) by omega)]
              simpa [List.append_assoc] using hw⟩ d_Mo_sci_191
        · refine lv_aload_n hx hb d_Mo_sci_152 rfl (lv_at hl 1 rfl) ?_
          refine lv_bipush (v := iz 48) hx hb d_Mo_sci_153 (by decide) ?_
          refine lv_iload hx hb d_Mo_sci_155 (lv_at hl 0 rfl) ?_
          refine lv_bipush (v := iz 100) hx hb d_Mo_sci_157 (by decide) ?_
          refine z_idiv hx hb d_Mo_sci_159 ⟨by omega, by omega⟩ ⟨by omega, by omega⟩ ?_
          refine z_iadd hx hb d_Mo_sci_160 ?_
          have hct := c_Mo_add l D cB cL mo rs ex xd li bo cu cd co bi le rt (((((bt ++ [48 + dgt Cx (lead Cx)]) ++ behL Cx (lead Cx - 1) cn pt) ++ [101]) ++ [45])) V Cx (48 + ((max (lead Cx) (-lead Cx)) / 100)) ⟨by omega, by omega⟩ (by (try simp only [List.length_append, List.length_cons, List.length_nil]); omega)
          have hw9 := hw
          obtain ⟨fc, nc, pp, ⟨len, used, bl, fr, fb, lm, fe, ne, pe, ⟨hK, hP, hD⟩, hrt, hbt, hE, hpe, hlm⟩, hC⟩ := hw9
          have hr1 := hrt.1
          have hr2 := hrt.2.1
          have hb1 := hbt.1
          have hb2 := hbt.2.1
          have hE1 := hE.1
          have hC1 := hC.1
          have hP : va_P D vwCl [(mo, .inr (3, [.ref rs, .int (iz len), .int (iz co), .ref ex, .int (iz bi), .int (iz le), .ref li, .int (iz used), .ref bo, .int (iz bl), .ref cu])), (rs, .inl (cB, 4096, .inl (az fr))), (ex, .inr (4, [.ref xd, .int (iz ne), .int (iz pe)])), (xd, .inl (cB, 1300, .inl (az fe))), (li, .inl (cL, 160, .inr (.inl (azl lm)))), (bo, .inl (cB, 4096, .inl (az fb))), (cu, .inr (4, [.ref cd, .int (iz nc), .int (iz pp)])), (cd, .inl (cB, 1300, .inl (az fc)))] H := hP
          have hD : va_D (AM mo rs ex xd li bo cu cd) [(mo, .inr (3, [.ref rs, .int (iz len), .int (iz co), .ref ex, .int (iz bi), .int (iz le), .ref li, .int (iz used), .ref bo, .int (iz bl), .ref cu])), (rs, .inl (cB, 4096, .inl (az fr))), (ex, .inr (4, [.ref xd, .int (iz ne), .int (iz pe)])), (xd, .inl (cB, 1300, .inl (az fe))), (li, .inl (cL, 160, .inr (.inl (azl lm)))), (bo, .inl (cB, 4096, .inl (az fb))), (cu, .inr (4, [.ref cd, .int (iz nc), .int (iz pp)])), (cd, .inl (cB, 1300, .inl (az fc)))] := hD
          refine z_go (va_runV (As := [.int (iz (48 + ((max (lead Cx) (-lead Cx)) / 100)))]) (rest := []) ⟨hx, hb, hml, hown, hts⟩ hct.2 (z_cwV hts w_Mo_add tw_474 (by decide)) (z_preV hct.1 (va_recv hK hP (ci := 3) (q0 := 0) rfl rfl) hw) rfl rfl hl.1 rfl (lv_room (Nat.le_of_ble_eq_true rfl)) d_Mo_sci_161 ⟨Nat.zero_le _, Nat.zero_le _⟩) hS (fun _ h9 => h9) (fun v9 t9 H locs hv9 hp9 hz9 hk9 hS => ?_)
          obtain ⟨rfl, hw⟩ := hp9
          have hw := MW.moved hv9.symm hw
          refine W.eq (g2 := F0 m 164 ls []) rfl ?_
          refine lv_aload_n hx hb d_Mo_sci_164 rfl (lv_at hl 1 rfl) ?_
          refine lv_bipush (v := iz 48) hx hb d_Mo_sci_165 (by decide) ?_
          refine lv_iload hx hb d_Mo_sci_167 (lv_at hl 0 rfl) ?_
          refine lv_bipush (v := iz 10) hx hb d_Mo_sci_169 (by decide) ?_
          refine z_idiv hx hb d_Mo_sci_171 ⟨by omega, by omega⟩ ⟨by omega, by omega⟩ ?_
          refine lv_bipush (v := iz 10) hx hb d_Mo_sci_172 (by decide) ?_
          refine z_irem hx hb d_Mo_sci_174 ⟨by omega, by omega⟩ ⟨by omega, by omega⟩ ?_
          refine z_iadd hx hb d_Mo_sci_175 ?_
          have hct := c_Mo_add l D cB cL mo rs ex xd li bo cu cd co bi le rt ((((((bt ++ [48 + dgt Cx (lead Cx)]) ++ behL Cx (lead Cx - 1) cn pt) ++ [101]) ++ [45]) ++ [48 + ((max (lead Cx) (-lead Cx)) / 100)])) V Cx (48 + (((max (lead Cx) (-lead Cx)) / 10) % 10)) ⟨by omega, by omega⟩ (by (try simp only [List.length_append, List.length_cons, List.length_nil]); omega)
          have hw9 := hw
          obtain ⟨fc, nc, pp, ⟨len, used, bl, fr, fb, lm, fe, ne, pe, ⟨hK, hP, hD⟩, hrt, hbt, hE, hpe, hlm⟩, hC⟩ := hw9
          have hr1 := hrt.1
          have hr2 := hrt.2.1
          have hb1 := hbt.1
          have hb2 := hbt.2.1
          have hE1 := hE.1
          have hC1 := hC.1
          have hP : va_P D vwCl [(mo, .inr (3, [.ref rs, .int (iz len), .int (iz co), .ref ex, .int (iz bi), .int (iz le), .ref li, .int (iz used), .ref bo, .int (iz bl), .ref cu])), (rs, .inl (cB, 4096, .inl (az fr))), (ex, .inr (4, [.ref xd, .int (iz ne), .int (iz pe)])), (xd, .inl (cB, 1300, .inl (az fe))), (li, .inl (cL, 160, .inr (.inl (azl lm)))), (bo, .inl (cB, 4096, .inl (az fb))), (cu, .inr (4, [.ref cd, .int (iz nc), .int (iz pp)])), (cd, .inl (cB, 1300, .inl (az fc)))] H := hP
          have hD : va_D (AM mo rs ex xd li bo cu cd) [(mo, .inr (3, [.ref rs, .int (iz len), .int (iz co), .ref ex, .int (iz bi), .int (iz le), .ref li, .int (iz used), .ref bo, .int (iz bl), .ref cu])), (rs, .inl (cB, 4096, .inl (az fr))), (ex, .inr (4, [.ref xd, .int (iz ne), .int (iz pe)])), (xd, .inl (cB, 1300, .inl (az fe))), (li, .inl (cL, 160, .inr (.inl (azl lm)))), (bo, .inl (cB, 4096, .inl (az fb))), (cu, .inr (4, [.ref cd, .int (iz nc), .int (iz pp)])), (cd, .inl (cB, 1300, .inl (az fc)))] := hD
          refine z_go (va_runV (As := [.int (iz (48 + (((max (lead Cx) (-lead Cx)) / 10) % 10)))]) (rest := []) ⟨hx, hb, hml, hown, hts⟩ hct.2 (z_cwV hts w_Mo_add tw_474 (by decide)) (z_preV hct.1 (va_recv hK hP (ci := 3) (q0 := 0) rfl rfl) hw) rfl rfl hl.1 rfl (lv_room (Nat.le_of_ble_eq_true rfl)) d_Mo_sci_176 ⟨Nat.zero_le _, Nat.zero_le _⟩) hS (fun _ h9 => h9) (fun v9 t9 H locs hv9 hp9 hz9 hk9 hS => ?_)
          obtain ⟨rfl, hw⟩ := hp9
          have hw := MW.moved hv9.symm hw
          refine W.eq (g2 := F0 m 179 ls []) rfl ?_
          refine lv_aload_n hx hb d_Mo_sci_179 rfl (lv_at hl 1 rfl) ?_
          refine lv_bipush (v := iz 48) hx hb d_Mo_sci_180 (by decide) ?_
          refine lv_iload hx hb d_Mo_sci_182 (lv_at hl 0 rfl) ?_
          refine lv_bipush (v := iz 10) hx hb d_Mo_sci_184 (by decide) ?_
          refine z_irem hx hb d_Mo_sci_186 ⟨by omega, by omega⟩ ⟨by omega, by omega⟩ ?_
          refine z_iadd hx hb d_Mo_sci_187 ?_
          have hct := c_Mo_add l D cB cL mo rs ex xd li bo cu cd co bi le rt (((((((bt ++ [48 + dgt Cx (lead Cx)]) ++ behL Cx (lead Cx - 1) cn pt) ++ [101]) ++ [45]) ++ [48 + ((max (lead Cx) (-lead Cx)) / 100)]) ++ [48 + (((max (lead Cx) (-lead Cx)) / 10) % 10)])) V Cx (48 + ((max (lead Cx) (-lead Cx)) % 10)) ⟨by omega, by omega⟩ (by (try simp only [List.length_append, List.length_cons, List.length_nil]); omega)
          have hw9 := hw
          obtain ⟨fc, nc, pp, ⟨len, used, bl, fr, fb, lm, fe, ne, pe, ⟨hK, hP, hD⟩, hrt, hbt, hE, hpe, hlm⟩, hC⟩ := hw9
          have hr1 := hrt.1
          have hr2 := hrt.2.1
          have hb1 := hbt.1
          have hb2 := hbt.2.1
          have hE1 := hE.1
          have hC1 := hC.1
          have hP : va_P D vwCl [(mo, .inr (3, [.ref rs, .int (iz len), .int (iz co), .ref ex, .int (iz bi), .int (iz le), .ref li, .int (iz used), .ref bo, .int (iz bl), .ref cu])), (rs, .inl (cB, 4096, .inl (az fr))), (ex, .inr (4, [.ref xd, .int (iz ne), .int (iz pe)])), (xd, .inl (cB, 1300, .inl (az fe))), (li, .inl (cL, 160, .inr (.inl (azl lm)))), (bo, .inl (cB, 4096, .inl (az fb))), (cu, .inr (4, [.ref cd, .int (iz nc), .int (iz pp)])), (cd, .inl (cB, 1300, .inl (az fc)))] H := hP
          have hD : va_D (AM mo rs ex xd li bo cu cd) [(mo, .inr (3, [.ref rs, .int (iz len), .int (iz co), .ref ex, .int (iz bi), .int (iz le), .ref li, .int (iz used), .ref bo, .int (iz bl), .ref cu])), (rs, .inl (cB, 4096, .inl (az fr))), (ex, .inr (4, [.ref xd, .int (iz ne), .int (iz pe)])), (xd, .inl (cB, 1300, .inl (az fe))), (li, .inl (cL, 160, .inr (.inl (azl lm)))), (bo, .inl (cB, 4096, .inl (az fb))), (cu, .inr (4, [.ref cd, .int (iz nc), .int (iz pp)])), (cd, .inl (cB, 1300, .inl (az fc)))] := hD
          refine z_go (va_runV (As := [.int (iz (48 + ((max (lead Cx) (-lead Cx)) % 10)))]) (rest := []) ⟨hx, hb, hml, hown, hts⟩ hct.2 (z_cwV hts w_Mo_add tw_474 (by decide)) (z_preV hct.1 (va_recv hK hP (ci := 3) (q0 := 0) rfl rfl) hw) rfl rfl hl.1 rfl (lv_room (Nat.le_of_ble_eq_true rfl)) d_Mo_sci_188 ⟨Nat.zero_le _, Nat.zero_le _⟩) hS (fun _ h9 => h9) (fun v9 t9 H locs hv9 hp9 hz9 hk9 hS => ?_)
          obtain ⟨rfl, hw⟩ := hp9
          have hw := MW.moved hv9.symm hw
          refine W.eq (g2 := F0 m 191 ls []) rfl ?_
          exact z_vret hx hb hr hlk hS (zR_st zSt_MW) ⟨rfl, by
              unfold sciL expL
              first
                | rw [if_pos (show lead Cx < 0 by omega)]
                | rw [if_neg (show ¬ lead Cx < 0 by omega)]
              first
                | rw [if_pos (show 100 ≤ max (lead Cx) (-lead Cx) by omega)]
                | rw [if_neg (show ¬ 100 ≤ max (lead Cx) (-lead Cx) by omega)]
              simpa [List.append_assoc] using hw⟩ d_Mo_sci_191
  have L49 : ∀ (N49 : Nat) (bt0 : List Int) (i : Nat) (k : Int) (H : Heap) (locs : List Loc) (ls : Array Slot), MW D cB cL mo rs ex xd li bo cu cd co bi le rt (bt0 ++ dl Cx (lead Cx - 1) i) V Cx s H → va_S (AM mo rs ex xd li bo cu cd) s.heap H locs → lv_has ls 6 [(0, .ref mo), (1, .ref ex), (2, .int (iz (cn : Int))), (4, .int (iz k))] → (k = (i : Int) + 1 ∧ i ≤ cn) → (bt0 = (bt ++ [48 + dgt Cx (lead Cx)]) ++ dotL cn pt) → cn - i < N49 → W p l e (zrm 2) s m args below meth c H locs 0 0 (MQ below (zQ (AM mo rs ex xd li bo cu cd) (zR none (MW D cB cL mo rs ex xd li bo cu cd co bi le rt (bt ++ sciL Cx (lead Cx) cn pt) V Cx))) args s 0 0 (AM mo rs ex xd li bo cu cd)) (F0 m 49 ls []) := by
    intro N49
    induction N49 with
    | zero => intro bt0 i k H locs ls hw hS hl hk hbt0 hN49; exact absurd hN49 (Nat.not_lt_zero _)
    | succ N49 ih49 =>
      intro bt0 i k H locs ls hw hS hl hk hbt0 hN49
      have hl1 := dl_len Cx (lead Cx - 1) i
      have hl2 := dotL_len cn pt
      have hl3 : bt0.length = bt.length + 1 + (dotL cn pt).length := by rw [hbt0, List.length_append, List.length_append]; rfl
      refine lv_iload hx hb d_Mo_sci_49 (lv_at hl 3 rfl) ?_
      refine lv_iload_n hx hb d_Mo_sci_51 rfl (lv_at hl 2 rfl) ?_
      refine z_icmp_gt (tgt := 86) hx hb d_Mo_sci_52 rfl ⟨by omega, by omega⟩ ⟨by omega, by omega⟩ (fun hc52 => ?_) (fun hc52 => ?_)
      · refine lv_aload_n hx hb d_Mo_sci_86 rfl (lv_at hl 1 rfl) ?_
        have hw9 := hw
        obtain ⟨fc, nc, pp, ⟨len, used, bl, fr, fb, lm, fe, ne, pe, ⟨hK, hP, hD⟩, hrt, hbt, hE, hpe, hlm⟩, hC⟩ := hw9
        have hr1 := hrt.1
        have hr2 := hrt.2.1
        have hb1 := hbt.1
        have hb2 := hbt.2.1
        have hE1 := hE.1
        have hC1 := hC.1
        have hP : va_P D vwCl [(mo, .inr (3, [.ref rs, .int (iz len), .int (iz co), .ref ex, .int (iz bi), .int (iz le), .ref li, .int (iz used), .ref bo, .int (iz bl), .ref cu])), (rs, .inl (cB, 4096, .inl (az fr))), (ex, .inr (4, [.ref xd, .int (iz ne), .int (iz pe)])), (xd, .inl (cB, 1300, .inl (az fe))), (li, .inl (cL, 160, .inr (.inl (azl lm)))), (bo, .inl (cB, 4096, .inl (az fb))), (cu, .inr (4, [.ref cd, .int (iz nc), .int (iz pp)])), (cd, .inl (cB, 1300, .inl (az fc)))] H := hP
        have hD : va_D (AM mo rs ex xd li bo cu cd) [(mo, .inr (3, [.ref rs, .int (iz len), .int (iz co), .ref ex, .int (iz bi), .int (iz le), .ref li, .int (iz used), .ref bo, .int (iz bl), .ref cu])), (rs, .inl (cB, 4096, .inl (az fr))), (ex, .inr (4, [.ref xd, .int (iz ne), .int (iz pe)])), (xd, .inl (cB, 1300, .inl (az fe))), (li, .inl (cL, 160, .inr (.inl (azl lm)))), (bo, .inl (cB, 4096, .inl (az fb))), (cu, .inr (4, [.ref cd, .int (iz nc), .int (iz pp)])), (cd, .inl (cB, 1300, .inl (az fc)))] := hD
        refine va_get (D := D) (ci := 4) (v := .int (iz ne)) (C := R_4) (T := T_4) (N := 3) hx hb hts in_4 hown hK hP 2 rfl rfl 1 (by decide) (hts _ tw_383) (fun _ h9 => h9) rfl d_Mo_sci_87 ?_
        refine z_if_ne (tgt := 97) hx hb d_Mo_sci_90 rfl ⟨by omega, by omega⟩ (fun hc90 => ?_) (fun hc90 => ?_)
        · refine lv_aload_n hx hb d_Mo_sci_97 rfl (lv_at hl 0 rfl) ?_
          refine va_get (D := D) (ci := 3) (v := .ref cu) (C := R_3) (T := T_3) (N := 11) hx hb hts in_3 hown hK hP 0 rfl rfl 10 (by decide) (hts _ tw_402) (fun _ h9 => h9) rfl d_Mo_sci_98 ?_
          refine va_get (D := D) (ci := 4) (v := .int (iz pp)) (C := R_4) (T := T_4) (N := 3) hx hb hts in_4 hown hK hP 6 rfl rfl 2 (by decide) (hts _ tw_384) (fun _ h9 => h9) rfl d_Mo_sci_101 ?_
          have hpl : pp - 1 = lead Cx := by
            have h8 := rnd_pos hE (by omega) (k := (cn : Int) + 1) (by omega)
            rw [← hCx] at h8
            have h9 : nc ≠ 0 := fun q => by have := hC.zero q; omega
            exact (hC.leadv (by omega)).symm
          refine lv_iconst (v := iz 1) hx hb d_Mo_sci_104 rfl ?_
          refine z_isub hx hb d_Mo_sci_105 ?_
          refine z_ri (b := lead Cx) hpl ?_
          refine lv_istore hx hb d_Mo_sci_106 hl (by decide) rfl (fun ls hl => ?_)
          have hl : lv_has ls 6 [(4, .int (iz (lead Cx))), (0, .ref mo), (1, .ref ex), (2, .int (iz (cn : Int)))] := hl
          have hw : MW D cB cL mo rs ex xd li bo cu cd co bi le rt ((bt ++ [48 + dgt Cx (lead Cx)]) ++ behL Cx (lead Cx - 1) cn pt) V Cx s H := by
            have e8 : i = cn := by omega
            unfold behL
            rw [e8, hbt0, List.append_assoc] at hw
            exact hw
          exact L108  _ _ _ hw hS (lv_sub hl [1, 0] rfl) 
        · have hC0 : Cx = 0 := by
            rw [hCx, hE.zero hc90]
            exact rnd_0 _
          refine lv_iconst (v := iz 0) hx hb d_Mo_sci_93 rfl ?_
          refine z_ri (b := lead Cx) (by rw [hC0, lead_0]) ?_
          refine lv_goto (tgt := 106) hx hb d_Mo_sci_94 rfl ?_
          refine lv_istore hx hb d_Mo_sci_106 hl (by decide) rfl (fun ls hl => ?_)
          have hl : lv_has ls 6 [(4, .int (iz (lead Cx))), (0, .ref mo), (1, .ref ex), (2, .int (iz (cn : Int)))] := hl
          have hw : MW D cB cL mo rs ex xd li bo cu cd co bi le rt ((bt ++ [48 + dgt Cx (lead Cx)]) ++ behL Cx (lead Cx - 1) cn pt) V Cx s H := by
            have e8 : i = cn := by omega
            unfold behL
            rw [e8, hbt0, List.append_assoc] at hw
            exact hw
          exact L108  _ _ _ hw hS (lv_sub hl [1, 0] rfl) 
      · refine lv_aload_n hx hb d_Mo_sci_55 rfl (lv_at hl 0 rfl) ?_
        refine lv_aload_n hx hb d_Mo_sci_56 rfl (lv_at hl 1 rfl) ?_
        have hw9 := hw
        obtain ⟨fc, nc, pp, ⟨len, used, bl, fr, fb, lm, fe, ne, pe, ⟨hK, hP, hD⟩, hrt, hbt, hE, hpe, hlm⟩, hC⟩ := hw9
        have hr1 := hrt.1
        have hr2 := hrt.2.1
        have hb1 := hbt.1
        have hb2 := hbt.2.1
        have hE1 := hE.1
        have hC1 := hC.1
        have hP : va_P D vwCl [(mo, .inr (3, [.ref rs, .int (iz len), .int (iz co), .ref ex, .int (iz bi), .int (iz le), .ref li, .int (iz used), .ref bo, .int (iz bl), .ref cu])), (rs, .inl (cB, 4096, .inl (az fr))), (ex, .inr (4, [.ref xd, .int (iz ne), .int (iz pe)])), (xd, .inl (cB, 1300, .inl (az fe))), (li, .inl (cL, 160, .inr (.inl (azl lm)))), (bo, .inl (cB, 4096, .inl (az fb))), (cu, .inr (4, [.ref cd, .int (iz nc), .int (iz pp)])), (cd, .inl (cB, 1300, .inl (az fc)))] H := hP
        have hD : va_D (AM mo rs ex xd li bo cu cd) [(mo, .inr (3, [.ref rs, .int (iz len), .int (iz co), .ref ex, .int (iz bi), .int (iz le), .ref li, .int (iz used), .ref bo, .int (iz bl), .ref cu])), (rs, .inl (cB, 4096, .inl (az fr))), (ex, .inr (4, [.ref xd, .int (iz ne), .int (iz pe)])), (xd, .inl (cB, 1300, .inl (az fe))), (li, .inl (cL, 160, .inr (.inl (azl lm)))), (bo, .inl (cB, 4096, .inl (az fb))), (cu, .inr (4, [.ref cd, .int (iz nc), .int (iz pp)])), (cd, .inl (cB, 1300, .inl (az fc)))] := hD
        refine va_get (D := D) (ci := 4) (v := .int (iz ne)) (C := R_4) (T := T_4) (N := 3) hx hb hts in_4 hown hK hP 2 rfl rfl 1 (by decide) (hts _ tw_383) (fun _ h9 => h9) rfl d_Mo_sci_57 ?_
        refine z_if_ne (tgt := 68) hx hb d_Mo_sci_60 rfl ⟨by omega, by omega⟩ (fun hc60 => ?_) (fun hc60 => ?_)
        · refine lv_aload_n hx hb d_Mo_sci_68 rfl (lv_at hl 0 rfl) ?_
          refine va_get (D := D) (ci := 3) (v := .ref cu) (C := R_3) (T := T_3) (N := 11) hx hb hts in_3 hown hK hP 0 rfl rfl 10 (by decide) (hts _ tw_402) (fun _ h9 => h9) rfl d_Mo_sci_69 ?_
          refine lv_iload hx hb d_Mo_sci_72 (lv_at hl 3 rfl) ?_
          have hct := c_Mo_digit l D cB cL mo rs ex xd li bo cu cd co bi le rt (bt0 ++ dl Cx (lead Cx - 1) i) V Cx k ⟨by omega, by omega⟩
          refine z_go (va_runS (As := [.ref cu, .int (iz k)]) (rest := [.ref mo]) ⟨hx, hb, hml, hown, hts⟩ hct.2 (z_cwS hts w_Mo_digit tw_515 (by decide)) (z_preS hct.1 hw) rfl rfl hl.1 rfl (lv_room (Nat.le_of_ble_eq_true rfl)) d_Mo_sci_74 ⟨Nat.zero_le _, Nat.zero_le _⟩) hS (fun _ h9 => h9) (fun v9 t9 H locs hv9 hp9 hz9 hk9 hS => ?_)
          obtain ⟨rfl, hw⟩ := hp9
          have hw := MW.moved hv9.symm hw
          refine W.eq (g2 := F0 m 77 ls [.int (iz (48 + dgt Cx (lead Cx - k))), .ref mo]) rfl ?_
          refine z_ri (b := 48 + dgt Cx (lead Cx - 1 - (i : Int))) (by rw [show lead Cx - k = lead Cx - 1 - (i : Int) by omega]) ?_
          have hct := c_Mo_add l D cB cL mo rs ex xd li bo cu cd co bi le rt (bt0 ++ dl Cx (lead Cx - 1) i) V Cx (48 + dgt Cx (lead Cx - 1 - (i : Int))) (dg48 _ _) (by (try simp only [List.length_append, List.length_cons, List.length_nil]); omega)
          have hw9 := hw
          obtain ⟨fc, nc, pp, ⟨len, used, bl, fr, fb, lm, fe, ne, pe, ⟨hK, hP, hD⟩, hrt, hbt, hE, hpe, hlm⟩, hC⟩ := hw9
          have hr1 := hrt.1
          have hr2 := hrt.2.1
          have hb1 := hbt.1
          have hb2 := hbt.2.1
          have hE1 := hE.1
          have hC1 := hC.1
          have hP : va_P D vwCl [(mo, .inr (3, [.ref rs, .int (iz len), .int (iz co), .ref ex, .int (iz bi), .int (iz le), .ref li, .int (iz used), .ref bo, .int (iz bl), .ref cu])), (rs, .inl (cB, 4096, .inl (az fr))), (ex, .inr (4, [.ref xd, .int (iz ne), .int (iz pe)])), (xd, .inl (cB, 1300, .inl (az fe))), (li, .inl (cL, 160, .inr (.inl (azl lm)))), (bo, .inl (cB, 4096, .inl (az fb))), (cu, .inr (4, [.ref cd, .int (iz nc), .int (iz pp)])), (cd, .inl (cB, 1300, .inl (az fc)))] H := hP
          have hD : va_D (AM mo rs ex xd li bo cu cd) [(mo, .inr (3, [.ref rs, .int (iz len), .int (iz co), .ref ex, .int (iz bi), .int (iz le), .ref li, .int (iz used), .ref bo, .int (iz bl), .ref cu])), (rs, .inl (cB, 4096, .inl (az fr))), (ex, .inr (4, [.ref xd, .int (iz ne), .int (iz pe)])), (xd, .inl (cB, 1300, .inl (az fe))), (li, .inl (cL, 160, .inr (.inl (azl lm)))), (bo, .inl (cB, 4096, .inl (az fb))), (cu, .inr (4, [.ref cd, .int (iz nc), .int (iz pp)])), (cd, .inl (cB, 1300, .inl (az fc)))] := hD
          refine z_go (va_runV (As := [.int (iz (48 + dgt Cx (lead Cx - 1 - (i : Int))))]) (rest := []) ⟨hx, hb, hml, hown, hts⟩ hct.2 (z_cwV hts w_Mo_add tw_474 (by decide)) (z_preV hct.1 (va_recv hK hP (ci := 3) (q0 := 0) rfl rfl) hw) rfl rfl hl.1 rfl (lv_room (Nat.le_of_ble_eq_true rfl)) d_Mo_sci_77 ⟨Nat.zero_le _, Nat.zero_le _⟩) hS (fun _ h9 => h9) (fun v9 t9 H locs hv9 hp9 hz9 hk9 hS => ?_)
          obtain ⟨rfl, hw⟩ := hp9
          have hw := MW.moved hv9.symm hw
          refine W.eq (g2 := F0 m 80 ls []) rfl ?_
          refine lv_iinc (k := 3) (v := (iz (k + 1))) hx hb d_Mo_sci_80 hl rfl (by show iz _ + iz (1) = _; rw [← iz_add]; try rfl) (by decide) rfl (fun ls hl => ?_)
          have hl : lv_has ls 6 [(4, .int (iz (k + 1))), (0, .ref mo), (1, .ref ex), (2, .int (iz (cn : Int)))] := hl
          refine lv_goto (tgt := 49) hx hb d_Mo_sci_83 rfl ?_
          have hw : MW D cB cL mo rs ex xd li bo cu cd co bi le rt (bt0 ++ dl Cx (lead Cx - 1) (i + 1)) V Cx s H := by
            show MW _ _ _ _ _ _ _ _ _ _ _ _ _ _ _ (_ ++ (_ ++ _)) _ _ _ _
            rw [← List.append_assoc]
            exact hw
          exact ih49 bt0 (i + 1) (k + 1) _ _ _ hw hS (lv_sub hl [1, 2, 3, 0] rfl) ⟨by omega, by omega⟩ hbt0 (by omega)
        · have hC0 : Cx = 0 := by
            rw [hCx, hE.zero hc60]
            exact rnd_0 _
          refine lv_bipush (v := iz 48) hx hb d_Mo_sci_63 (by decide) ?_
          refine z_ri (b := 48 + dgt Cx (lead Cx - 1 - (i : Int))) (by rw [hC0, dgt_zero]; rfl) ?_
          refine lv_goto (tgt := 77) hx hb d_Mo_sci_65 rfl ?_
          have hct := c_Mo_add l D cB cL mo rs ex xd li bo cu cd co bi le rt (bt0 ++ dl Cx (lead Cx - 1) i) V Cx (48 + dgt Cx (lead Cx - 1 - (i : Int))) (dg48 _ _) (by (try simp only [List.length_append, List.length_cons, List.length_nil]); omega)
          refine z_go (va_runV (As := [.int (iz (48 + dgt Cx (lead Cx - 1 - (i : Int))))]) (rest := []) ⟨hx, hb, hml, hown, hts⟩ hct.2 (z_cwV hts w_Mo_add tw_474 (by decide)) (z_preV hct.1 (va_recv hK hP (ci := 3) (q0 := 0) rfl rfl) hw) rfl rfl hl.1 rfl (lv_room (Nat.le_of_ble_eq_true rfl)) d_Mo_sci_77 ⟨Nat.zero_le _, Nat.zero_le _⟩) hS (fun _ h9 => h9) (fun v9 t9 H locs hv9 hp9 hz9 hk9 hS => ?_)
          obtain ⟨rfl, hw⟩ := hp9
          have hw := MW.moved hv9.symm hw
          refine W.eq (g2 := F0 m 80 ls []) rfl ?_
          refine lv_iinc (k := 3) (v := (iz (k + 1))) hx hb d_Mo_sci_80 hl rfl (by show iz _ + iz (1) = _; rw [← iz_add]; try rfl) (by decide) rfl (fun ls hl => ?_)
          have hl : lv_has ls 6 [(4, .int (iz (k + 1))), (0, .ref mo), (1, .ref ex), (2, .int (iz (cn : Int)))] := hl
          refine lv_goto (tgt := 49) hx hb d_Mo_sci_83 rfl ?_
          have hw : MW D cB cL mo rs ex xd li bo cu cd co bi le rt (bt0 ++ dl Cx (lead Cx - 1) (i + 1)) V Cx s H := by
            show MW _ _ _ _ _ _ _ _ _ _ _ _ _ _ _ (_ ++ (_ ++ _)) _ _ _ _
            rw [← List.append_assoc]
            exact hw
          exact ih49 bt0 (i + 1) (k + 1) _ _ _ hw hS (lv_sub hl [1, 2, 3, 0] rfl) ⟨by omega, by omega⟩ hbt0 (by omega)
  refine lv_aload_n hx hb d_Mo_sci_0 rfl (lv_at hl 0 rfl) ?_
  refine lv_aload_n hx hb d_Mo_sci_1 rfl (lv_at hl 1 rfl) ?_
  refine lv_iload_n hx hb d_Mo_sci_2 rfl (lv_at hl 2 rfl) ?_
  refine lv_iconst (v := iz 1) hx hb d_Mo_sci_3 rfl ?_
  refine z_iadd hx hb d_Mo_sci_4 ?_
  have hct := c_Mo_round l D cB cL mo rs ex xd li bo cu cd co bi le rt bt V C ((cn : Int) + 1) ⟨by omega, by omega⟩
  have hw9 := hw
  obtain ⟨fc, nc, pp, ⟨len, used, bl, fr, fb, lm, fe, ne, pe, ⟨hK, hP, hD⟩, hrt, hbt, hE, hpe, hlm⟩, hC⟩ := hw9
  have hr1 := hrt.1
  have hr2 := hrt.2.1
  have hb1 := hbt.1
  have hb2 := hbt.2.1
  have hE1 := hE.1
  have hC1 := hC.1
  have hP : va_P D vwCl [(mo, .inr (3, [.ref rs, .int (iz len), .int (iz co), .ref ex, .int (iz bi), .int (iz le), .ref li, .int (iz used), .ref bo, .int (iz bl), .ref cu])), (rs, .inl (cB, 4096, .inl (az fr))), (ex, .inr (4, [.ref xd, .int (iz ne), .int (iz pe)])), (xd, .inl (cB, 1300, .inl (az fe))), (li, .inl (cL, 160, .inr (.inl (azl lm)))), (bo, .inl (cB, 4096, .inl (az fb))), (cu, .inr (4, [.ref cd, .int (iz nc), .int (iz pp)])), (cd, .inl (cB, 1300, .inl (az fc)))] H := hP
  have hD : va_D (AM mo rs ex xd li bo cu cd) [(mo, .inr (3, [.ref rs, .int (iz len), .int (iz co), .ref ex, .int (iz bi), .int (iz le), .ref li, .int (iz used), .ref bo, .int (iz bl), .ref cu])), (rs, .inl (cB, 4096, .inl (az fr))), (ex, .inr (4, [.ref xd, .int (iz ne), .int (iz pe)])), (xd, .inl (cB, 1300, .inl (az fe))), (li, .inl (cL, 160, .inr (.inl (azl lm)))), (bo, .inl (cB, 4096, .inl (az fb))), (cu, .inr (4, [.ref cd, .int (iz nc), .int (iz pp)])), (cd, .inl (cB, 1300, .inl (az fc)))] := hD
  refine z_go (va_runV (As := [.ref ex, .int (iz ((cn : Int) + 1))]) (rest := []) ⟨hx, hb, hml, hown, hts⟩ hct.2 (z_cwV hts w_Mo_rounded tw_508 (by decide)) (z_preV hct.1 (va_recv hK hP (ci := 3) (q0 := 0) rfl rfl) hw) rfl rfl hl.1 rfl (lv_room (Nat.le_of_ble_eq_true rfl)) d_Mo_sci_5 ⟨Nat.zero_le _, Nat.zero_le _⟩) hS (fun _ h9 => h9) (fun v9 t9 H locs hv9 hp9 hz9 hk9 hS => ?_)
  obtain ⟨rfl, hw⟩ := hp9
  have hw := MW.moved hv9.symm hw
  rw [← hCx] at hw
  refine W.eq (g2 := F0 m 8 ls []) rfl ?_
  refine lv_aload_n hx hb d_Mo_sci_8 rfl (lv_at hl 0 rfl) ?_
  refine lv_aload_n hx hb d_Mo_sci_9 rfl (lv_at hl 1 rfl) ?_
  have hw9 := hw
  obtain ⟨fc, nc, pp, ⟨len, used, bl, fr, fb, lm, fe, ne, pe, ⟨hK, hP, hD⟩, hrt, hbt, hE, hpe, hlm⟩, hC⟩ := hw9
  have hr1 := hrt.1
  have hr2 := hrt.2.1
  have hb1 := hbt.1
  have hb2 := hbt.2.1
  have hE1 := hE.1
  have hC1 := hC.1
  have hP : va_P D vwCl [(mo, .inr (3, [.ref rs, .int (iz len), .int (iz co), .ref ex, .int (iz bi), .int (iz le), .ref li, .int (iz used), .ref bo, .int (iz bl), .ref cu])), (rs, .inl (cB, 4096, .inl (az fr))), (ex, .inr (4, [.ref xd, .int (iz ne), .int (iz pe)])), (xd, .inl (cB, 1300, .inl (az fe))), (li, .inl (cL, 160, .inr (.inl (azl lm)))), (bo, .inl (cB, 4096, .inl (az fb))), (cu, .inr (4, [.ref cd, .int (iz nc), .int (iz pp)])), (cd, .inl (cB, 1300, .inl (az fc)))] H := hP
  have hD : va_D (AM mo rs ex xd li bo cu cd) [(mo, .inr (3, [.ref rs, .int (iz len), .int (iz co), .ref ex, .int (iz bi), .int (iz le), .ref li, .int (iz used), .ref bo, .int (iz bl), .ref cu])), (rs, .inl (cB, 4096, .inl (az fr))), (ex, .inr (4, [.ref xd, .int (iz ne), .int (iz pe)])), (xd, .inl (cB, 1300, .inl (az fe))), (li, .inl (cL, 160, .inr (.inl (azl lm)))), (bo, .inl (cB, 4096, .inl (az fb))), (cu, .inr (4, [.ref cd, .int (iz nc), .int (iz pp)])), (cd, .inl (cB, 1300, .inl (az fc)))] := hD
  refine va_get (D := D) (ci := 4) (v := .int (iz ne)) (C := R_4) (T := T_4) (N := 3) hx hb hts in_4 hown hK hP 2 rfl rfl 1 (by decide) (hts _ tw_383) (fun _ h9 => h9) rfl d_Mo_sci_10 ?_
  refine z_if_ne (tgt := 21) hx hb d_Mo_sci_13 rfl ⟨by omega, by omega⟩ (fun hc13 => ?_) (fun hc13 => ?_)
  · refine lv_aload_n hx hb d_Mo_sci_21 rfl (lv_at hl 0 rfl) ?_
    refine va_get (D := D) (ci := 3) (v := .ref cu) (C := R_3) (T := T_3) (N := 11) hx hb hts in_3 hown hK hP 0 rfl rfl 10 (by decide) (hts _ tw_402) (fun _ h9 => h9) rfl d_Mo_sci_22 ?_
    refine lv_iconst (v := iz 0) hx hb d_Mo_sci_25 rfl ?_
    have hct := c_Mo_digit l D cB cL mo rs ex xd li bo cu cd co bi le rt bt V Cx 0 ⟨by omega, by omega⟩
    refine z_go (va_runS (As := [.ref cu, .int (iz 0)]) (rest := [.ref mo]) ⟨hx, hb, hml, hown, hts⟩ hct.2 (z_cwS hts w_Mo_digit tw_515 (by decide)) (z_preS hct.1 hw) rfl rfl hl.1 rfl (lv_room (Nat.le_of_ble_eq_true rfl)) d_Mo_sci_26 ⟨Nat.zero_le _, Nat.zero_le _⟩) hS (fun _ h9 => h9) (fun v9 t9 H locs hv9 hp9 hz9 hk9 hS => ?_)
    obtain ⟨rfl, hw⟩ := hp9
    have hw := MW.moved hv9.symm hw
    refine W.eq (g2 := F0 m 29 ls [.int (iz (48 + dgt Cx (lead Cx - 0))), .ref mo]) rfl ?_
    refine z_ri (b := 48 + dgt Cx (lead Cx)) (by rw [Int.sub_zero]) ?_
    have hct := c_Mo_add l D cB cL mo rs ex xd li bo cu cd co bi le rt (bt) V Cx (48 + dgt Cx (lead Cx)) (dg48 _ _) (by (try simp only [List.length_append, List.length_cons, List.length_nil]); omega)
    have hw9 := hw
    obtain ⟨fc, nc, pp, ⟨len, used, bl, fr, fb, lm, fe, ne, pe, ⟨hK, hP, hD⟩, hrt, hbt, hE, hpe, hlm⟩, hC⟩ := hw9
    have hr1 := hrt.1
    have hr2 := hrt.2.1
    have hb1 := hbt.1
    have hb2 := hbt.2.1
    have hE1 := hE.1
    have hC1 := hC.1
    have hP : va_P D vwCl [(mo, .inr (3, [.ref rs, .int (iz len), .int (iz co), .ref ex, .int (iz bi), .int (iz le), .ref li, .int (iz used), .ref bo, .int (iz bl), .ref cu])), (rs, .inl (cB, 4096, .inl (az fr))), (ex, .inr (4, [.ref xd, .int (iz ne), .int (iz pe)])), (xd, .inl (cB, 1300, .inl (az fe))), (li, .inl (cL, 160, .inr (.inl (azl lm)))), (bo, .inl (cB, 4096, .inl (az fb))), (cu, .inr (4, [.ref cd, .int (iz nc), .int (iz pp)])), (cd, .inl (cB, 1300, .inl (az fc)))] H := hP
    have hD : va_D (AM mo rs ex xd li bo cu cd) [(mo, .inr (3, [.ref rs, .int (iz len), .int (iz co), .ref ex, .int (iz bi), .int (iz le), .ref li, .int (iz used), .ref bo, .int (iz bl), .ref cu])), (rs, .inl (cB, 4096, .inl (az fr))), (ex, .inr (4, [.ref xd, .int (iz ne), .int (iz pe)])), (xd, .inl (cB, 1300, .inl (az fe))), (li, .inl (cL, 160, .inr (.inl (azl lm)))), (bo, .inl (cB, 4096, .inl (az fb))), (cu, .inr (4, [.ref cd, .int (iz nc), .int (iz pp)])), (cd, .inl (cB, 1300, .inl (az fc)))] := hD
    refine z_go (va_runV (As := [.int (iz (48 + dgt Cx (lead Cx)))]) (rest := []) ⟨hx, hb, hml, hown, hts⟩ hct.2 (z_cwV hts w_Mo_add tw_474 (by decide)) (z_preV hct.1 (va_recv hK hP (ci := 3) (q0 := 0) rfl rfl) hw) rfl rfl hl.1 rfl (lv_room (Nat.le_of_ble_eq_true rfl)) d_Mo_sci_29 ⟨Nat.zero_le _, Nat.zero_le _⟩) hS (fun _ h9 => h9) (fun v9 t9 H locs hv9 hp9 hz9 hk9 hS => ?_)
    obtain ⟨rfl, hw⟩ := hp9
    have hw := MW.moved hv9.symm hw
    refine W.eq (g2 := F0 m 32 ls []) rfl ?_
    refine lv_iload_n hx hb d_Mo_sci_32 rfl (lv_at hl 2 rfl) ?_
    refine z_if_gt (tgt := 40) hx hb d_Mo_sci_33 rfl ⟨by omega, by omega⟩ (fun hc33 => ?_) (fun hc33 => ?_)
    · refine lv_aload_n hx hb d_Mo_sci_40 rfl (lv_at hl 0 rfl) ?_
      refine lv_bipush (v := iz 46) hx hb d_Mo_sci_41 (by decide) ?_
      have hct := c_Mo_add l D cB cL mo rs ex xd li bo cu cd co bi le rt ((bt ++ [48 + dgt Cx (lead Cx)])) V Cx (46) ⟨by omega, by omega⟩ (by (try simp only [List.length_append, List.length_cons, List.length_nil]); omega)
      have hw9 := hw
      obtain ⟨fc, nc, pp, ⟨len, used, bl, fr, fb, lm, fe, ne, pe, ⟨hK, hP, hD⟩, hrt, hbt, hE, hpe, hlm⟩, hC⟩ := hw9
      have hr1 := hrt.1
      have hr2 := hrt.2.1
      have hb1 := hbt.1
      have hb2 := hbt.2.1
      have hE1 := hE.1
      have hC1 := hC.1
      have hP : va_P D vwCl [(mo, .inr (3, [.ref rs, .int (iz len), .int (iz co), .ref ex, .int (iz bi), .int (iz le), .ref li, .int (iz used), .ref bo, .int (iz bl), .ref cu])), (rs, .inl (cB, 4096, .inl (az fr))), (ex, .inr (4, [.ref xd, .int (iz ne), .int (iz pe)])), (xd, .inl (cB, 1300, .inl (az fe))), (li, .inl (cL, 160, .inr (.inl (azl lm)))), (bo, .inl (cB, 4096, .inl (az fb))), (cu, .inr (4, [.ref cd, .int (iz nc), .int (iz pp)])), (cd, .inl (cB, 1300, .inl (az fc)))] H := hP
      have hD : va_D (AM mo rs ex xd li bo cu cd) [(mo, .inr (3, [.ref rs, .int (iz len), .int (iz co), .ref ex, .int (iz bi), .int (iz le), .ref li, .int (iz used), .ref bo, .int (iz bl), .ref cu])), (rs, .inl (cB, 4096, .inl (az fr))), (ex, .inr (4, [.ref xd, .int (iz ne), .int (iz pe)])), (xd, .inl (cB, 1300, .inl (az fe))), (li, .inl (cL, 160, .inr (.inl (azl lm)))), (bo, .inl (cB, 4096, .inl (az fb))), (cu, .inr (4, [.ref cd, .int (iz nc), .int (iz pp)])), (cd, .inl (cB, 1300, .inl (az fc)))] := hD
      refine z_go (va_runV (As := [.int (iz 46)]) (rest := []) ⟨hx, hb, hml, hown, hts⟩ hct.2 (z_cwV hts w_Mo_add tw_474 (by decide)) (z_preV hct.1 (va_recv hK hP (ci := 3) (q0 := 0) rfl rfl) hw) rfl rfl hl.1 rfl (lv_room (Nat.le_of_ble_eq_true rfl)) d_Mo_sci_43 ⟨Nat.zero_le _, Nat.zero_le _⟩) hS (fun _ h9 => h9) (fun v9 t9 H locs hv9 hp9 hz9 hk9 hS => ?_)
      obtain ⟨rfl, hw⟩ := hp9
      have hw := MW.moved hv9.symm hw
      refine W.eq (g2 := F0 m 46 ls []) rfl ?_
      refine lv_iconst (v := iz 1) hx hb d_Mo_sci_46 rfl ?_
      refine lv_istore hx hb d_Mo_sci_47 hl (by decide) rfl (fun ls hl => ?_)
      have hl : lv_has ls 6 [(4, .int (iz 1)), (0, .ref mo), (1, .ref ex), (2, .int (iz (cn : Int))), (3, .int (iz pt))] := hl
      have hw : MW D cB cL mo rs ex xd li bo cu cd co bi le rt (((bt ++ [48 + dgt Cx (lead Cx)]) ++ [46]) ++ dl Cx (lead Cx - 1) 0) V Cx s H := by
        show MW _ _ _ _ _ _ _ _ _ _ _ _ _ _ _ (_ ++ []) _ _ _ _
        rw [List.append_nil]
        exact hw
      exact L49 _ ((bt ++ [48 + dgt Cx (lead Cx)]) ++ [46]) 0 1 _ _ _ hw hS (lv_sub hl [1, 2, 3, 0] rfl) ⟨by omega, Nat.zero_le _⟩ (by unfold dotL; first | rw [if_pos (by omega)] | (rw [if_neg (by omega), List.append_nil])) (Nat.lt_succ_self _)
    · refine lv_iload_n hx hb d_Mo_sci_36 rfl (lv_at hl 3 rfl) ?_
      refine z_if_eq (tgt := 46) hx hb d_Mo_sci_37 rfl ⟨by omega, by omega⟩ (fun hc37 => ?_) (fun hc37 => ?_)
      · refine lv_iconst (v := iz 1) hx hb d_Mo_sci_46 rfl ?_
        refine lv_istore hx hb d_Mo_sci_47 hl (by decide) rfl (fun ls hl => ?_)
        have hl : lv_has ls 6 [(4, .int (iz 1)), (0, .ref mo), (1, .ref ex), (2, .int (iz (cn : Int))), (3, .int (iz pt))] := hl
        have hw : MW D cB cL mo rs ex xd li bo cu cd co bi le rt ((bt ++ [48 + dgt Cx (lead Cx)]) ++ dl Cx (lead Cx - 1) 0) V Cx s H := by
          show MW _ _ _ _ _ _ _ _ _ _ _ _ _ _ _ (_ ++ []) _ _ _ _
          rw [List.append_nil]
          exact hw
        exact L49 _ (bt ++ [48 + dgt Cx (lead Cx)]) 0 1 _ _ _ hw hS (lv_sub hl [1, 2, 3, 0] rfl) ⟨by omega, Nat.zero_le _⟩ (by unfold dotL; first | rw [if_pos (by omega)] | (rw [if_neg (by omega), List.append_nil])) (Nat.lt_succ_self _)
      · refine lv_aload_n hx hb d_Mo_sci_40 rfl (lv_at hl 0 rfl) ?_
        refine lv_bipush (v := iz 46) hx hb d_Mo_sci_41 (by decide) ?_
        have hct := c_Mo_add l D cB cL mo rs ex xd li bo cu cd co bi le rt ((bt ++ [48 + dgt Cx (lead Cx)])) V Cx (46) ⟨by omega, by omega⟩ (by (try simp only [List.length_append, List.length_cons, List.length_nil]); omega)
        have hw9 := hw
        obtain ⟨fc, nc, pp, ⟨len, used, bl, fr, fb, lm, fe, ne, pe, ⟨hK, hP, hD⟩, hrt, hbt, hE, hpe, hlm⟩, hC⟩ := hw9
        have hr1 := hrt.1
        have hr2 := hrt.2.1
        have hb1 := hbt.1
        have hb2 := hbt.2.1
        have hE1 := hE.1
        have hC1 := hC.1
        have hP : va_P D vwCl [(mo, .inr (3, [.ref rs, .int (iz len), .int (iz co), .ref ex, .int (iz bi), .int (iz le), .ref li, .int (iz used), .ref bo, .int (iz bl), .ref cu])), (rs, .inl (cB, 4096, .inl (az fr))), (ex, .inr (4, [.ref xd, .int (iz ne), .int (iz pe)])), (xd, .inl (cB, 1300, .inl (az fe))), (li, .inl (cL, 160, .inr (.inl (azl lm)))), (bo, .inl (cB, 4096, .inl (az fb))), (cu, .inr (4, [.ref cd, .int (iz nc), .int (iz pp)])), (cd, .inl (cB, 1300, .inl (az fc)))] H := hP
        have hD : va_D (AM mo rs ex xd li bo cu cd) [(mo, .inr (3, [.ref rs, .int (iz len), .int (iz co), .ref ex, .int (iz bi), .int (iz le), .ref li, .int (iz used), .ref bo, .int (iz bl), .ref cu])), (rs, .inl (cB, 4096, .inl (az fr))), (ex, .inr (4, [.ref xd, .int (iz ne), .int (iz pe)])), (xd, .inl (cB, 1300, .inl (az fe))), (li, .inl (cL, 160, .inr (.inl (azl lm)))), (bo, .inl (cB, 4096, .inl (az fb))), (cu, .inr (4, [.ref cd, .int (iz nc), .int (iz pp)])), (cd, .inl (cB, 1300, .inl (az fc)))] := hD
        refine z_go (va_runV (As := [.int (iz 46)]) (rest := []) ⟨hx, hb, hml, hown, hts⟩ hct.2 (z_cwV hts w_Mo_add tw_474 (by decide)) (z_preV hct.1 (va_recv hK hP (ci := 3) (q0 := 0) rfl rfl) hw) rfl rfl hl.1 rfl (lv_room (Nat.le_of_ble_eq_true rfl)) d_Mo_sci_43 ⟨Nat.zero_le _, Nat.zero_le _⟩) hS (fun _ h9 => h9) (fun v9 t9 H locs hv9 hp9 hz9 hk9 hS => ?_)
        obtain ⟨rfl, hw⟩ := hp9
        have hw := MW.moved hv9.symm hw
        refine W.eq (g2 := F0 m 46 ls []) rfl ?_
        refine lv_iconst (v := iz 1) hx hb d_Mo_sci_46 rfl ?_
        refine lv_istore hx hb d_Mo_sci_47 hl (by decide) rfl (fun ls hl => ?_)
        have hl : lv_has ls 6 [(4, .int (iz 1)), (0, .ref mo), (1, .ref ex), (2, .int (iz (cn : Int))), (3, .int (iz pt))] := hl
        have hw : MW D cB cL mo rs ex xd li bo cu cd co bi le rt (((bt ++ [48 + dgt Cx (lead Cx)]) ++ [46]) ++ dl Cx (lead Cx - 1) 0) V Cx s H := by
          show MW _ _ _ _ _ _ _ _ _ _ _ _ _ _ _ (_ ++ []) _ _ _ _
          rw [List.append_nil]
          exact hw
        exact L49 _ ((bt ++ [48 + dgt Cx (lead Cx)]) ++ [46]) 0 1 _ _ _ hw hS (lv_sub hl [1, 2, 3, 0] rfl) ⟨by omega, Nat.zero_le _⟩ (by unfold dotL; first | rw [if_pos (by omega)] | (rw [if_neg (by omega), List.append_nil])) (Nat.lt_succ_self _)
  · have hC0 : Cx = 0 := by
      rw [hCx, hE.zero hc13]
      exact rnd_0 _
    refine lv_bipush (v := iz 48) hx hb d_Mo_sci_16 (by decide) ?_
    refine z_ri (b := 48 + dgt Cx (lead Cx)) (by rw [hC0, dgt_zero]; rfl) ?_
    refine lv_goto (tgt := 29) hx hb d_Mo_sci_18 rfl ?_
    have hct := c_Mo_add l D cB cL mo rs ex xd li bo cu cd co bi le rt (bt) V Cx (48 + dgt Cx (lead Cx)) (dg48 _ _) (by (try simp only [List.length_append, List.length_cons, List.length_nil]); omega)
    refine z_go (va_runV (As := [.int (iz (48 + dgt Cx (lead Cx)))]) (rest := []) ⟨hx, hb, hml, hown, hts⟩ hct.2 (z_cwV hts w_Mo_add tw_474 (by decide)) (z_preV hct.1 (va_recv hK hP (ci := 3) (q0 := 0) rfl rfl) hw) rfl rfl hl.1 rfl (lv_room (Nat.le_of_ble_eq_true rfl)) d_Mo_sci_29 ⟨Nat.zero_le _, Nat.zero_le _⟩) hS (fun _ h9 => h9) (fun v9 t9 H locs hv9 hp9 hz9 hk9 hS => ?_)
    obtain ⟨rfl, hw⟩ := hp9
    have hw := MW.moved hv9.symm hw
    refine W.eq (g2 := F0 m 32 ls []) rfl ?_
    refine lv_iload_n hx hb d_Mo_sci_32 rfl (lv_at hl 2 rfl) ?_
    refine z_if_gt (tgt := 40) hx hb d_Mo_sci_33 rfl ⟨by omega, by omega⟩ (fun hc33 => ?_) (fun hc33 => ?_)
    · refine lv_aload_n hx hb d_Mo_sci_40 rfl (lv_at hl 0 rfl) ?_
      refine lv_bipush (v := iz 46) hx hb d_Mo_sci_41 (by decide) ?_
      have hct := c_Mo_add l D cB cL mo rs ex xd li bo cu cd co bi le rt ((bt ++ [48 + dgt Cx (lead Cx)])) V Cx (46) ⟨by omega, by omega⟩ (by (try simp only [List.length_append, List.length_cons, List.length_nil]); omega)
      have hw9 := hw
      obtain ⟨fc, nc, pp, ⟨len, used, bl, fr, fb, lm, fe, ne, pe, ⟨hK, hP, hD⟩, hrt, hbt, hE, hpe, hlm⟩, hC⟩ := hw9
      have hr1 := hrt.1
      have hr2 := hrt.2.1
      have hb1 := hbt.1
      have hb2 := hbt.2.1
      have hE1 := hE.1
      have hC1 := hC.1
      have hP : va_P D vwCl [(mo, .inr (3, [.ref rs, .int (iz len), .int (iz co), .ref ex, .int (iz bi), .int (iz le), .ref li, .int (iz used), .ref bo, .int (iz bl), .ref cu])), (rs, .inl (cB, 4096, .inl (az fr))), (ex, .inr (4, [.ref xd, .int (iz ne), .int (iz pe)])), (xd, .inl (cB, 1300, .inl (az fe))), (li, .inl (cL, 160, .inr (.inl (azl lm)))), (bo, .inl (cB, 4096, .inl (az fb))), (cu, .inr (4, [.ref cd, .int (iz nc), .int (iz pp)])), (cd, .inl (cB, 1300, .inl (az fc)))] H := hP
      have hD : va_D (AM mo rs ex xd li bo cu cd) [(mo, .inr (3, [.ref rs, .int (iz len), .int (iz co), .ref ex, .int (iz bi), .int (iz le), .ref li, .int (iz used), .ref bo, .int (iz bl), .ref cu])), (rs, .inl (cB, 4096, .inl (az fr))), (ex, .inr (4, [.ref xd, .int (iz ne), .int (iz pe)])), (xd, .inl (cB, 1300, .inl (az fe))), (li, .inl (cL, 160, .inr (.inl (azl lm)))), (bo, .inl (cB, 4096, .inl (az fb))), (cu, .inr (4, [.ref cd, .int (iz nc), .int (iz pp)])), (cd, .inl (cB, 1300, .inl (az fc)))] := hD
      refine z_go (va_runV (As := [.int (iz 46)]) (rest := []) ⟨hx, hb, hml, hown, hts⟩ hct.2 (z_cwV hts w_Mo_add tw_474 (by decide)) (z_preV hct.1 (va_recv hK hP (ci := 3) (q0 := 0) rfl rfl) hw) rfl rfl hl.1 rfl (lv_room (Nat.le_of_ble_eq_true rfl)) d_Mo_sci_43 ⟨Nat.zero_le _, Nat.zero_le _⟩) hS (fun _ h9 => h9) (fun v9 t9 H locs hv9 hp9 hz9 hk9 hS => ?_)
      obtain ⟨rfl, hw⟩ := hp9
      have hw := MW.moved hv9.symm hw
      refine W.eq (g2 := F0 m 46 ls []) rfl ?_
      refine lv_iconst (v := iz 1) hx hb d_Mo_sci_46 rfl ?_
      refine lv_istore hx hb d_Mo_sci_47 hl (by decide) rfl (fun ls hl => ?_)
      have hl : lv_has ls 6 [(4, .int (iz 1)), (0, .ref mo), (1, .ref ex), (2, .int (iz (cn : Int))), (3, .int (iz pt))] := hl
      have hw : MW D cB cL mo rs ex xd li bo cu cd co bi le rt (((bt ++ [48 + dgt Cx (lead Cx)]) ++ [46]) ++ dl Cx (lead Cx - 1) 0) V Cx s H := by
        show MW _ _ _ _ _ _ _ _ _ _ _ _ _ _ _ (_ ++ []) _ _ _ _
        rw [List.append_nil]
        exact hw
      exact L49 _ ((bt ++ [48 + dgt Cx (lead Cx)]) ++ [46]) 0 1 _ _ _ hw hS (lv_sub hl [1, 2, 3, 0] rfl) ⟨by omega, Nat.zero_le _⟩ (by unfold dotL; first | rw [if_pos (by omega)] | (rw [if_neg (by omega), List.append_nil])) (Nat.lt_succ_self _)
    · refine lv_iload_n hx hb d_Mo_sci_36 rfl (lv_at hl 3 rfl) ?_
      refine z_if_eq (tgt := 46) hx hb d_Mo_sci_37 rfl ⟨by omega, by omega⟩ (fun hc37 => ?_) (fun hc37 => ?_)
      · refine lv_iconst (v := iz 1) hx hb d_Mo_sci_46 rfl ?_
        refine lv_istore hx hb d_Mo_sci_47 hl (by decide) rfl (fun ls hl => ?_)
        have hl : lv_has ls 6 [(4, .int (iz 1)), (0, .ref mo), (1, .ref ex), (2, .int (iz (cn : Int))), (3, .int (iz pt))] := hl
        have hw : MW D cB cL mo rs ex xd li bo cu cd co bi le rt ((bt ++ [48 + dgt Cx (lead Cx)]) ++ dl Cx (lead Cx - 1) 0) V Cx s H := by
          show MW _ _ _ _ _ _ _ _ _ _ _ _ _ _ _ (_ ++ []) _ _ _ _
          rw [List.append_nil]
          exact hw
        exact L49 _ (bt ++ [48 + dgt Cx (lead Cx)]) 0 1 _ _ _ hw hS (lv_sub hl [1, 2, 3, 0] rfl) ⟨by omega, Nat.zero_le _⟩ (by unfold dotL; first | rw [if_pos (by omega)] | (rw [if_neg (by omega), List.append_nil])) (Nat.lt_succ_self _)
      · refine lv_aload_n hx hb d_Mo_sci_40 rfl (lv_at hl 0 rfl) ?_
        refine lv_bipush (v := iz 46) hx hb d_Mo_sci_41 (by decide) ?_
        have hct := c_Mo_add l D cB cL mo rs ex xd li bo cu cd co bi le rt ((bt ++ [48 + dgt Cx (lead Cx)])) V Cx (46) ⟨by omega, by omega⟩ (by (try simp only [List.length_append, List.length_cons, List.length_nil]); omega)
        have hw9 := hw
        obtain ⟨fc, nc, pp, ⟨len, used, bl, fr, fb, lm, fe, ne, pe, ⟨hK, hP, hD⟩, hrt, hbt, hE, hpe, hlm⟩, hC⟩ := hw9
        have hr1 := hrt.1
        have hr2 := hrt.2.1
        have hb1 := hbt.1
        have hb2 := hbt.2.1
        have hE1 := hE.1
        have hC1 := hC.1
        have hP : va_P D vwCl [(mo, .inr (3, [.ref rs, .int (iz len), .int (iz co), .ref ex, .int (iz bi), .int (iz le), .ref li, .int (iz used), .ref bo, .int (iz bl), .ref cu])), (rs, .inl (cB, 4096, .inl (az fr))), (ex, .inr (4, [.ref xd, .int (iz ne), .int (iz pe)])), (xd, .inl (cB, 1300, .inl (az fe))), (li, .inl (cL, 160, .inr (.inl (azl lm)))), (bo, .inl (cB, 4096, .inl (az fb))), (cu, .inr (4, [.ref cd, .int (iz nc), .int (iz pp)])), (cd, .inl (cB, 1300, .inl (az fc)))] H := hP
        have hD : va_D (AM mo rs ex xd li bo cu cd) [(mo, .inr (3, [.ref rs, .int (iz len), .int (iz co), .ref ex, .int (iz bi), .int (iz le), .ref li, .int (iz used), .ref bo, .int (iz bl), .ref cu])), (rs, .inl (cB, 4096, .inl (az fr))), (ex, .inr (4, [.ref xd, .int (iz ne), .int (iz pe)])), (xd, .inl (cB, 1300, .inl (az fe))), (li, .inl (cL, 160, .inr (.inl (azl lm)))), (bo, .inl (cB, 4096, .inl (az fb))), (cu, .inr (4, [.ref cd, .int (iz nc), .int (iz pp)])), (cd, .inl (cB, 1300, .inl (az fc)))] := hD
        refine z_go (va_runV (As := [.int (iz 46)]) (rest := []) ⟨hx, hb, hml, hown, hts⟩ hct.2 (z_cwV hts w_Mo_add tw_474 (by decide)) (z_preV hct.1 (va_recv hK hP (ci := 3) (q0 := 0) rfl rfl) hw) rfl rfl hl.1 rfl (lv_room (Nat.le_of_ble_eq_true rfl)) d_Mo_sci_43 ⟨Nat.zero_le _, Nat.zero_le _⟩) hS (fun _ h9 => h9) (fun v9 t9 H locs hv9 hp9 hz9 hk9 hS => ?_)
        obtain ⟨rfl, hw⟩ := hp9
        have hw := MW.moved hv9.symm hw
        refine W.eq (g2 := F0 m 46 ls []) rfl ?_
        refine lv_iconst (v := iz 1) hx hb d_Mo_sci_46 rfl ?_
        refine lv_istore hx hb d_Mo_sci_47 hl (by decide) rfl (fun ls hl => ?_)
        have hl : lv_has ls 6 [(4, .int (iz 1)), (0, .ref mo), (1, .ref ex), (2, .int (iz (cn : Int))), (3, .int (iz pt))] := hl
        have hw : MW D cB cL mo rs ex xd li bo cu cd co bi le rt (((bt ++ [48 + dgt Cx (lead Cx)]) ++ [46]) ++ dl Cx (lead Cx - 1) 0) V Cx s H := by
          show MW _ _ _ _ _ _ _ _ _ _ _ _ _ _ _ (_ ++ []) _ _ _ _
          rw [List.append_nil]
          exact hw
        exact L49 _ ((bt ++ [48 + dgt Cx (lead Cx)]) ++ [46]) 0 1 _ _ _ hw hS (lv_sub hl [1, 2, 3, 0] rfl) ⟨by omega, Nat.zero_le _⟩ (by unfold dotL; first | rw [if_pos (by omega)] | (rw [if_neg (by omega), List.append_nil])) (Nat.lt_succ_self _)
end
section
theorem d_Mo_fix_0 : decode b_Mo_fixed 0 = .ok (.aload_n 1, 1) := by decide +kernel
theorem d_Mo_fix_1 : decode b_Mo_fixed 1 = .ok (.getfield 79, 3) := by decide +kernel
theorem d_Mo_fix_4 : decode b_Mo_fixed 4 = .ok (.ifCond .ne (7), 3) := by decide +kernel
theorem d_Mo_fix_7 : decode b_Mo_fixed 7 = .ok (.iconst 0, 1) := by decide +kernel
theorem d_Mo_fix_8 : decode b_Mo_fixed 8 = .ok (.goto (9), 3) := by decide +kernel
theorem d_Mo_fix_11 : decode b_Mo_fixed 11 = .ok (.aload_n 1, 1) := by decide +kernel
theorem d_Mo_fix_12 : decode b_Mo_fixed 12 = .ok (.getfield 89, 3) := by decide +kernel
theorem d_Mo_fix_15 : decode b_Mo_fixed 15 = .ok (.iload_n 2, 1) := by decide +kernel
theorem d_Mo_fix_16 : decode b_Mo_fixed 16 = .ok (.iadd, 1) := by decide +kernel
theorem d_Mo_fix_17 : decode b_Mo_fixed 17 = .ok (.istore 5, 2) := by decide +kernel
theorem d_Mo_fix_19 : decode b_Mo_fixed 19 = .ok (.aload_n 0, 1) := by decide +kernel
theorem d_Mo_fix_20 : decode b_Mo_fixed 20 = .ok (.aload_n 1, 1) := by decide +kernel
theorem d_Mo_fix_21 : decode b_Mo_fixed 21 = .ok (.iload 5, 2) := by decide +kernel
theorem d_Mo_fix_23 : decode b_Mo_fixed 23 = .ok (.invokevirtual 99, 3) := by decide +kernel
theorem d_Mo_fix_26 : decode b_Mo_fixed 26 = .ok (.aload_n 1, 1) := by decide +kernel
theorem d_Mo_fix_27 : decode b_Mo_fixed 27 = .ok (.getfield 79, 3) := by decide +kernel
theorem d_Mo_fix_30 : decode b_Mo_fixed 30 = .ok (.ifCond .eq (13), 3) := by decide +kernel
theorem d_Mo_fix_33 : decode b_Mo_fixed 33 = .ok (.aload_n 0, 1) := by decide +kernel
theorem d_Mo_fix_34 : decode b_Mo_fixed 34 = .ok (.getfield 27, 3) := by decide +kernel
theorem d_Mo_fix_37 : decode b_Mo_fixed 37 = .ok (.getfield 79, 3) := by decide +kernel
theorem d_Mo_fix_40 : decode b_Mo_fixed 40 = .ok (.ifCond .ne (7), 3) := by decide +kernel
theorem d_Mo_fix_43 : decode b_Mo_fixed 43 = .ok (.iconst 1, 1) := by decide +kernel
theorem d_Mo_fix_44 : decode b_Mo_fixed 44 = .ok (.goto (4), 3) := by decide +kernel
theorem d_Mo_fix_47 : decode b_Mo_fixed 47 = .ok (.iconst 0, 1) := by decide +kernel
theorem d_Mo_fix_48 : decode b_Mo_fixed 48 = .ok (.istore 6, 2) := by decide +kernel
theorem d_Mo_fix_50 : decode b_Mo_fixed 50 = .ok (.iload 6, 2) := by decide +kernel
theorem d_Mo_fix_52 : decode b_Mo_fixed 52 = .ok (.ifCond .ne (14), 3) := by decide +kernel
theorem d_Mo_fix_55 : decode b_Mo_fixed 55 = .ok (.aload_n 0, 1) := by decide +kernel
theorem d_Mo_fix_56 : decode b_Mo_fixed 56 = .ok (.getfield 27, 3) := by decide +kernel
theorem d_Mo_fix_59 : decode b_Mo_fixed 59 = .ok (.getfield 89, 3) := by decide +kernel
theorem d_Mo_fix_62 : decode b_Mo_fixed 62 = .ok (.iconst 1, 1) := by decide +kernel
theorem d_Mo_fix_63 : decode b_Mo_fixed 63 = .ok (.if_icmp .ge (7), 3) := by decide +kernel
theorem d_Mo_fix_66 : decode b_Mo_fixed 66 = .ok (.iconst 0, 1) := by decide +kernel
theorem d_Mo_fix_67 : decode b_Mo_fixed 67 = .ok (.goto (10), 3) := by decide +kernel
theorem d_Mo_fix_70 : decode b_Mo_fixed 70 = .ok (.aload_n 0, 1) := by decide +kernel
theorem d_Mo_fix_71 : decode b_Mo_fixed 71 = .ok (.getfield 27, 3) := by decide +kernel
theorem d_Mo_fix_74 : decode b_Mo_fixed 74 = .ok (.getfield 89, 3) := by decide +kernel
theorem d_Mo_fix_77 : decode b_Mo_fixed 77 = .ok (.istore 7, 2) := by decide +kernel
theorem d_Mo_fix_79 : decode b_Mo_fixed 79 = .ok (.iload 7, 2) := by decide +kernel
theorem d_Mo_fix_81 : decode b_Mo_fixed 81 = .ok (.ifCond .ne (9), 3) := by decide +kernel
theorem d_Mo_fix_84 : decode b_Mo_fixed 84 = .ok (.aload_n 0, 1) := by decide +kernel
theorem d_Mo_fix_85 : decode b_Mo_fixed 85 = .ok (.bipush (48), 2) := by decide +kernel
theorem d_Mo_fix_87 : decode b_Mo_fixed 87 = .ok (.invokevirtual 107, 3) := by decide +kernel
theorem d_Mo_fix_90 : decode b_Mo_fixed 90 = .ok (.iconst 0, 1) := by decide +kernel
theorem d_Mo_fix_91 : decode b_Mo_fixed 91 = .ok (.istore 8, 2) := by decide +kernel
theorem d_Mo_fix_93 : decode b_Mo_fixed 93 = .ok (.iload 8, 2) := by decide +kernel
theorem d_Mo_fix_95 : decode b_Mo_fixed 95 = .ok (.iload 7, 2) := by decide +kernel
theorem d_Mo_fix_97 : decode b_Mo_fixed 97 = .ok (.if_icmp .ge (47), 3) := by decide +kernel
theorem d_Mo_fix_100 : decode b_Mo_fixed 100 = .ok (.iload_n 3, 1) := by decide +kernel
theorem d_Mo_fix_101 : decode b_Mo_fixed 101 = .ok (.ifCond .eq (24), 3) := by decide +kernel
theorem d_Mo_fix_104 : decode b_Mo_fixed 104 = .ok (.iload 8, 2) := by decide +kernel
theorem d_Mo_fix_106 : decode b_Mo_fixed 106 = .ok (.ifCond .le (19), 3) := by decide +kernel
theorem d_Mo_fix_109 : decode b_Mo_fixed 109 = .ok (.iload 7, 2) := by decide +kernel
theorem d_Mo_fix_111 : decode b_Mo_fixed 111 = .ok (.iload 8, 2) := by decide +kernel
theorem d_Mo_fix_113 : decode b_Mo_fixed 113 = .ok (.isub, 1) := by decide +kernel
theorem d_Mo_fix_114 : decode b_Mo_fixed 114 = .ok (.iconst 3, 1) := by decide +kernel
theorem d_Mo_fix_115 : decode b_Mo_fixed 115 = .ok (.irem, 1) := by decide +kernel
theorem d_Mo_fix_116 : decode b_Mo_fixed 116 = .ok (.ifCond .ne (9), 3) := by decide +kernel
theorem d_Mo_fix_119 : decode b_Mo_fixed 119 = .ok (.aload_n 0, 1) := by decide +kernel
theorem d_Mo_fix_120 : decode b_Mo_fixed 120 = .ok (.bipush (44), 2) := by decide +kernel
theorem d_Mo_fix_122 : decode b_Mo_fixed 122 = .ok (.invokevirtual 107, 3) := by decide +kernel
theorem d_Mo_fix_125 : decode b_Mo_fixed 125 = .ok (.aload_n 0, 1) := by decide +kernel
theorem d_Mo_fix_126 : decode b_Mo_fixed 126 = .ok (.aload_n 0, 1) := by decide +kernel
theorem d_Mo_fix_127 : decode b_Mo_fixed 127 = .ok (.getfield 27, 3) := by decide +kernel
theorem d_Mo_fix_130 : decode b_Mo_fixed 130 = .ok (.iload 8, 2) := by decide +kernel
theorem d_Mo_fix_132 : decode b_Mo_fixed 132 = .ok (.invokestatic 103, 3) := by decide +kernel
theorem d_Mo_fix_135 : decode b_Mo_fixed 135 = .ok (.invokevirtual 107, 3) := by decide +kernel
theorem d_Mo_fix_138 : decode b_Mo_fixed 138 = .ok (.iinc 8 (1), 3) := by decide +kernel
theorem d_Mo_fix_141 : decode b_Mo_fixed 141 = .ok (.goto (-48), 3) := by decide +kernel
theorem d_Mo_fix_144 : decode b_Mo_fixed 144 = .ok (.iload_n 2, 1) := by decide +kernel
theorem d_Mo_fix_145 : decode b_Mo_fixed 145 = .ok (.ifCond .gt (8), 3) := by decide +kernel
theorem d_Mo_fix_148 : decode b_Mo_fixed 148 = .ok (.iload 4, 2) := by decide +kernel
theorem d_Mo_fix_150 : decode b_Mo_fixed 150 = .ok (.ifCond .eq (9), 3) := by decide +kernel
theorem d_Mo_fix_153 : decode b_Mo_fixed 153 = .ok (.aload_n 0, 1) := by decide +kernel
theorem d_Mo_fix_154 : decode b_Mo_fixed 154 = .ok (.bipush (46), 2) := by decide +kernel
theorem d_Mo_fix_156 : decode b_Mo_fixed 156 = .ok (.invokevirtual 107, 3) := by decide +kernel
theorem d_Mo_fix_159 : decode b_Mo_fixed 159 = .ok (.iconst 0, 1) := by decide +kernel
theorem d_Mo_fix_160 : decode b_Mo_fixed 160 = .ok (.istore 8, 2) := by decide +kernel
theorem d_Mo_fix_162 : decode b_Mo_fixed 162 = .ok (.iload 8, 2) := by decide +kernel
theorem d_Mo_fix_164 : decode b_Mo_fixed 164 = .ok (.iload_n 2, 1) := by decide +kernel
theorem d_Mo_fix_165 : decode b_Mo_fixed 165 = .ok (.if_icmp .ge (53), 3) := by decide +kernel
theorem d_Mo_fix_168 : decode b_Mo_fixed 168 = .ok (.iload 6, 2) := by decide +kernel
theorem d_Mo_fix_170 : decode b_Mo_fixed 170 = .ok (.ifCond .eq (7), 3) := by decide +kernel
theorem d_Mo_fix_173 : decode b_Mo_fixed 173 = .ok (.iconst (-1), 1) := by decide +kernel
theorem d_Mo_fix_174 : decode b_Mo_fixed 174 = .ok (.goto (13), 3) := by decide +kernel
theorem d_Mo_fix_177 : decode b_Mo_fixed 177 = .ok (.aload_n 0, 1) := by decide +kernel
theorem d_Mo_fix_178 : decode b_Mo_fixed 178 = .ok (.getfield 27, 3) := by decide +kernel
theorem d_Mo_fix_181 : decode b_Mo_fixed 181 = .ok (.getfield 89, 3) := by decide +kernel
theorem d_Mo_fix_184 : decode b_Mo_fixed 184 = .ok (.iload 8, 2) := by decide +kernel
theorem d_Mo_fix_186 : decode b_Mo_fixed 186 = .ok (.iadd, 1) := by decide +kernel
theorem d_Mo_fix_187 : decode b_Mo_fixed 187 = .ok (.istore 9, 2) := by decide +kernel
theorem d_Mo_fix_189 : decode b_Mo_fixed 189 = .ok (.aload_n 0, 1) := by decide +kernel
theorem d_Mo_fix_190 : decode b_Mo_fixed 190 = .ok (.iload 9, 2) := by decide +kernel
theorem d_Mo_fix_192 : decode b_Mo_fixed 192 = .ok (.ifCond .ge (8), 3) := by decide +kernel
theorem d_Mo_fix_195 : decode b_Mo_fixed 195 = .ok (.bipush (48), 2) := by decide +kernel
theorem d_Mo_fix_197 : decode b_Mo_fixed 197 = .ok (.goto (12), 3) := by decide +kernel
theorem d_Mo_fix_200 : decode b_Mo_fixed 200 = .ok (.aload_n 0, 1) := by decide +kernel
theorem d_Mo_fix_201 : decode b_Mo_fixed 201 = .ok (.getfield 27, 3) := by decide +kernel
theorem d_Mo_fix_204 : decode b_Mo_fixed 204 = .ok (.iload 9, 2) := by decide +kernel
theorem d_Mo_fix_206 : decode b_Mo_fixed 206 = .ok (.invokestatic 103, 3) := by decide +kernel
theorem d_Mo_fix_209 : decode b_Mo_fixed 209 = .ok (.invokevirtual 107, 3) := by decide +kernel
theorem d_Mo_fix_212 : decode b_Mo_fixed 212 = .ok (.iinc 8 (1), 3) := by decide +kernel
theorem d_Mo_fix_215 : decode b_Mo_fixed 215 = .ok (.goto (-53), 3) := by decide +kernel
theorem d_Mo_fix_218 : decode b_Mo_fixed 218 = .ok (.return_, 1) := by decide +kernel
set_option maxHeartbeats 4000000 in
set_option maxRecDepth 100000 in
theorem c_Mo_fix (l : Launch) (D : va_G) (cB cL : ClassId) (mo rs ex xd li bo cu cd : Nat) (co bi le : Int) (rt bt : List Int) (V C : Int) (cn : Nat) (gr pt Cx : Int) (hCx : Cx = rnd V (-(cn : Int))) (hcn : cn ≤ 2000) (hgr : gr = 0 ∨ gr = 1) (hpt : pt = 0 ∨ pt = 1) (hr0 : lead Cx ≤ 999) (hlen : bt.length + (ipR Cx gr (max (lead Cx) 0)).length + cn + 2 ≤ 4096) : Ct l y_Mo_fixed (ws_Mo_fixed) 2 (AM mo rs ex xd li bo cu cd) [.ref mo, .ref ex, .int (iz (cn : Int)), .int (iz gr), .int (iz pt)] (MW D cB cL mo rs ex xd li bo cu cd co bi le rt bt V C) (zR none (MW D cB cL mo rs ex xd li bo cu cd co bi le rt (bt ++ fixL Cx (lead Cx) cn gr pt) V Cx)) := by
  refine z_body zSt_MW (by decide +kernel) rfl (Nat.le_of_ble_eq_true rfl) ?_
  intro p e s m args below meth c ls hx hb hml hr hlk hts0 hown hpre0 H locs hpre hS hl
  have hts : ∀ w ∈ TBL, w.before args s = true := fun w hw => hts0 w (List.mem_cons_of_mem _ hw)
  have hl : lv_has ls 10 [(0, .ref mo), (1, .ref ex), (2, .int (iz (cn : Int))), (3, .int (iz gr)), (4, .int (iz pt))] := hl
  have hw := hpre
  have hV0 : 0 ≤ V := by
    obtain ⟨_, _, _, ⟨_, _, _, _, _, _, _, _, _, _, _, _, h8, _⟩, _⟩ := hw
    exact h8.nn
  have hCn : 0 ≤ Cx := by rw [hCx]; exact rnd_nn hV0
  have L162 : ∀ (N162 : Nat) (bt0 : List Int) (i : Nat) (k : Int) (nn : Int) (bf : Int) (H : Heap) (locs : List Loc) (ls : Array Slot), MW D cB cL mo rs ex xd li bo cu cd co bi le rt (bt0 ++ dl Cx (-1) i) V Cx s H → va_S (AM mo rs ex xd li bo cu cd) s.heap H locs → lv_has ls 10 [(0, .ref mo), (2, .int (iz (cn : Int))), (6, .int (iz nn)), (8, .int (iz k))] → (k = (i : Int) ∧ i ≤ cn) → ((nn = 1 ∧ Cx = 0 ∧ bf = 0) ∨ (nn = 0 ∧ Cx ≠ 0 ∧ bf = max (lead Cx + 1) 0)) → (bt0 = (bt ++ ipR Cx gr (max (lead Cx) 0)) ++ dotL cn pt) → cn - i < N162 → W p l e (zrm 2) s m args below meth c H locs 0 0 (MQ below (zQ (AM mo rs ex xd li bo cu cd) (zR none (MW D cB cL mo rs ex xd li bo cu cd co bi le rt (bt ++ fixL Cx (lead Cx) cn gr pt) V Cx))) args s 0 0 (AM mo rs ex xd li bo cu cd)) (F0 m 162 ls []) := by
    intro N162
    induction N162 with
    | zero => intro bt0 i k nn bf H locs ls hw hS hl hk hnn hbt0 hN162; exact absurd hN162 (Nat.not_lt_zero _)
    | succ N162 ih162 =>
      intro bt0 i k nn bf H locs ls hw hS hl hk hnn hbt0 hN162
      have hl1 := dl_len Cx (-1) i
      have hl2 := dotL_len cn pt
      have hl3 : bt0.length = bt.length + (ipR Cx gr (max (lead Cx) 0)).length + (dotL cn pt).length := by rw [hbt0, List.length_append, List.length_append]
      refine lv_iload hx hb d_Mo_fix_162 (lv_at hl 3 rfl) ?_
      refine lv_iload_n hx hb d_Mo_fix_164 rfl (lv_at hl 1 rfl) ?_
      refine z_icmp_ge (tgt := 218) hx hb d_Mo_fix_165 rfl ⟨by omega, by omega⟩ ⟨by omega, by omega⟩ (fun hc165 => ?_) (fun hc165 => ?_)
      · exact z_vret hx hb hr hlk hS (zR_st zSt_MW) ⟨rfl, by
            have e8 : i = cn := by omega
            unfold fixL behL
            rw [e8, hbt0] at hw
            simpa [List.append_assoc] using hw⟩ d_Mo_fix_218
      · refine lv_iload hx hb d_Mo_fix_168 (lv_at hl 2 rfl) ?_
        refine z_if_eq (tgt := 177) hx hb d_Mo_fix_170 rfl ⟨by omega, by omega⟩ (fun hc170 => ?_) (fun hc170 => ?_)
        · have hCne : Cx ≠ 0 := by omega
          refine lv_aload_n hx hb d_Mo_fix_177 rfl (lv_at hl 0 rfl) ?_
          have hw9 := hw
          obtain ⟨fc, nc, pp, ⟨len, used, bl, fr, fb, lm, fe, ne, pe, ⟨hK, hP, hD⟩, hrt, hbt, hE, hpe, hlm⟩, hC⟩ := hw9
          have hr1 := hrt.1
          have hr2 := hrt.2.1
          have hb1 := hbt.1
          have hb2 := hbt.2.1
          have hE1 := hE.1
          have hC1 := hC.1
          have hP : va_P D vwCl [(mo, .inr (3, [.ref rs, .int (iz len), .int (iz co), .ref ex, .int (iz bi), .int (iz le), .ref li, .int (iz used), .ref bo, .int (iz bl), .ref cu])), (rs, .inl (cB, 4096, .inl (az fr))), (ex, .inr (4, [.ref xd, .int (iz ne), .int (iz pe)])), (xd, .inl (cB, 1300, .inl (az fe))), (li, .inl (cL, 160, .inr (.inl (azl lm)))), (bo, .inl (cB, 4096, .inl (az fb))), (cu, .inr (4, [.ref cd, .int (iz nc), .int (iz pp)])), (cd, .inl (cB, 1300, .inl (az fc)))] H := hP
          have hD : va_D (AM mo rs ex xd li bo cu cd) [(mo, .inr (3, [.ref rs, .int (iz len), .int (iz co), .ref ex, .int (iz bi), .int (iz le), .ref li, .int (iz used), .ref bo, .int (iz bl), .ref cu])), (rs, .inl (cB, 4096, .inl (az fr))), (ex, .inr (4, [.ref xd, .int (iz ne), .int (iz pe)])), (xd, .inl (cB, 1300, .inl (az fe))), (li, .inl (cL, 160, .inr (.inl (azl lm)))), (bo, .inl (cB, 4096, .inl (az fb))), (cu, .inr (4, [.ref cd, .int (iz nc), .int (iz pp)])), (cd, .inl (cB, 1300, .inl (az fc)))] := hD
          refine va_get (D := D) (ci := 3) (v := .ref cu) (C := R_3) (T := T_3) (N := 11) hx hb hts in_3 hown hK hP 0 rfl rfl 10 (by decide) (hts _ tw_402) (fun _ h9 => h9) rfl d_Mo_fix_178 ?_
          refine va_get (D := D) (ci := 4) (v := .int (iz pp)) (C := R_4) (T := T_4) (N := 3) hx hb hts in_4 hown hK hP 6 rfl rfl 2 (by decide) (hts _ tw_384) (fun _ h9 => h9) rfl d_Mo_fix_181 ?_
          have hpl : pp = lead Cx + 1 := by
            have h9 : nc ≠ 0 := fun q => hCne (hC.zero q)
            have := hC.leadv (by omega)
            omega
          refine lv_iload hx hb d_Mo_fix_184 (lv_at hl 3 rfl) ?_
          refine z_iadd hx hb d_Mo_fix_186 ?_
          refine z_ri (b := lead Cx + 1 + k) (by rw [hpl]) ?_
          refine lv_istore hx hb d_Mo_fix_187 hl (by decide) rfl (fun ls hl => ?_)
          have hl : lv_has ls 10 [(9, .int (iz (lead Cx + 1 + k))), (0, .ref mo), (2, .int (iz (cn : Int))), (6, .int (iz nn)), (8, .int (iz k))] := hl
          refine lv_aload_n hx hb d_Mo_fix_189 rfl (lv_at hl 1 rfl) ?_
          refine lv_iload hx hb d_Mo_fix_190 (lv_at hl 0 rfl) ?_
          refine z_if_ge (tgt := 200) hx hb d_Mo_fix_192 rfl ⟨by omega, by omega⟩ (fun hc192 => ?_) (fun hc192 => ?_)
          · refine lv_aload_n hx hb d_Mo_fix_200 rfl (lv_at hl 1 rfl) ?_
            refine va_get (D := D) (ci := 3) (v := .ref cu) (C := R_3) (T := T_3) (N := 11) hx hb hts in_3 hown hK hP 0 rfl rfl 10 (by decide) (hts _ tw_402) (fun _ h9 => h9) rfl d_Mo_fix_201 ?_
            refine lv_iload hx hb d_Mo_fix_204 (lv_at hl 0 rfl) ?_
            have hct := c_Mo_digit l D cB cL mo rs ex xd li bo cu cd co bi le rt (bt0 ++ dl Cx (-1) i) V Cx (lead Cx + 1 + k) ⟨by omega, by omega⟩
            refine z_go (va_runS (As := [.ref cu, .int (iz (lead Cx + 1 + k))]) (rest := [.ref mo]) ⟨hx, hb, hml, hown, hts⟩ hct.2 (z_cwS hts w_Mo_digit tw_515 (by decide)) (z_preS hct.1 hw) rfl rfl hl.1 rfl (lv_room (Nat.le_of_ble_eq_true rfl)) d_Mo_fix_206 ⟨Nat.zero_le _, Nat.zero_le _⟩) hS (fun _ h9 => h9) (fun v9 t9 H locs hv9 hp9 hz9 hk9 hS => ?_)
            obtain ⟨rfl, hw⟩ := hp9
            have hw := MW.moved hv9.symm hw
            refine W.eq (g2 := F0 m 209 ls [.int (iz (48 + dgt Cx (lead Cx - (lead Cx + 1 + k)))), .ref mo]) rfl ?_
            refine z_ri (b := 48 + dgt Cx (-1 - (i : Int))) (by rw [show lead Cx - (lead Cx + 1 + k) = -1 - (i : Int) by omega]) ?_
            have hct := c_Mo_add l D cB cL mo rs ex xd li bo cu cd co bi le rt (bt0 ++ dl Cx (-1) i) V Cx (48 + dgt Cx (-1 - (i : Int))) (dg48 _ _) (by (try simp only [List.length_append, List.length_cons, List.length_nil]); omega)
            have hw9 := hw
            obtain ⟨fc, nc, pp, ⟨len, used, bl, fr, fb, lm, fe, ne, pe, ⟨hK, hP, hD⟩, hrt, hbt, hE, hpe, hlm⟩, hC⟩ := hw9
            have hr1 := hrt.1
            have hr2 := hrt.2.1
            have hb1 := hbt.1
            have hb2 := hbt.2.1
            have hE1 := hE.1
            have hC1 := hC.1
            have hP : va_P D vwCl [(mo, .inr (3, [.ref rs, .int (iz len), .int (iz co), .ref ex, .int (iz bi), .int (iz le), .ref li, .int (iz used), .ref bo, .int (iz bl), .ref cu])), (rs, .inl (cB, 4096, .inl (az fr))), (ex, .inr (4, [.ref xd, .int (iz ne), .int (iz pe)])), (xd, .inl (cB, 1300, .inl (az fe))), (li, .inl (cL, 160, .inr (.inl (azl lm)))), (bo, .inl (cB, 4096, .inl (az fb))), (cu, .inr (4, [.ref cd, .int (iz nc), .int (iz pp)])), (cd, .inl (cB, 1300, .inl (az fc)))] H := hP
            have hD : va_D (AM mo rs ex xd li bo cu cd) [(mo, .inr (3, [.ref rs, .int (iz len), .int (iz co), .ref ex, .int (iz bi), .int (iz le), .ref li, .int (iz used), .ref bo, .int (iz bl), .ref cu])), (rs, .inl (cB, 4096, .inl (az fr))), (ex, .inr (4, [.ref xd, .int (iz ne), .int (iz pe)])), (xd, .inl (cB, 1300, .inl (az fe))), (li, .inl (cL, 160, .inr (.inl (azl lm)))), (bo, .inl (cB, 4096, .inl (az fb))), (cu, .inr (4, [.ref cd, .int (iz nc), .int (iz pp)])), (cd, .inl (cB, 1300, .inl (az fc)))] := hD
            refine z_go (va_runV (As := [.int (iz (48 + dgt Cx (-1 - (i : Int))))]) (rest := []) ⟨hx, hb, hml, hown, hts⟩ hct.2 (z_cwV hts w_Mo_add tw_474 (by decide)) (z_preV hct.1 (va_recv hK hP (ci := 3) (q0 := 0) rfl rfl) hw) rfl rfl hl.1 rfl (lv_room (Nat.le_of_ble_eq_true rfl)) d_Mo_fix_209 ⟨Nat.zero_le _, Nat.zero_le _⟩) hS (fun _ h9 => h9) (fun v9 t9 H locs hv9 hp9 hz9 hk9 hS => ?_)
            obtain ⟨rfl, hw⟩ := hp9
            have hw := MW.moved hv9.symm hw
            refine W.eq (g2 := F0 m 212 ls []) rfl ?_
            refine lv_iinc (k := 4) (v := (iz (k + 1))) hx hb d_Mo_fix_212 hl rfl (by show iz _ + iz (1) = _; rw [← iz_add]; try rfl) (by decide) rfl (fun ls hl => ?_)
            have hl : lv_has ls 10 [(8, .int (iz (k + 1))), (9, .int (iz (lead Cx + 1 + k))), (0, .ref mo), (2, .int (iz (cn : Int))), (6, .int (iz nn))] := hl
            refine lv_goto (tgt := 162) hx hb d_Mo_fix_215 rfl ?_
            have hw : MW D cB cL mo rs ex xd li bo cu cd co bi le rt (bt0 ++ dl Cx (-1) (i + 1)) V Cx s H := by
              show MW _ _ _ _ _ _ _ _ _ _ _ _ _ _ _ (_ ++ (_ ++ _)) _ _ _ _
              rw [← List.append_assoc]
              exact hw
            exact ih162 bt0 (i + 1) (k + 1) nn bf _ _ _ hw hS (lv_sub hl [2, 3, 4, 0] rfl) ⟨by omega, by omega⟩ hnn hbt0 (by omega)
          · have hz8 : (48 : Int) = 48 + dgt Cx (-1 - (i : Int)) := by
              have h9 : dgt Cx (-1 - (i : Int)) = 0 := by
                first
                  | exact dgt_above hCn (by omega)
                  | (rw [show Cx = 0 by omega]; exact dgt_zero _)
              rw [h9]; rfl
            refine lv_bipush (v := iz 48) hx hb d_Mo_fix_195 (by decide) ?_
            refine z_ri (b := 48 + dgt Cx (-1 - (i : Int))) hz8 ?_
            refine lv_goto (tgt := 209) hx hb d_Mo_fix_197 rfl ?_
            have hct := c_Mo_add l D cB cL mo rs ex xd li bo cu cd co bi le rt (bt0 ++ dl Cx (-1) i) V Cx (48 + dgt Cx (-1 - (i : Int))) (dg48 _ _) (by (try simp only [List.length_append, List.length_cons, List.length_nil]); omega)
            refine z_go (va_runV (As := [.int (iz (48 + dgt Cx (-1 - (i : Int))))]) (rest := []) ⟨hx, hb, hml, hown, hts⟩ hct.2 (z_cwV hts w_Mo_add tw_474 (by decide)) (z_preV hct.1 (va_recv hK hP (ci := 3) (q0 := 0) rfl rfl) hw) rfl rfl hl.1 rfl (lv_room (Nat.le_of_ble_eq_true rfl)) d_Mo_fix_209 ⟨Nat.zero_le _, Nat.zero_le _⟩) hS (fun _ h9 => h9) (fun v9 t9 H locs hv9 hp9 hz9 hk9 hS => ?_)
            obtain ⟨rfl, hw⟩ := hp9
            have hw := MW.moved hv9.symm hw
            refine W.eq (g2 := F0 m 212 ls []) rfl ?_
            refine lv_iinc (k := 4) (v := (iz (k + 1))) hx hb d_Mo_fix_212 hl rfl (by show iz _ + iz (1) = _; rw [← iz_add]; try rfl) (by decide) rfl (fun ls hl => ?_)
            have hl : lv_has ls 10 [(8, .int (iz (k + 1))), (9, .int (iz (lead Cx + 1 + k))), (0, .ref mo), (2, .int (iz (cn : Int))), (6, .int (iz nn))] := hl
            refine lv_goto (tgt := 162) hx hb d_Mo_fix_215 rfl ?_
            have hw : MW D cB cL mo rs ex xd li bo cu cd co bi le rt (bt0 ++ dl Cx (-1) (i + 1)) V Cx s H := by
              show MW _ _ _ _ _ _ _ _ _ _ _ _ _ _ _ (_ ++ (_ ++ _)) _ _ _ _
              rw [← List.append_assoc]
              exact hw
            exact ih162 bt0 (i + 1) (k + 1) nn bf _ _ _ hw hS (lv_sub hl [2, 3, 4, 0] rfl) ⟨by omega, by omega⟩ hnn hbt0 (by omega)
        · refine lv_iconst (v := iz (-1)) hx hb d_Mo_fix_173 rfl ?_
          refine lv_goto (tgt := 187) hx hb d_Mo_fix_174 rfl ?_
          refine lv_istore hx hb d_Mo_fix_187 hl (by decide) rfl (fun ls hl => ?_)
          have hl : lv_has ls 10 [(9, .int (iz (-1))), (0, .ref mo), (2, .int (iz (cn : Int))), (6, .int (iz nn)), (8, .int (iz k))] := hl
          refine lv_aload_n hx hb d_Mo_fix_189 rfl (lv_at hl 1 rfl) ?_
          refine lv_iload hx hb d_Mo_fix_190 (lv_at hl 0 rfl) ?_
          refine z_if_ge (tgt := 200) hx hb d_Mo_fix_192 rfl ⟨by omega, by omega⟩ (fun hc192 => ?_) (fun hc192 => ?_)
          · exfalso
            omega
          · have hz8 : (48 : Int) = 48 + dgt Cx (-1 - (i : Int)) := by
              have h9 : dgt Cx (-1 - (i : Int)) = 0 := by
                first
                  | exact dgt_above hCn (by omega)
                  | (rw [show Cx = 0 by omega]; exact dgt_zero _)
              rw [h9]; rfl
            refine lv_bipush (v := iz 48) hx hb d_Mo_fix_195 (by decide) ?_
            refine z_ri (b := 48 + dgt Cx (-1 - (i : Int))) hz8 ?_
            refine lv_goto (tgt := 209) hx hb d_Mo_fix_197 rfl ?_
            have hct := c_Mo_add l D cB cL mo rs ex xd li bo cu cd co bi le rt (bt0 ++ dl Cx (-1) i) V Cx (48 + dgt Cx (-1 - (i : Int))) (dg48 _ _) (by (try simp only [List.length_append, List.length_cons, List.length_nil]); omega)
            have hw9 := hw
            obtain ⟨fc, nc, pp, ⟨len, used, bl, fr, fb, lm, fe, ne, pe, ⟨hK, hP, hD⟩, hrt, hbt, hE, hpe, hlm⟩, hC⟩ := hw9
            have hr1 := hrt.1
            have hr2 := hrt.2.1
            have hb1 := hbt.1
            have hb2 := hbt.2.1
            have hE1 := hE.1
            have hC1 := hC.1
            have hP : va_P D vwCl [(mo, .inr (3, [.ref rs, .int (iz len), .int (iz co), .ref ex, .int (iz bi), .int (iz le), .ref li, .int (iz used), .ref bo, .int (iz bl), .ref cu])), (rs, .inl (cB, 4096, .inl (az fr))), (ex, .inr (4, [.ref xd, .int (iz ne), .int (iz pe)])), (xd, .inl (cB, 1300, .inl (az fe))), (li, .inl (cL, 160, .inr (.inl (azl lm)))), (bo, .inl (cB, 4096, .inl (az fb))), (cu, .inr (4, [.ref cd, .int (iz nc), .int (iz pp)])), (cd, .inl (cB, 1300, .inl (az fc)))] H := hP
            have hD : va_D (AM mo rs ex xd li bo cu cd) [(mo, .inr (3, [.ref rs, .int (iz len), .int (iz co), .ref ex, .int (iz bi), .int (iz le), .ref li, .int (iz used), .ref bo, .int (iz bl), .ref cu])), (rs, .inl (cB, 4096, .inl (az fr))), (ex, .inr (4, [.ref xd, .int (iz ne), .int (iz pe)])), (xd, .inl (cB, 1300, .inl (az fe))), (li, .inl (cL, 160, .inr (.inl (azl lm)))), (bo, .inl (cB, 4096, .inl (az fb))), (cu, .inr (4, [.ref cd, .int (iz nc), .int (iz pp)])), (cd, .inl (cB, 1300, .inl (az fc)))] := hD
            refine z_go (va_runV (As := [.int (iz (48 + dgt Cx (-1 - (i : Int))))]) (rest := []) ⟨hx, hb, hml, hown, hts⟩ hct.2 (z_cwV hts w_Mo_add tw_474 (by decide)) (z_preV hct.1 (va_recv hK hP (ci := 3) (q0 := 0) rfl rfl) hw) rfl rfl hl.1 rfl (lv_room (Nat.le_of_ble_eq_true rfl)) d_Mo_fix_209 ⟨Nat.zero_le _, Nat.zero_le _⟩) hS (fun _ h9 => h9) (fun v9 t9 H locs hv9 hp9 hz9 hk9 hS => ?_)
            obtain ⟨rfl, hw⟩ := hp9
            have hw := MW.moved hv9.symm hw
            refine W.eq (g2 := F0 m 212 ls []) rfl ?_
            refine lv_iinc (k := 4) (v := (iz (k + 1))) hx hb d_Mo_fix_212 hl rfl (by show iz _ + iz (1) = _; rw [← iz_add]; try rfl) (by decide) rfl (fun ls hl => ?_)
            have hl : lv_has ls 10 [(8, .int (iz (k + 1))), (9, .int (iz (-1))), (0, .ref mo), (2, .int (iz (cn : Int))), (6, .int (iz nn))] := hl
            refine lv_goto (tgt := 162) hx hb d_Mo_fix_215 rfl ?_
            have hw : MW D cB cL mo rs ex xd li bo cu cd co bi le rt (bt0 ++ dl Cx (-1) (i + 1)) V Cx s H := by
              show MW _ _ _ _ _ _ _ _ _ _ _ _ _ _ _ (_ ++ (_ ++ _)) _ _ _ _
              rw [← List.append_assoc]
              exact hw
            exact ih162 bt0 (i + 1) (k + 1) nn bf _ _ _ hw hS (lv_sub hl [2, 3, 4, 0] rfl) ⟨by omega, by omega⟩ hnn hbt0 (by omega)
  have L93 : ∀ (N93 : Nat) (bt0 : List Int) (i : Int) (nn : Int) (bf : Int) (H : Heap) (locs : List Loc) (ls : Array Slot), MW D cB cL mo rs ex xd li bo cu cd co bi le rt bt0 V Cx s H → va_S (AM mo rs ex xd li bo cu cd) s.heap H locs → lv_has ls 10 [(0, .ref mo), (2, .int (iz (cn : Int))), (3, .int (iz gr)), (4, .int (iz pt)), (6, .int (iz nn)), (7, .int (iz bf)), (8, .int (iz i))] → (0 ≤ i ∧ i ≤ bf) → ((nn = 1 ∧ Cx = 0 ∧ bf = 0) ∨ (nn = 0 ∧ Cx ≠ 0 ∧ bf = max (lead Cx + 1) 0)) → (bt0 ++ pend Cx gr bf i = bt ++ ipR Cx gr (max (lead Cx) 0)) → (bf - i).toNat < N93 → W p l e (zrm 2) s m args below meth c H locs 0 0 (MQ below (zQ (AM mo rs ex xd li bo cu cd) (zR none (MW D cB cL mo rs ex xd li bo cu cd co bi le rt (bt ++ fixL Cx (lead Cx) cn gr pt) V Cx))) args s 0 0 (AM mo rs ex xd li bo cu cd)) (F0 m 93 ls []) := by
    intro N93
    induction N93 with
    | zero => intro bt0 i nn bf H locs ls hw hS hl hi hnn hbt0 hN93; exact absurd hN93 (Nat.not_lt_zero _)
    | succ N93 ih93 =>
      intro bt0 i nn bf H locs ls hw hS hl hi hnn hbt0 hN93
      have hbf : bf ≤ 1000 ∧ 0 ≤ bf := by omega
      refine lv_iload hx hb d_Mo_fix_93 (lv_at hl 6 rfl) ?_
      refine lv_iload hx hb d_Mo_fix_95 (lv_at hl 5 rfl) ?_
      refine z_icmp_ge (tgt := 144) hx hb d_Mo_fix_97 rfl ⟨by omega, by omega⟩ ⟨by omega, by omega⟩ (fun hc97 => ?_) (fun hc97 => ?_)
      · have hbe : bt0 = bt ++ ipR Cx gr (max (lead Cx) 0) := by
          rw [pend_end (by omega), List.append_nil] at hbt0
          exact hbt0
        have hll : bt0.length = bt.length + (ipR Cx gr (max (lead Cx) 0)).length := by rw [hbe, List.length_append]
        refine lv_iload_n hx hb d_Mo_fix_144 rfl (lv_at hl 1 rfl) ?_
        refine z_if_gt (tgt := 153) hx hb d_Mo_fix_145 rfl ⟨by omega, by omega⟩ (fun hc145 => ?_) (fun hc145 => ?_)
        · refine lv_aload_n hx hb d_Mo_fix_153 rfl (lv_at hl 0 rfl) ?_
          refine lv_bipush (v := iz 46) hx hb d_Mo_fix_154 (by decide) ?_
          have hct := c_Mo_add l D cB cL mo rs ex xd li bo cu cd co bi le rt (bt0) V Cx (46) ⟨by omega, by omega⟩ (by (try simp only [List.length_append, List.length_cons, List.length_nil]); omega)
          have hw9 := hw
          obtain ⟨fc, nc, pp, ⟨len, used, bl, fr, fb, lm, fe, ne, pe, ⟨hK, hP, hD⟩, hrt, hbt, hE, hpe, hlm⟩, hC⟩ := hw9
          have hr1 := hrt.1
          have hr2 := hrt.2.1
          have hb1 := hbt.1
          have hb2 := hbt.2.1
          have hE1 := hE.1
          have hC1 := hC.1
          have hP : va_P D vwCl [(mo, .inr (3, [.ref rs, .int (iz len), .int (iz co), .ref ex, .int (iz bi), .int (iz le), .ref li, .int (iz used), .ref bo, .int (iz bl), .ref cu])), (rs, .inl (cB, 4096, .inl (az fr))), (ex, .inr (4, [.ref xd, .int (iz ne), .int (iz pe)])), (xd, .inl (cB, 1300, .inl (az fe))), (li, .inl (cL, 160, .inr (.inl (azl lm)))), (bo, .inl (cB, 4096, .inl (az fb))), (cu, .inr (4, [.ref cd, .int (iz nc), .int (iz pp)])), (cd, .inl (cB, 1300, .inl (az fc)))] H := hP
          have hD : va_D (AM mo rs ex xd li bo cu cd) [(mo, .inr (3, [.ref rs, .int (iz len), .int (iz co), .ref ex, .int (iz bi), .int (iz le), .ref li, .int (iz used), .ref bo, .int (iz bl), .ref cu])), (rs, .inl (cB, 4096, .inl (az fr))), (ex, .inr (4, [.ref xd, .int (iz ne), .int (iz pe)])), (xd, .inl (cB, 1300, .inl (az fe))), (li, .inl (cL, 160, .inr (.inl (azl lm)))), (bo, .inl (cB, 4096, .inl (az fb))), (cu, .inr (4, [.ref cd, .int (iz nc), .int (iz pp)])), (cd, .inl (cB, 1300, .inl (az fc)))] := hD
          refine z_go (va_runV (As := [.int (iz 46)]) (rest := []) ⟨hx, hb, hml, hown, hts⟩ hct.2 (z_cwV hts w_Mo_add tw_474 (by decide)) (z_preV hct.1 (va_recv hK hP (ci := 3) (q0 := 0) rfl rfl) hw) rfl rfl hl.1 rfl (lv_room (Nat.le_of_ble_eq_true rfl)) d_Mo_fix_156 ⟨Nat.zero_le _, Nat.zero_le _⟩) hS (fun _ h9 => h9) (fun v9 t9 H locs hv9 hp9 hz9 hk9 hS => ?_)
          obtain ⟨rfl, hw⟩ := hp9
          have hw := MW.moved hv9.symm hw
          refine W.eq (g2 := F0 m 159 ls []) rfl ?_
          refine lv_iconst (v := iz 0) hx hb d_Mo_fix_159 rfl ?_
          refine lv_istore hx hb d_Mo_fix_160 hl (by decide) rfl (fun ls hl => ?_)
          have hl : lv_has ls 10 [(8, .int (iz 0)), (0, .ref mo), (2, .int (iz (cn : Int))), (3, .int (iz gr)), (4, .int (iz pt)), (6, .int (iz nn)), (7, .int (iz bf))] := hl
          have hw : MW D cB cL mo rs ex xd li bo cu cd co bi le rt ((bt0 ++ [46]) ++ dl Cx (-1) 0) V Cx s H := by
            show MW _ _ _ _ _ _ _ _ _ _ _ _ _ _ _ (_ ++ []) _ _ _ _
            rw [List.append_nil]
            exact hw
          exact L162 _ (bt0 ++ [46]) 0 0 nn bf _ _ _ hw hS (lv_sub hl [1, 2, 5, 0] rfl) ⟨rfl, Nat.zero_le _⟩ hnn (by rw [hbe]; unfold dotL; first | rw [if_pos (by omega)] | (rw [if_neg (by omega), List.append_nil])) (Nat.lt_succ_self _)
        · refine lv_iload hx hb d_Mo_fix_148 (lv_at hl 3 rfl) ?_
          refine z_if_eq (tgt := 159) hx hb d_Mo_fix_150 rfl ⟨by omega, by omega⟩ (fun hc150 => ?_) (fun hc150 => ?_)
          · refine lv_iconst (v := iz 0) hx hb d_Mo_fix_159 rfl ?_
            refine lv_istore hx hb d_Mo_fix_160 hl (by decide) rfl (fun ls hl => ?_)
            have hl : lv_has ls 10 [(8, .int (iz 0)), (0, .ref mo), (2, .int (iz (cn : Int))), (3, .int (iz gr)), (4, .int (iz pt)), (6, .int (iz nn)), (7, .int (iz bf))] := hl
            have hw : MW D cB cL mo rs ex xd li bo cu cd co bi le rt (bt0 ++ dl Cx (-1) 0) V Cx s H := by
              show MW _ _ _ _ _ _ _ _ _ _ _ _ _ _ _ (_ ++ []) _ _ _ _
              rw [List.append_nil]
              exact hw
            exact L162 _ bt0 0 0 nn bf _ _ _ hw hS (lv_sub hl [1, 2, 5, 0] rfl) ⟨rfl, Nat.zero_le _⟩ hnn (by rw [hbe]; unfold dotL; first | rw [if_pos (by omega)] | (rw [if_neg (by omega), List.append_nil])) (Nat.lt_succ_self _)
          · refine lv_aload_n hx hb d_Mo_fix_153 rfl (lv_at hl 0 rfl) ?_
            refine lv_bipush (v := iz 46) hx hb d_Mo_fix_154 (by decide) ?_
            have hct := c_Mo_add l D cB cL mo rs ex xd li bo cu cd co bi le rt (bt0) V Cx (46) ⟨by omega, by omega⟩ (by (try simp only [List.length_append, List.length_cons, List.length_nil]); omega)
            have hw9 := hw
            obtain ⟨fc, nc, pp, ⟨len, used, bl, fr, fb, lm, fe, ne, pe, ⟨hK, hP, hD⟩, hrt, hbt, hE, hpe, hlm⟩, hC⟩ := hw9
            have hr1 := hrt.1
            have hr2 := hrt.2.1
            have hb1 := hbt.1
            have hb2 := hbt.2.1
            have hE1 := hE.1
            have hC1 := hC.1
            have hP : va_P D vwCl [(mo, .inr (3, [.ref rs, .int (iz len), .int (iz co), .ref ex, .int (iz bi), .int (iz le), .ref li, .int (iz used), .ref bo, .int (iz bl), .ref cu])), (rs, .inl (cB, 4096, .inl (az fr))), (ex, .inr (4, [.ref xd, .int (iz ne), .int (iz pe)])), (xd, .inl (cB, 1300, .inl (az fe))), (li, .inl (cL, 160, .inr (.inl (azl lm)))), (bo, .inl (cB, 4096, .inl (az fb))), (cu, .inr (4, [.ref cd, .int (iz nc), .int (iz pp)])), (cd, .inl (cB, 1300, .inl (az fc)))] H := hP
            have hD : va_D (AM mo rs ex xd li bo cu cd) [(mo, .inr (3, [.ref rs, .int (iz len), .int (iz co), .ref ex, .int (iz bi), .int (iz le), .ref li, .int (iz used), .ref bo, .int (iz bl), .ref cu])), (rs, .inl (cB, 4096, .inl (az fr))), (ex, .inr (4, [.ref xd, .int (iz ne), .int (iz pe)])), (xd, .inl (cB, 1300, .inl (az fe))), (li, .inl (cL, 160, .inr (.inl (azl lm)))), (bo, .inl (cB, 4096, .inl (az fb))), (cu, .inr (4, [.ref cd, .int (iz nc), .int (iz pp)])), (cd, .inl (cB, 1300, .inl (az fc)))] := hD
            refine z_go (va_runV (As := [.int (iz 46)]) (rest := []) ⟨hx, hb, hml, hown, hts⟩ hct.2 (z_cwV hts w_Mo_add tw_474 (by decide)) (z_preV hct.1 (va_recv hK hP (ci := 3) (q0 := 0) rfl rfl) hw) rfl rfl hl.1 rfl (lv_room (Nat.le_of_ble_eq_true rfl)) d_Mo_fix_156 ⟨Nat.zero_le _, Nat.zero_le _⟩) hS (fun _ h9 => h9) (fun v9 t9 H locs hv9 hp9 hz9 hk9 hS => ?_)
            obtain ⟨rfl, hw⟩ := hp9
            have hw := MW.moved hv9.symm hw
            refine W.eq (g2 := F0 m 159 ls []) rfl ?_
            refine lv_iconst (v := iz 0) hx hb d_Mo_fix_159 rfl ?_
            refine lv_istore hx hb d_Mo_fix_160 hl (by decide) rfl (fun ls hl => ?_)
            have hl : lv_has ls 10 [(8, .int (iz 0)), (0, .ref mo), (2, .int (iz (cn : Int))), (3, .int (iz gr)), (4, .int (iz pt)), (6, .int (iz nn)), (7, .int (iz bf))] := hl
            have hw : MW D cB cL mo rs ex xd li bo cu cd co bi le rt ((bt0 ++ [46]) ++ dl Cx (-1) 0) V Cx s H := by
              show MW _ _ _ _ _ _ _ _ _ _ _ _ _ _ _ (_ ++ []) _ _ _ _
              rw [List.append_nil]
              exact hw
            exact L162 _ (bt0 ++ [46]) 0 0 nn bf _ _ _ hw hS (lv_sub hl [1, 2, 5, 0] rfl) ⟨rfl, Nat.zero_le _⟩ hnn (by rw [hbe]; unfold dotL; first | rw [if_pos (by omega)] | (rw [if_neg (by omega), List.append_nil])) (Nat.lt_succ_self _)
      · have hl8 := congrArg List.length hbt0
        rw [pend_step (by omega) (by omega)] at hl8
        simp only [List.length_append, List.length_cons, List.length_nil] at hl8
        refine lv_iload_n hx hb d_Mo_fix_100 rfl (lv_at hl 2 rfl) ?_
        refine z_if_eq (tgt := 125) hx hb d_Mo_fix_101 rfl ⟨by omega, by omega⟩ (fun hc101 => ?_) (fun hc101 => ?_)
        · refine lv_aload_n hx hb d_Mo_fix_125 rfl (lv_at hl 0 rfl) ?_
          refine lv_aload_n hx hb d_Mo_fix_126 rfl (lv_at hl 0 rfl) ?_
          have hw9 := hw
          obtain ⟨fc, nc, pp, ⟨len, used, bl, fr, fb, lm, fe, ne, pe, ⟨hK, hP, hD⟩, hrt, hbt, hE, hpe, hlm⟩, hC⟩ := hw9
          have hr1 := hrt.1
          have hr2 := hrt.2.1
          have hb1 := hbt.1
          have hb2 := hbt.2.1
          have hE1 := hE.1
          have hC1 := hC.1
          have hP : va_P D vwCl [(mo, .inr (3, [.ref rs, .int (iz len), .int (iz co), .ref ex, .int (iz bi), .int (iz le), .ref li, .int (iz used), .ref bo, .int (iz bl), .ref cu])), (rs, .inl (cB, 4096, .inl (az fr))), (ex, .inr (4, [.ref xd, .int (iz ne), .int (iz pe)])), (xd, .inl (cB, 1300, .inl (az fe))), (li, .inl (cL, 160, .inr (.inl (azl lm)))), (bo, .inl (cB, 4096, .inl (az fb))), (cu, .inr (4, [.ref cd, .int (iz nc), .int (iz pp)])), (cd, .inl (cB, 1300, .inl (az fc)))] H := hP
          have hD : va_D (AM mo rs ex xd li bo cu cd) [(mo, .inr (3, [.ref rs, .int (iz len), .int (iz co), .ref ex, .int (iz bi), .int (iz le), .ref li, .int (iz used), .ref bo, .int (iz bl), .ref cu])), (rs, .inl (cB, 4096, .inl (az fr))), (ex, .inr (4, [.ref xd, .int (iz ne), .int (iz pe)])), (xd, .inl (cB, 1300, .inl (az fe))), (li, .inl (cL, 160, .inr (.inl (azl lm)))), (bo, .inl (cB, 4096, .inl (az fb))), (cu, .inr (4, [.ref cd, .int (iz nc), .int (iz pp)])), (cd, .inl (cB, 1300, .inl (az fc)))] := hD
          refine va_get (D := D) (ci := 3) (v := .ref cu) (C := R_3) (T := T_3) (N := 11) hx hb hts in_3 hown hK hP 0 rfl rfl 10 (by decide) (hts _ tw_402) (fun _ h9 => h9) rfl d_Mo_fix_127 ?_
          refine lv_iload hx hb d_Mo_fix_130 (lv_at hl 6 rfl) ?_
          have hct := c_Mo_digit l D cB cL mo rs ex xd li bo cu cd co bi le rt (bt0) V Cx i ⟨by omega, by omega⟩
          refine z_go (va_runS (As := [.ref cu, .int (iz i)]) (rest := [.ref mo]) ⟨hx, hb, hml, hown, hts⟩ hct.2 (z_cwS hts w_Mo_digit tw_515 (by decide)) (z_preS hct.1 hw) rfl rfl hl.1 rfl (lv_room (Nat.le_of_ble_eq_true rfl)) d_Mo_fix_132 ⟨Nat.zero_le _, Nat.zero_le _⟩) hS (fun _ h9 => h9) (fun v9 t9 H locs hv9 hp9 hz9 hk9 hS => ?_)
          obtain ⟨rfl, hw⟩ := hp9
          have hw := MW.moved hv9.symm hw
          refine W.eq (g2 := F0 m 135 ls [.int (iz (48 + dgt Cx (lead Cx - i))), .ref mo]) rfl ?_
          refine z_ri (b := 48 + dgt Cx (bf - 1 - i)) (by rw [show lead Cx - i = bf - 1 - i by omega]) ?_
          have hct := c_Mo_add l D cB cL mo rs ex xd li bo cu cd co bi le rt (bt0) V Cx (48 + dgt Cx (bf - 1 - i)) (dg48 _ _) (by (try simp only [List.length_append, List.length_cons, List.length_nil]); omega)
          have hw9 := hw
          obtain ⟨fc, nc, pp, ⟨len, used, bl, fr, fb, lm, fe, ne, pe, ⟨hK, hP, hD⟩, hrt, hbt, hE, hpe, hlm⟩, hC⟩ := hw9
          have hr1 := hrt.1
          have hr2 := hrt.2.1
          have hb1 := hbt.1
          have hb2 := hbt.2.1
          have hE1 := hE.1
          have hC1 := hC.1
          have hP : va_P D vwCl [(mo, .inr (3, [.ref rs, .int (iz len), .int (iz co), .ref ex, .int (iz bi), .int (iz le), .ref li, .int (iz used), .ref bo, .int (iz bl), .ref cu])), (rs, .inl (cB, 4096, .inl (az fr))), (ex, .inr (4, [.ref xd, .int (iz ne), .int (iz pe)])), (xd, .inl (cB, 1300, .inl (az fe))), (li, .inl (cL, 160, .inr (.inl (azl lm)))), (bo, .inl (cB, 4096, .inl (az fb))), (cu, .inr (4, [.ref cd, .int (iz nc), .int (iz pp)])), (cd, .inl (cB, 1300, .inl (az fc)))] H := hP
          have hD : va_D (AM mo rs ex xd li bo cu cd) [(mo, .inr (3, [.ref rs, .int (iz len), .int (iz co), .ref ex, .int (iz bi), .int (iz le), .ref li, .int (iz used), .ref bo, .int (iz bl), .ref cu])), (rs, .inl (cB, 4096, .inl (az fr))), (ex, .inr (4, [.ref xd, .int (iz ne), .int (iz pe)])), (xd, .inl (cB, 1300, .inl (az fe))), (li, .inl (cL, 160, .inr (.inl (azl lm)))), (bo, .inl (cB, 4096, .inl (az fb))), (cu, .inr (4, [.ref cd, .int (iz nc), .int (iz pp)])), (cd, .inl (cB, 1300, .inl (az fc)))] := hD
          refine z_go (va_runV (As := [.int (iz (48 + dgt Cx (bf - 1 - i)))]) (rest := []) ⟨hx, hb, hml, hown, hts⟩ hct.2 (z_cwV hts w_Mo_add tw_474 (by decide)) (z_preV hct.1 (va_recv hK hP (ci := 3) (q0 := 0) rfl rfl) hw) rfl rfl hl.1 rfl (lv_room (Nat.le_of_ble_eq_true rfl)) d_Mo_fix_135 ⟨Nat.zero_le _, Nat.zero_le _⟩) hS (fun _ h9 => h9) (fun v9 t9 H locs hv9 hp9 hz9 hk9 hS => ?_)
          obtain ⟨rfl, hw⟩ := hp9
          have hw := MW.moved hv9.symm hw
          refine W.eq (g2 := F0 m 138 ls []) rfl ?_
          refine lv_iinc (k := 6) (v := (iz (i + 1))) hx hb d_Mo_fix_138 hl rfl (by show iz _ + iz (1) = _; rw [← iz_add]; try rfl) (by decide) rfl (fun ls hl => ?_)
          have hl : lv_has ls 10 [(8, .int (iz (i + 1))), (0, .ref mo), (2, .int (iz (cn : Int))), (3, .int (iz gr)), (4, .int (iz pt)), (6, .int (iz nn)), (7, .int (iz bf))] := hl
          refine lv_goto (tgt := 93) hx hb d_Mo_fix_141 rfl ?_
          exact ih93 (bt0 ++ [48 + dgt Cx (bf - 1 - i)]) (i + 1) nn bf _ _ _ hw hS (lv_sub hl [1, 2, 3, 4, 5, 6, 0] rfl) ⟨by omega, by omega⟩ hnn (by
                rw [← hbt0, pend_step (i := i) (by omega) (by omega)]
                first
                  | rw [if_pos ⟨by omega, by omega, by omega⟩]
                  | rw [if_neg (by omega)]
                simp [List.append_assoc]) (by omega)
        · refine lv_iload hx hb d_Mo_fix_104 (lv_at hl 6 rfl) ?_
          refine z_if_le (tgt := 125) hx hb d_Mo_fix_106 rfl ⟨by omega, by omega⟩ (fun hc106 => ?_) (fun hc106 => ?_)
          · refine lv_aload_n hx hb d_Mo_fix_125 rfl (lv_at hl 0 rfl) ?_
            refine lv_aload_n hx hb d_Mo_fix_126 rfl (lv_at hl 0 rfl) ?_
            have hw9 := hw
            obtain ⟨fc, nc, pp, ⟨len, used, bl, fr, fb, lm, fe, ne, pe, ⟨hK, hP, hD⟩, hrt, hbt, hE, hpe, hlm⟩, hC⟩ := hw9
            have hr1 := hrt.1
            have hr2 := hrt.2.1
            have hb1 := hbt.1
            have hb2 := hbt.2.1
            have hE1 := hE.1
            have hC1 := hC.1
            have hP : va_P D vwCl [(mo, .inr (3, [.ref rs, .int (iz len), .int (iz co), .ref ex, .int (iz bi), .int (iz le), .ref li, .int (iz used), .ref bo, .int (iz bl), .ref cu])), (rs, .inl (cB, 4096, .inl (az fr))), (ex, .inr (4, [.ref xd, .int (iz ne), .int (iz pe)])), (xd, .inl (cB, 1300, .inl (az fe))), (li, .inl (cL, 160, .inr (.inl (azl lm)))), (bo, .inl (cB, 4096, .inl (az fb))), (cu, .inr (4, [.ref cd, .int (iz nc), .int (iz pp)])), (cd, .inl (cB, 1300, .inl (az fc)))] H := hP
            have hD : va_D (AM mo rs ex xd li bo cu cd) [(mo, .inr (3, [.ref rs, .int (iz len), .int (iz co), .ref ex, .int (iz bi), .int (iz le), .ref li, .int (iz used), .ref bo, .int (iz bl), .ref cu])), (rs, .inl (cB, 4096, .inl (az fr))), (ex, .inr (4, [.ref xd, .int (iz ne), .int (iz pe)])), (xd, .inl (cB, 1300, .inl (az fe))), (li, .inl (cL, 160, .inr (.inl (azl lm)))), (bo, .inl (cB, 4096, .inl (az fb))), (cu, .inr (4, [.ref cd, .int (iz nc), .int (iz pp)])), (cd, .inl (cB, 1300, .inl (az fc)))] := hD
            refine va_get (D := D) (ci := 3) (v := .ref cu) (C := R_3) (T := T_3) (N := 11) hx hb hts in_3 hown hK hP 0 rfl rfl 10 (by decide) (hts _ tw_402) (fun _ h9 => h9) rfl d_Mo_fix_127 ?_
            refine lv_iload hx hb d_Mo_fix_130 (lv_at hl 6 rfl) ?_
            have hct := c_Mo_digit l D cB cL mo rs ex xd li bo cu cd co bi le rt (bt0) V Cx i ⟨by omega, by omega⟩
            refine z_go (va_runS (As := [.ref cu, .int (iz i)]) (rest := [.ref mo]) ⟨hx, hb, hml, hown, hts⟩ hct.2 (z_cwS hts w_Mo_digit tw_515 (by decide)) (z_preS hct.1 hw) rfl rfl hl.1 rfl (lv_room (Nat.le_of_ble_eq_true rfl)) d_Mo_fix_132 ⟨Nat.zero_le _, Nat.zero_le _⟩) hS (fun _ h9 => h9) (fun v9 t9 H locs hv9 hp9 hz9 hk9 hS => ?_)
            obtain ⟨rfl, hw⟩ := hp9
            have hw := MW.moved hv9.symm hw
            refine W.eq (g2 := F0 m 135 ls [.int (iz (48 + dgt Cx (lead Cx - i))), .ref mo]) rfl ?_
            refine z_ri (b := 48 + dgt Cx (bf - 1 - i)) (by rw [show lead Cx - i = bf - 1 - i by omega]) ?_
            have hct := c_Mo_add l D cB cL mo rs ex xd li bo cu cd co bi le rt (bt0) V Cx (48 + dgt Cx (bf - 1 - i)) (dg48 _ _) (by (try simp only [List.length_append, List.length_cons, List.length_nil]); omega)
            have hw9 := hw
            obtain ⟨fc, nc, pp, ⟨len, used, bl, fr, fb, lm, fe, ne, pe, ⟨hK, hP, hD⟩, hrt, hbt, hE, hpe, hlm⟩, hC⟩ := hw9
            have hr1 := hrt.1
            have hr2 := hrt.2.1
            have hb1 := hbt.1
            have hb2 := hbt.2.1
            have hE1 := hE.1
            have hC1 := hC.1
            have hP : va_P D vwCl [(mo, .inr (3, [.ref rs, .int (iz len), .int (iz co), .ref ex, .int (iz bi), .int (iz le), .ref li, .int (iz used), .ref bo, .int (iz bl), .ref cu])), (rs, .inl (cB, 4096, .inl (az fr))), (ex, .inr (4, [.ref xd, .int (iz ne), .int (iz pe)])), (xd, .inl (cB, 1300, .inl (az fe))), (li, .inl (cL, 160, .inr (.inl (azl lm)))), (bo, .inl (cB, 4096, .inl (az fb))), (cu, .inr (4, [.ref cd, .int (iz nc), .int (iz pp)])), (cd, .inl (cB, 1300, .inl (az fc)))] H := hP
            have hD : va_D (AM mo rs ex xd li bo cu cd) [(mo, .inr (3, [.ref rs, .int (iz len), .int (iz co), .ref ex, .int (iz bi), .int (iz le), .ref li, .int (iz used), .ref bo, .int (iz bl), .ref cu])), (rs, .inl (cB, 4096, .inl (az fr))), (ex, .inr (4, [.ref xd, .int (iz ne), .int (iz pe)])), (xd, .inl (cB, 1300, .inl (az fe))), (li, .inl (cL, 160, .inr (.inl (azl lm)))), (bo, .inl (cB, 4096, .inl (az fb))), (cu, .inr (4, [.ref cd, .int (iz nc), .int (iz pp)])), (cd, .inl (cB, 1300, .inl (az fc)))] := hD
            refine z_go (va_runV (As := [.int (iz (48 + dgt Cx (bf - 1 - i)))]) (rest := []) ⟨hx, hb, hml, hown, hts⟩ hct.2 (z_cwV hts w_Mo_add tw_474 (by decide)) (z_preV hct.1 (va_recv hK hP (ci := 3) (q0 := 0) rfl rfl) hw) rfl rfl hl.1 rfl (lv_room (Nat.le_of_ble_eq_true rfl)) d_Mo_fix_135 ⟨Nat.zero_le _, Nat.zero_le _⟩) hS (fun _ h9 => h9) (fun v9 t9 H locs hv9 hp9 hz9 hk9 hS => ?_)
            obtain ⟨rfl, hw⟩ := hp9
            have hw := MW.moved hv9.symm hw
            refine W.eq (g2 := F0 m 138 ls []) rfl ?_
            refine lv_iinc (k := 6) (v := (iz (i + 1))) hx hb d_Mo_fix_138 hl rfl (by show iz _ + iz (1) = _; rw [← iz_add]; try rfl) (by decide) rfl (fun ls hl => ?_)
            have hl : lv_has ls 10 [(8, .int (iz (i + 1))), (0, .ref mo), (2, .int (iz (cn : Int))), (3, .int (iz gr)), (4, .int (iz pt)), (6, .int (iz nn)), (7, .int (iz bf))] := hl
            refine lv_goto (tgt := 93) hx hb d_Mo_fix_141 rfl ?_
            exact ih93 (bt0 ++ [48 + dgt Cx (bf - 1 - i)]) (i + 1) nn bf _ _ _ hw hS (lv_sub hl [1, 2, 3, 4, 5, 6, 0] rfl) ⟨by omega, by omega⟩ hnn (by
                  rw [← hbt0, pend_step (i := i) (by omega) (by omega)]
                  first
                    | rw [if_pos ⟨by omega, by omega, by omega⟩]
                    | rw [if_neg (by omega)]
                  simp [List.append_assoc]) (by omega)
          · refine lv_iload hx hb d_Mo_fix_109 (lv_at hl 5 rfl) ?_
            refine lv_iload hx hb d_Mo_fix_111 (lv_at hl 6 rfl) ?_
            refine z_isub hx hb d_Mo_fix_113 ?_
            refine lv_iconst (v := iz 3) hx hb d_Mo_fix_114 rfl ?_
            refine z_irem hx hb d_Mo_fix_115 ⟨by omega, by omega⟩ ⟨by omega, by omega⟩ ?_
            refine z_if_ne (tgt := 125) hx hb d_Mo_fix_116 rfl ⟨by omega, by omega⟩ (fun hc116 => ?_) (fun hc116 => ?_)
            · refine lv_aload_n hx hb d_Mo_fix_125 rfl (lv_at hl 0 rfl) ?_
              refine lv_aload_n hx hb d_Mo_fix_126 rfl (lv_at hl 0 rfl) ?_
              have hw9 := hw
              obtain ⟨fc, nc, pp, ⟨len, used, bl, fr, fb, lm, fe, ne, pe, ⟨hK, hP, hD⟩, hrt, hbt, hE, hpe, hlm⟩, hC⟩ := hw9
              have hr1 := hrt.1
              have hr2 := hrt.2.1
              have hb1 := hbt.1
              have hb2 := hbt.2.1
              have hE1 := hE.1
              have hC1 := hC.1
              have hP : va_P D vwCl [(mo, .inr (3, [.ref rs, .int (iz len), .int (iz co), .ref ex, .int (iz bi), .int (iz le), .ref li, .int (iz used), .ref bo, .int (iz bl), .ref cu])), (rs, .inl (cB, 4096, .inl (az fr))), (ex, .inr (4, [.ref xd, .int (iz ne), .int (iz pe)])), (xd, .inl (cB, 1300, .inl (az fe))), (li, .inl (cL, 160, .inr (.inl (azl lm)))), (bo, .inl (cB, 4096, .inl (az fb))), (cu, .inr (4, [.ref cd, .int (iz nc), .int (iz pp)])), (cd, .inl (cB, 1300, .inl (az fc)))] H := hP
              have hD : va_D (AM mo rs ex xd li bo cu cd) [(mo, .inr (3, [.ref rs, .int (iz len), .int (iz co), .ref ex, .int (iz bi), .int (iz le), .ref li, .int (iz used), .ref bo, .int (iz bl), .ref cu])), (rs, .inl (cB, 4096, .inl (az fr))), (ex, .inr (4, [.ref xd, .int (iz ne), .int (iz pe)])), (xd, .inl (cB, 1300, .inl (az fe))), (li, .inl (cL, 160, .inr (.inl (azl lm)))), (bo, .inl (cB, 4096, .inl (az fb))), (cu, .inr (4, [.ref cd, .int (iz nc), .int (iz pp)])), (cd, .inl (cB, 1300, .inl (az fc)))] := hD
              refine va_get (D := D) (ci := 3) (v := .ref cu) (C := R_3) (T := T_3) (N := 11) hx hb hts in_3 hown hK hP 0 rfl rfl 10 (by decide) (hts _ tw_402) (fun _ h9 => h9) rfl d_Mo_fix_127 ?_
              refine lv_iload hx hb d_Mo_fix_130 (lv_at hl 6 rfl) ?_
              have hct := c_Mo_digit l D cB cL mo rs ex xd li bo cu cd co bi le rt (bt0) V Cx i ⟨by omega, by omega⟩
              refine z_go (va_runS (As := [.ref cu, .int (iz i)]) (rest := [.ref mo]) ⟨hx, hb, hml, hown, hts⟩ hct.2 (z_cwS hts w_Mo_digit tw_515 (by decide)) (z_preS hct.1 hw) rfl rfl hl.1 rfl (lv_room (Nat.le_of_ble_eq_true rfl)) d_Mo_fix_132 ⟨Nat.zero_le _, Nat.zero_le _⟩) hS (fun _ h9 => h9) (fun v9 t9 H locs hv9 hp9 hz9 hk9 hS => ?_)
              obtain ⟨rfl, hw⟩ := hp9
              have hw := MW.moved hv9.symm hw
              refine W.eq (g2 := F0 m 135 ls [.int (iz (48 + dgt Cx (lead Cx - i))), .ref mo]) rfl ?_
              refine z_ri (b := 48 + dgt Cx (bf - 1 - i)) (by rw [show lead Cx - i = bf - 1 - i by omega]) ?_
              have hct := c_Mo_add l D cB cL mo rs ex xd li bo cu cd co bi le rt (bt0) V Cx (48 + dgt Cx (bf - 1 - i)) (dg48 _ _) (by (try simp only [List.length_append, List.length_cons, List.length_nil]); omega)
              have hw9 := hw
              obtain ⟨fc, nc, pp, ⟨len, used, bl, fr, fb, lm, fe, ne, pe, ⟨hK, hP, hD⟩, hrt, hbt, hE, hpe, hlm⟩, hC⟩ := hw9
              have hr1 := hrt.1
              have hr2 := hrt.2.1
              have hb1 := hbt.1
              have hb2 := hbt.2.1
              have hE1 := hE.1
              have hC1 := hC.1
              have hP : va_P D vwCl [(mo, .inr (3, [.ref rs, .int (iz len), .int (iz co), .ref ex, .int (iz bi), .int (iz le), .ref li, .int (iz used), .ref bo, .int (iz bl), .ref cu])), (rs, .inl (cB, 4096, .inl (az fr))), (ex, .inr (4, [.ref xd, .int (iz ne), .int (iz pe)])), (xd, .inl (cB, 1300, .inl (az fe))), (li, .inl (cL, 160, .inr (.inl (azl lm)))), (bo, .inl (cB, 4096, .inl (az fb))), (cu, .inr (4, [.ref cd, .int (iz nc), .int (iz pp)])), (cd, .inl (cB, 1300, .inl (az fc)))] H := hP
              have hD : va_D (AM mo rs ex xd li bo cu cd) [(mo, .inr (3, [.ref rs, .int (iz len), .int (iz co), .ref ex, .int (iz bi), .int (iz le), .ref li, .int (iz used), .ref bo, .int (iz bl), .ref cu])), (rs, .inl (cB, 4096, .inl (az fr))), (ex, .inr (4, [.ref xd, .int (iz ne), .int (iz pe)])), (xd, .inl (cB, 1300, .inl (az fe))), (li, .inl (cL, 160, .inr (.inl (azl lm)))), (bo, .inl (cB, 4096, .inl (az fb))), (cu, .inr (4, [.ref cd, .int (iz nc), .int (iz pp)])), (cd, .inl (cB, 1300, .inl (az fc)))] := hD
              refine z_go (va_runV (As := [.int (iz (48 + dgt Cx (bf - 1 - i)))]) (rest := []) ⟨hx, hb, hml, hown, hts⟩ hct.2 (z_cwV hts w_Mo_add tw_474 (by decide)) (z_preV hct.1 (va_recv hK hP (ci := 3) (q0 := 0) rfl rfl) hw) rfl rfl hl.1 rfl (lv_room (Nat.le_of_ble_eq_true rfl)) d_Mo_fix_135 ⟨Nat.zero_le _, Nat.zero_le _⟩) hS (fun _ h9 => h9) (fun v9 t9 H locs hv9 hp9 hz9 hk9 hS => ?_)
              obtain ⟨rfl, hw⟩ := hp9
              have hw := MW.moved hv9.symm hw
              refine W.eq (g2 := F0 m 138 ls []) rfl ?_
              refine lv_iinc (k := 6) (v := (iz (i + 1))) hx hb d_Mo_fix_138 hl rfl (by show iz _ + iz (1) = _; rw [← iz_add]; try rfl) (by decide) rfl (fun ls hl => ?_)
              have hl : lv_has ls 10 [(8, .int (iz (i + 1))), (0, .ref mo), (2, .int (iz (cn : Int))), (3, .int (iz gr)), (4, .int (iz pt)), (6, .int (iz nn)), (7, .int (iz bf))] := hl
              refine lv_goto (tgt := 93) hx hb d_Mo_fix_141 rfl ?_
              exact ih93 (bt0 ++ [48 + dgt Cx (bf - 1 - i)]) (i + 1) nn bf _ _ _ hw hS (lv_sub hl [1, 2, 3, 4, 5, 6, 0] rfl) ⟨by omega, by omega⟩ hnn (by
                    rw [← hbt0, pend_step (i := i) (by omega) (by omega)]
                    first
                      | rw [if_pos ⟨by omega, by omega, by omega⟩]
                      | rw [if_neg (by omega)]
                    simp [List.append_assoc]) (by omega)
            · rw [if_pos ⟨by omega, by omega, by omega⟩] at hl8
              simp only [List.length_cons, List.length_nil] at hl8
              refine lv_aload_n hx hb d_Mo_fix_119 rfl (lv_at hl 0 rfl) ?_
              refine lv_bipush (v := iz 44) hx hb d_Mo_fix_120 (by decide) ?_
              have hct := c_Mo_add l D cB cL mo rs ex xd li bo cu cd co bi le rt (bt0) V Cx (44) ⟨by omega, by omega⟩ (by (try simp only [List.length_append, List.length_cons, List.length_nil]); omega)
              have hw9 := hw
              obtain ⟨fc, nc, pp, ⟨len, used, bl, fr, fb, lm, fe, ne, pe, ⟨hK, hP, hD⟩, hrt, hbt, hE, hpe, hlm⟩, hC⟩ := hw9
              have hr1 := hrt.1
              have hr2 := hrt.2.1
              have hb1 := hbt.1
              have hb2 := hbt.2.1
              have hE1 := hE.1
              have hC1 := hC.1
              have hP : va_P D vwCl [(mo, .inr (3, [.ref rs, .int (iz len), .int (iz co), .ref ex, .int (iz bi), .int (iz le), .ref li, .int (iz used), .ref bo, .int (iz bl), .ref cu])), (rs, .inl (cB, 4096, .inl (az fr))), (ex, .inr (4, [.ref xd, .int (iz ne), .int (iz pe)])), (xd, .inl (cB, 1300, .inl (az fe))), (li, .inl (cL, 160, .inr (.inl (azl lm)))), (bo, .inl (cB, 4096, .inl (az fb))), (cu, .inr (4, [.ref cd, .int (iz nc), .int (iz pp)])), (cd, .inl (cB, 1300, .inl (az fc)))] H := hP
              have hD : va_D (AM mo rs ex xd li bo cu cd) [(mo, .inr (3, [.ref rs, .int (iz len), .int (iz co), .ref ex, .int (iz bi), .int (iz le), .ref li, .int (iz used), .ref bo, .int (iz bl), .ref cu])), (rs, .inl (cB, 4096, .inl (az fr))), (ex, .inr (4, [.ref xd, .int (iz ne), .int (iz pe)])), (xd, .inl (cB, 1300, .inl (az fe))), (li, .inl (cL, 160, .inr (.inl (azl lm)))), (bo, .inl (cB, 4096, .inl (az fb))), (cu, .inr (4, [.ref cd, .int (iz nc), .int (iz pp)])), (cd, .inl (cB, 1300, .inl (az fc)))] := hD
              refine z_go (va_runV (As := [.int (iz 44)]) (rest := []) ⟨hx, hb, hml, hown, hts⟩ hct.2 (z_cwV hts w_Mo_add tw_474 (by decide)) (z_preV hct.1 (va_recv hK hP (ci := 3) (q0 := 0) rfl rfl) hw) rfl rfl hl.1 rfl (lv_room (Nat.le_of_ble_eq_true rfl)) d_Mo_fix_122 ⟨Nat.zero_le _, Nat.zero_le _⟩) hS (fun _ h9 => h9) (fun v9 t9 H locs hv9 hp9 hz9 hk9 hS => ?_)
              obtain ⟨rfl, hw⟩ := hp9
              have hw := MW.moved hv9.symm hw
              refine W.eq (g2 := F0 m 125 ls []) rfl ?_
              refine lv_aload_n hx hb d_Mo_fix_125 rfl (lv_at hl 0 rfl) ?_
              refine lv_aload_n hx hb d_Mo_fix_126 rfl (lv_at hl 0 rfl) ?_
              have hw9 := hw
              obtain ⟨fc, nc, pp, ⟨len, used, bl, fr, fb, lm, fe, ne, pe, ⟨hK, hP, hD⟩, hrt, hbt, hE, hpe, hlm⟩, hC⟩ := hw9
              have hr1 := hrt.1
              have hr2 := hrt.2.1
              have hb1 := hbt.1
              have hb2 := hbt.2.1
              have hE1 := hE.1
              have hC1 := hC.1
              have hP : va_P D vwCl [(mo, .inr (3, [.ref rs, .int (iz len), .int (iz co), .ref ex, .int (iz bi), .int (iz le), .ref li, .int (iz used), .ref bo, .int (iz bl), .ref cu])), (rs, .inl (cB, 4096, .inl (az fr))), (ex, .inr (4, [.ref xd, .int (iz ne), .int (iz pe)])), (xd, .inl (cB, 1300, .inl (az fe))), (li, .inl (cL, 160, .inr (.inl (azl lm)))), (bo, .inl (cB, 4096, .inl (az fb))), (cu, .inr (4, [.ref cd, .int (iz nc), .int (iz pp)])), (cd, .inl (cB, 1300, .inl (az fc)))] H := hP
              have hD : va_D (AM mo rs ex xd li bo cu cd) [(mo, .inr (3, [.ref rs, .int (iz len), .int (iz co), .ref ex, .int (iz bi), .int (iz le), .ref li, .int (iz used), .ref bo, .int (iz bl), .ref cu])), (rs, .inl (cB, 4096, .inl (az fr))), (ex, .inr (4, [.ref xd, .int (iz ne), .int (iz pe)])), (xd, .inl (cB, 1300, .inl (az fe))), (li, .inl (cL, 160, .inr (.inl (azl lm)))), (bo, .inl (cB, 4096, .inl (az fb))), (cu, .inr (4, [.ref cd, .int (iz nc), .int (iz pp)])), (cd, .inl (cB, 1300, .inl (az fc)))] := hD
              refine va_get (D := D) (ci := 3) (v := .ref cu) (C := R_3) (T := T_3) (N := 11) hx hb hts in_3 hown hK hP 0 rfl rfl 10 (by decide) (hts _ tw_402) (fun _ h9 => h9) rfl d_Mo_fix_127 ?_
              refine lv_iload hx hb d_Mo_fix_130 (lv_at hl 6 rfl) ?_
              have hct := c_Mo_digit l D cB cL mo rs ex xd li bo cu cd co bi le rt ((bt0 ++ [44])) V Cx i ⟨by omega, by omega⟩
              refine z_go (va_runS (As := [.ref cu, .int (iz i)]) (rest := [.ref mo]) ⟨hx, hb, hml, hown, hts⟩ hct.2 (z_cwS hts w_Mo_digit tw_515 (by decide)) (z_preS hct.1 hw) rfl rfl hl.1 rfl (lv_room (Nat.le_of_ble_eq_true rfl)) d_Mo_fix_132 ⟨Nat.zero_le _, Nat.zero_le _⟩) hS (fun _ h9 => h9) (fun v9 t9 H locs hv9 hp9 hz9 hk9 hS => ?_)
              obtain ⟨rfl, hw⟩ := hp9
              have hw := MW.moved hv9.symm hw
              refine W.eq (g2 := F0 m 135 ls [.int (iz (48 + dgt Cx (lead Cx - i))), .ref mo]) rfl ?_
              refine z_ri (b := 48 + dgt Cx (bf - 1 - i)) (by rw [show lead Cx - i = bf - 1 - i by omega]) ?_
              have hct := c_Mo_add l D cB cL mo rs ex xd li bo cu cd co bi le rt ((bt0 ++ [44])) V Cx (48 + dgt Cx (bf - 1 - i)) (dg48 _ _) (by (try simp only [List.length_append, List.length_cons, List.length_nil]); omega)
              have hw9 := hw
              obtain ⟨fc, nc, pp, ⟨len, used, bl, fr, fb, lm, fe, ne, pe, ⟨hK, hP, hD⟩, hrt, hbt, hE, hpe, hlm⟩, hC⟩ := hw9
              have hr1 := hrt.1
              have hr2 := hrt.2.1
              have hb1 := hbt.1
              have hb2 := hbt.2.1
              have hE1 := hE.1
              have hC1 := hC.1
              have hP : va_P D vwCl [(mo, .inr (3, [.ref rs, .int (iz len), .int (iz co), .ref ex, .int (iz bi), .int (iz le), .ref li, .int (iz used), .ref bo, .int (iz bl), .ref cu])), (rs, .inl (cB, 4096, .inl (az fr))), (ex, .inr (4, [.ref xd, .int (iz ne), .int (iz pe)])), (xd, .inl (cB, 1300, .inl (az fe))), (li, .inl (cL, 160, .inr (.inl (azl lm)))), (bo, .inl (cB, 4096, .inl (az fb))), (cu, .inr (4, [.ref cd, .int (iz nc), .int (iz pp)])), (cd, .inl (cB, 1300, .inl (az fc)))] H := hP
              have hD : va_D (AM mo rs ex xd li bo cu cd) [(mo, .inr (3, [.ref rs, .int (iz len), .int (iz co), .ref ex, .int (iz bi), .int (iz le), .ref li, .int (iz used), .ref bo, .int (iz bl), .ref cu])), (rs, .inl (cB, 4096, .inl (az fr))), (ex, .inr (4, [.ref xd, .int (iz ne), .int (iz pe)])), (xd, .inl (cB, 1300, .inl (az fe))), (li, .inl (cL, 160, .inr (.inl (azl lm)))), (bo, .inl (cB, 4096, .inl (az fb))), (cu, .inr (4, [.ref cd, .int (iz nc), .int (iz pp)])), (cd, .inl (cB, 1300, .inl (az fc)))] := hD
              refine z_go (va_runV (As := [.int (iz (48 + dgt Cx (bf - 1 - i)))]) (rest := []) ⟨hx, hb, hml, hown, hts⟩ hct.2 (z_cwV hts w_Mo_add tw_474 (by decide)) (z_preV hct.1 (va_recv hK hP (ci := 3) (q0 := 0) rfl rfl) hw) rfl rfl hl.1 rfl (lv_room (Nat.le_of_ble_eq_true rfl)) d_Mo_fix_135 ⟨Nat.zero_le _, Nat.zero_le _⟩) hS (fun _ h9 => h9) (fun v9 t9 H locs hv9 hp9 hz9 hk9 hS => ?_)
              obtain ⟨rfl, hw⟩ := hp9
              have hw := MW.moved hv9.symm hw
              refine W.eq (g2 := F0 m 138 ls []) rfl ?_
              refine lv_iinc (k := 6) (v := (iz (i + 1))) hx hb d_Mo_fix_138 hl rfl (by show iz _ + iz (1) = _; rw [← iz_add]; try rfl) (by decide) rfl (fun ls hl => ?_)
              have hl : lv_has ls 10 [(8, .int (iz (i + 1))), (0, .ref mo), (2, .int (iz (cn : Int))), (3, .int (iz gr)), (4, .int (iz pt)), (6, .int (iz nn)), (7, .int (iz bf))] := hl
              refine lv_goto (tgt := 93) hx hb d_Mo_fix_141 rfl ?_
              exact ih93 ((bt0 ++ [44]) ++ [48 + dgt Cx (bf - 1 - i)]) (i + 1) nn bf _ _ _ hw hS (lv_sub hl [1, 2, 3, 4, 5, 6, 0] rfl) ⟨by omega, by omega⟩ hnn (by
                    rw [← hbt0, pend_step (i := i) (by omega) (by omega)]
                    first
                      | rw [if_pos ⟨by omega, by omega, by omega⟩]
                      | rw [if_neg (by omega)]
                    simp [List.append_assoc]) (by omega)
  have L79 : ∀ (nn : Int) (bf : Int) (H : Heap) (locs : List Loc) (ls : Array Slot), MW D cB cL mo rs ex xd li bo cu cd co bi le rt bt V Cx s H → va_S (AM mo rs ex xd li bo cu cd) s.heap H locs → lv_has ls 10 [(0, .ref mo), (2, .int (iz (cn : Int))), (3, .int (iz gr)), (4, .int (iz pt)), (6, .int (iz nn)), (7, .int (iz bf))] → ((nn = 1 ∧ Cx = 0 ∧ bf = 0) ∨ (nn = 0 ∧ Cx ≠ 0 ∧ bf = max (lead Cx + 1) 0)) → W p l e (zrm 2) s m args below meth c H locs 0 0 (MQ below (zQ (AM mo rs ex xd li bo cu cd) (zR none (MW D cB cL mo rs ex xd li bo cu cd co bi le rt (bt ++ fixL Cx (lead Cx) cn gr pt) V Cx))) args s 0 0 (AM mo rs ex xd li bo cu cd)) (F0 m 79 ls []) := by
    intro nn bf H locs ls hw hS hl hnn
    have hbf : bf ≤ 1000 ∧ 0 ≤ bf := by omega
    refine lv_iload hx hb d_Mo_fix_79 (lv_at hl 5 rfl) ?_
    refine z_if_ne (tgt := 90) hx hb d_Mo_fix_81 rfl ⟨by omega, by omega⟩ (fun hc81 => ?_) (fun hc81 => ?_)
    · refine lv_iconst (v := iz 0) hx hb d_Mo_fix_90 rfl ?_
      refine lv_istore hx hb d_Mo_fix_91 hl (by decide) rfl (fun ls hl => ?_)
      have hl : lv_has ls 10 [(8, .int (iz 0)), (0, .ref mo), (2, .int (iz (cn : Int))), (3, .int (iz gr)), (4, .int (iz pt)), (6, .int (iz nn)), (7, .int (iz bf))] := hl
      exact L93 _ bt 0 nn bf _ _ _ hw hS (lv_sub hl [1, 2, 3, 4, 5, 6, 0] rfl) ⟨by omega, by omega⟩ hnn (by rw [pend_0 (by omega), show bf - 1 = max (lead Cx) 0 by omega]) (Nat.lt_succ_self _)
    · have hi1 : (ipR Cx gr (max (lead Cx) 0)).length ≥ 1 := by
        rw [ipR_step Cx gr _ (by omega)]
        simp only [List.length_append, List.length_cons, List.length_nil]
        omega
      have hld : lead Cx ≤ 0 ∧ dgt Cx 0 = 0 := by
        rcases hnn with ⟨h1, h2, h3⟩ | ⟨h1, h2, h3⟩
        · rw [h2, lead_0]; exact ⟨by omega, dgt_zero 0⟩
        · exact ⟨by omega, dgt_above hCn (by omega)⟩
      refine lv_aload_n hx hb d_Mo_fix_84 rfl (lv_at hl 0 rfl) ?_
      refine lv_bipush (v := iz 48) hx hb d_Mo_fix_85 (by decide) ?_
      have hct := c_Mo_add l D cB cL mo rs ex xd li bo cu cd co bi le rt (bt) V Cx (48) ⟨by omega, by omega⟩ (by (try simp only [List.length_append, List.length_cons, List.length_nil]); omega)
      have hw9 := hw
      obtain ⟨fc, nc, pp, ⟨len, used, bl, fr, fb, lm, fe, ne, pe, ⟨hK, hP, hD⟩, hrt, hbt, hE, hpe, hlm⟩, hC⟩ := hw9
      have hr1 := hrt.1
      have hr2 := hrt.2.1
      have hb1 := hbt.1
      have hb2 := hbt.2.1
      have hE1 := hE.1
      have hC1 := hC.1
      have hP : va_P D vwCl [(mo, .inr (3, [.ref rs, .int (iz len), .int (iz co), .ref ex, .int (iz bi), .int (iz le), .ref li, .int (iz used), .ref bo, .int (iz bl), .ref cu])), (rs, .inl (cB, 4096, .inl (az fr))), (ex, .inr (4, [.ref xd, .int (iz ne), .int (iz pe)])), (xd, .inl (cB, 1300, .inl (az fe))), (li, .inl (cL, 160, .inr (.inl (azl lm)))), (bo, .inl (cB, 4096, .inl (az fb))), (cu, .inr (4, [.ref cd, .int (iz nc), .int (iz pp)])), (cd, .inl (cB, 1300, .inl (az fc)))] H := hP
      have hD : va_D (AM mo rs ex xd li bo cu cd) [(mo, .inr (3, [.ref rs, .int (iz len), .int (iz co), .ref ex, .int (iz bi), .int (iz le), .ref li, .int (iz used), .ref bo, .int (iz bl), .ref cu])), (rs, .inl (cB, 4096, .inl (az fr))), (ex, .inr (4, [.ref xd, .int (iz ne), .int (iz pe)])), (xd, .inl (cB, 1300, .inl (az fe))), (li, .inl (cL, 160, .inr (.inl (azl lm)))), (bo, .inl (cB, 4096, .inl (az fb))), (cu, .inr (4, [.ref cd, .int (iz nc), .int (iz pp)])), (cd, .inl (cB, 1300, .inl (az fc)))] := hD
      refine z_go (va_runV (As := [.int (iz 48)]) (rest := []) ⟨hx, hb, hml, hown, hts⟩ hct.2 (z_cwV hts w_Mo_add tw_474 (by decide)) (z_preV hct.1 (va_recv hK hP (ci := 3) (q0 := 0) rfl rfl) hw) rfl rfl hl.1 rfl (lv_room (Nat.le_of_ble_eq_true rfl)) d_Mo_fix_87 ⟨Nat.zero_le _, Nat.zero_le _⟩) hS (fun _ h9 => h9) (fun v9 t9 H locs hv9 hp9 hz9 hk9 hS => ?_)
      obtain ⟨rfl, hw⟩ := hp9
      have hw := MW.moved hv9.symm hw
      refine W.eq (g2 := F0 m 90 ls []) rfl ?_
      refine lv_iconst (v := iz 0) hx hb d_Mo_fix_90 rfl ?_
      refine lv_istore hx hb d_Mo_fix_91 hl (by decide) rfl (fun ls hl => ?_)
      have hl : lv_has ls 10 [(8, .int (iz 0)), (0, .ref mo), (2, .int (iz (cn : Int))), (3, .int (iz gr)), (4, .int (iz pt)), (6, .int (iz nn)), (7, .int (iz bf))] := hl
      exact L93 _ (bt ++ [48]) 0 nn bf _ _ _ hw hS (lv_sub hl [1, 2, 3, 4, 5, 6, 0] rfl) ⟨by omega, by omega⟩ hnn (by rw [pend_end (by omega), List.append_nil, show max (lead Cx) 0 = 0 by omega, ipR_0 Cx gr hld.2]) (Nat.lt_succ_self _)
  have L26 : ∀  (H : Heap) (locs : List Loc) (ls : Array Slot), MW D cB cL mo rs ex xd li bo cu cd co bi le rt bt V Cx s H → va_S (AM mo rs ex xd li bo cu cd) s.heap H locs → lv_has ls 10 [(0, .ref mo), (1, .ref ex), (2, .int (iz (cn : Int))), (3, .int (iz gr)), (4, .int (iz pt))] → W p l e (zrm 2) s m args below meth c H locs 0 0 (MQ below (zQ (AM mo rs ex xd li bo cu cd) (zR none (MW D cB cL mo rs ex xd li bo cu cd co bi le rt (bt ++ fixL Cx (lead Cx) cn gr pt) V Cx))) args s 0 0 (AM mo rs ex xd li bo cu cd)) (F0 m 26 ls []) := by
    intro  H locs ls hw hS hl 
    refine lv_aload_n hx hb d_Mo_fix_26 rfl (lv_at hl 1 rfl) ?_
    have hw9 := hw
    obtain ⟨fc, nc, pp, ⟨len, used, bl, fr, fb, lm, fe, ne, pe, ⟨hK, hP, hD⟩, hrt, hbt, hE, hpe, hlm⟩, hC⟩ := hw9
    have hr1 := hrt.1
    have hr2 := hrt.2.1
    have hb1 := hbt.1
    have hb2 := hbt.2.1
    have hE1 := hE.1
    have hC1 := hC.1
    have hP : va_P D vwCl [(mo, .inr (3, [.ref rs, .int (iz len), .int (iz co), .ref ex, .int (iz bi), .int (iz le), .ref li, .int (iz used), .ref bo, .int (iz bl), .ref cu])), (rs, .inl (cB, 4096, .inl (az fr))), (ex, .inr (4, [.ref xd, .int (iz ne), .int (iz pe)])), (xd, .inl (cB, 1300, .inl (az fe))), (li, .inl (cL, 160, .inr (.inl (azl lm)))), (bo, .inl (cB, 4096, .inl (az fb))), (cu, .inr (4, [.ref cd, .int (iz nc), .int (iz pp)])), (cd, .inl (cB, 1300, .inl (az fc)))] H := hP
    have hD : va_D (AM mo rs ex xd li bo cu cd) [(mo, .inr (3, [.ref rs, .int (iz len), .int (iz co), .ref ex, .int (iz bi), .int (iz le), .ref li, .int (iz used), .ref bo, .int (iz bl), .ref cu])), (rs, .inl (cB, 4096, .inl (az fr))), (ex, .inr (4, [.ref xd, .int (iz ne), .int (iz pe)])), (xd, .inl (cB, 1300, .inl (az fe))), (li, .inl (cL, 160, .inr (.inl (azl lm)))), (bo, .inl (cB, 4096, .inl (az fb))), (cu, .inr (4, [.ref cd, .int (iz nc), .int (iz pp)])), (cd, .inl (cB, 1300, .inl (az fc)))] := hD
    refine va_get (D := D) (ci := 4) (v := .int (iz ne)) (C := R_4) (T := T_4) (N := 3) hx hb hts in_4 hown hK hP 2 rfl rfl 1 (by decide) (hts _ tw_383) (fun _ h9 => h9) rfl d_Mo_fix_27 ?_
    refine z_if_eq (tgt := 43) hx hb d_Mo_fix_30 rfl ⟨by omega, by omega⟩ (fun hc30 => ?_) (fun hc30 => ?_)
    · have hC0 : Cx = 0 := by
        first
          | (rw [hCx, hE.zero hc30]; exact rnd_0 _)
          | exact hC.zero hc40
      refine lv_iconst (v := iz 1) hx hb d_Mo_fix_43 rfl ?_
      refine lv_goto (tgt := 48) hx hb d_Mo_fix_44 rfl ?_
      refine lv_istore hx hb d_Mo_fix_48 hl (by decide) rfl (fun ls hl => ?_)
      have hl : lv_has ls 10 [(6, .int (iz 1)), (0, .ref mo), (1, .ref ex), (2, .int (iz (cn : Int))), (3, .int (iz gr)), (4, .int (iz pt))] := hl
      refine lv_iload hx hb d_Mo_fix_50 (lv_at hl 0 rfl) ?_
      refine z_if_ne (tgt := 66) hx hb d_Mo_fix_52 rfl ⟨by omega, by omega⟩ (fun hc52 => ?_) (fun hc52 => ?_)
      · refine lv_iconst (v := iz 0) hx hb d_Mo_fix_66 rfl ?_
        refine lv_goto (tgt := 77) hx hb d_Mo_fix_67 rfl ?_
        refine lv_istore hx hb d_Mo_fix_77 hl (by decide) rfl (fun ls hl => ?_)
        have hl : lv_has ls 10 [(7, .int (iz 0)), (6, .int (iz 1)), (0, .ref mo), (1, .ref ex), (2, .int (iz (cn : Int))), (3, .int (iz gr)), (4, .int (iz pt))] := hl
        exact L79 1 0 _ _ _ hw hS (lv_sub hl [2, 4, 5, 6, 1, 0] rfl) (by first | exact Or.inl ⟨rfl, hC0, rfl⟩ | exact Or.inr ⟨rfl, hCne, by omega⟩)
      · exfalso
        omega
    · refine lv_aload_n hx hb d_Mo_fix_33 rfl (lv_at hl 0 rfl) ?_
      refine va_get (D := D) (ci := 3) (v := .ref cu) (C := R_3) (T := T_3) (N := 11) hx hb hts in_3 hown hK hP 0 rfl rfl 10 (by decide) (hts _ tw_402) (fun _ h9 => h9) rfl d_Mo_fix_34 ?_
      refine va_get (D := D) (ci := 4) (v := .int (iz nc)) (C := R_4) (T := T_4) (N := 3) hx hb hts in_4 hown hK hP 6 rfl rfl 1 (by decide) (hts _ tw_383) (fun _ h9 => h9) rfl d_Mo_fix_37 ?_
      refine z_if_ne (tgt := 47) hx hb d_Mo_fix_40 rfl ⟨by omega, by omega⟩ (fun hc40 => ?_) (fun hc40 => ?_)
      · have hCne : Cx ≠ 0 := fun q => by
          have h8 := hC.ld (by omega)
          omega
        have hpl := hC.leadv (by omega)
        refine lv_iconst (v := iz 0) hx hb d_Mo_fix_47 rfl ?_
        refine lv_istore hx hb d_Mo_fix_48 hl (by decide) rfl (fun ls hl => ?_)
        have hl : lv_has ls 10 [(6, .int (iz 0)), (0, .ref mo), (1, .ref ex), (2, .int (iz (cn : Int))), (3, .int (iz gr)), (4, .int (iz pt))] := hl
        refine lv_iload hx hb d_Mo_fix_50 (lv_at hl 0 rfl) ?_
        refine z_if_ne (tgt := 66) hx hb d_Mo_fix_52 rfl ⟨by omega, by omega⟩ (fun hc52 => ?_) (fun hc52 => ?_)
        · exfalso
          omega
        · refine lv_aload_n hx hb d_Mo_fix_55 rfl (lv_at hl 1 rfl) ?_
          refine va_get (D := D) (ci := 3) (v := .ref cu) (C := R_3) (T := T_3) (N := 11) hx hb hts in_3 hown hK hP 0 rfl rfl 10 (by decide) (hts _ tw_402) (fun _ h9 => h9) rfl d_Mo_fix_56 ?_
          refine va_get (D := D) (ci := 4) (v := .int (iz pp)) (C := R_4) (T := T_4) (N := 3) hx hb hts in_4 hown hK hP 6 rfl rfl 2 (by decide) (hts _ tw_384) (fun _ h9 => h9) rfl d_Mo_fix_59 ?_
          refine lv_iconst (v := iz 1) hx hb d_Mo_fix_62 rfl ?_
          refine z_icmp_ge (tgt := 70) hx hb d_Mo_fix_63 rfl ⟨by omega, by omega⟩ ⟨by omega, by omega⟩ (fun hc63 => ?_) (fun hc63 => ?_)
          · refine lv_aload_n hx hb d_Mo_fix_70 rfl (lv_at hl 1 rfl) ?_
            refine va_get (D := D) (ci := 3) (v := .ref cu) (C := R_3) (T := T_3) (N := 11) hx hb hts in_3 hown hK hP 0 rfl rfl 10 (by decide) (hts _ tw_402) (fun _ h9 => h9) rfl d_Mo_fix_71 ?_
            refine va_get (D := D) (ci := 4) (v := .int (iz pp)) (C := R_4) (T := T_4) (N := 3) hx hb hts in_4 hown hK hP 6 rfl rfl 2 (by decide) (hts _ tw_384) (fun _ h9 => h9) rfl d_Mo_fix_74 ?_
            refine lv_istore hx hb d_Mo_fix_77 hl (by decide) rfl (fun ls hl => ?_)
            have hl : lv_has ls 10 [(7, .int (iz pp)), (6, .int (iz 0)), (0, .ref mo), (1, .ref ex), (2, .int (iz (cn : Int))), (3, .int (iz gr)), (4, .int (iz pt))] := hl
            exact L79 0 pp _ _ _ hw hS (lv_sub hl [2, 4, 5, 6, 1, 0] rfl) (by first | exact Or.inl ⟨rfl, hC0, rfl⟩ | exact Or.inr ⟨rfl, hCne, by omega⟩)
          · refine lv_iconst (v := iz 0) hx hb d_Mo_fix_66 rfl ?_
            refine lv_goto (tgt := 77) hx hb d_Mo_fix_67 rfl ?_
            refine lv_istore hx hb d_Mo_fix_77 hl (by decide) rfl (fun ls hl => ?_)
            have hl : lv_has ls 10 [(7, .int (iz 0)), (6, .int (iz 0)), (0, .ref mo), (1, .ref ex), (2, .int (iz (cn : Int))), (3, .int (iz gr)), (4, .int (iz pt))] := hl
            exact L79 0 0 _ _ _ hw hS (lv_sub hl [2, 4, 5, 6, 1, 0] rfl) (by first | exact Or.inl ⟨rfl, hC0, rfl⟩ | exact Or.inr ⟨rfl, hCne, by omega⟩)
      · have hC0 : Cx = 0 := by
          first
            | (rw [hCx, hE.zero hc30]; exact rnd_0 _)
            | exact hC.zero hc40
        refine lv_iconst (v := iz 1) hx hb d_Mo_fix_43 rfl ?_
        refine lv_goto (tgt := 48) hx hb d_Mo_fix_44 rfl ?_
        refine lv_istore hx hb d_Mo_fix_48 hl (by decide) rfl (fun ls hl => ?_)
        have hl : lv_has ls 10 [(6, .int (iz 1)), (0, .ref mo), (1, .ref ex), (2, .int (iz (cn : Int))), (3, .int (iz gr)), (4, .int (iz pt))] := hl
        refine lv_iload hx hb d_Mo_fix_50 (lv_at hl 0 rfl) ?_
        refine z_if_ne (tgt := 66) hx hb d_Mo_fix_52 rfl ⟨by omega, by omega⟩ (fun hc52 => ?_) (fun hc52 => ?_)
        · refine lv_iconst (v := iz 0) hx hb d_Mo_fix_66 rfl ?_
          refine lv_goto (tgt := 77) hx hb d_Mo_fix_67 rfl ?_
          refine lv_istore hx hb d_Mo_fix_77 hl (by decide) rfl (fun ls hl => ?_)
          have hl : lv_has ls 10 [(7, .int (iz 0)), (6, .int (iz 1)), (0, .ref mo), (1, .ref ex), (2, .int (iz (cn : Int))), (3, .int (iz gr)), (4, .int (iz pt))] := hl
          exact L79 1 0 _ _ _ hw hS (lv_sub hl [2, 4, 5, 6, 1, 0] rfl) (by first | exact Or.inl ⟨rfl, hC0, rfl⟩ | exact Or.inr ⟨rfl, hCne, by omega⟩)
        · exfalso
          omega
  refine lv_aload_n hx hb d_Mo_fix_0 rfl (lv_at hl 1 rfl) ?_
  have hw9 := hw
  obtain ⟨fc, nc, pp, ⟨len, used, bl, fr, fb, lm, fe, ne, pe, ⟨hK, hP, hD⟩, hrt, hbt, hE, hpe, hlm⟩, hC⟩ := hw9
  have hr1 := hrt.1
  have hr2 := hrt.2.1
  have hb1 := hbt.1
  have hb2 := hbt.2.1
  have hE1 := hE.1
  have hC1 := hC.1
  have hP : va_P D vwCl [(mo, .inr (3, [.ref rs, .int (iz len), .int (iz co), .ref ex, .int (iz bi), .int (iz le), .ref li, .int (iz used), .ref bo, .int (iz bl), .ref cu])), (rs, .inl (cB, 4096, .inl (az fr))), (ex, .inr (4, [.ref xd, .int (iz ne), .int (iz pe)])), (xd, .inl (cB, 1300, .inl (az fe))), (li, .inl (cL, 160, .inr (.inl (azl lm)))), (bo, .inl (cB, 4096, .inl (az fb))), (cu, .inr (4, [.ref cd, .int (iz nc), .int (iz pp)])), (cd, .inl (cB, 1300, .inl (az fc)))] H := hP
  have hD : va_D (AM mo rs ex xd li bo cu cd) [(mo, .inr (3, [.ref rs, .int (iz len), .int (iz co), .ref ex, .int (iz bi), .int (iz le), .ref li, .int (iz used), .ref bo, .int (iz bl), .ref cu])), (rs, .inl (cB, 4096, .inl (az fr))), (ex, .inr (4, [.ref xd, .int (iz ne), .int (iz pe)])), (xd, .inl (cB, 1300, .inl (az fe))), (li, .inl (cL, 160, .inr (.inl (azl lm)))), (bo, .inl (cB, 4096, .inl (az fb))), (cu, .inr (4, [.ref cd, .int (iz nc), .int (iz pp)])), (cd, .inl (cB, 1300, .inl (az fc)))] := hD
  refine va_get (D := D) (ci := 4) (v := .int (iz ne)) (C := R_4) (T := T_4) (N := 3) hx hb hts in_4 hown hK hP 2 rfl rfl 1 (by decide) (hts _ tw_383) (fun _ h9 => h9) rfl d_Mo_fix_1 ?_
  refine z_if_ne (tgt := 11) hx hb d_Mo_fix_4 rfl ⟨by omega, by omega⟩ (fun hc4 => ?_) (fun hc4 => ?_)
  · refine lv_aload_n hx hb d_Mo_fix_11 rfl (lv_at hl 1 rfl) ?_
    refine va_get (D := D) (ci := 4) (v := .int (iz pe)) (C := R_4) (T := T_4) (N := 3) hx hb hts in_4 hown hK hP 2 rfl rfl 2 (by decide) (hts _ tw_384) (fun _ h9 => h9) rfl d_Mo_fix_12 ?_
    refine lv_iload_n hx hb d_Mo_fix_15 rfl (lv_at hl 2 rfl) ?_
    refine z_iadd hx hb d_Mo_fix_16 ?_
    refine lv_istore hx hb d_Mo_fix_17 hl (by decide) rfl (fun ls hl => ?_)
    have hl : lv_has ls 10 [(5, .int (iz (pe + (cn : Int)))), (0, .ref mo), (1, .ref ex), (2, .int (iz (cn : Int))), (3, .int (iz gr)), (4, .int (iz pt))] := hl
    refine lv_aload_n hx hb d_Mo_fix_19 rfl (lv_at hl 1 rfl) ?_
    refine lv_aload_n hx hb d_Mo_fix_20 rfl (lv_at hl 2 rfl) ?_
    refine lv_iload hx hb d_Mo_fix_21 (lv_at hl 0 rfl) ?_
    have hct := c_Mo_round l D cB cL mo rs ex xd li bo cu cd co bi le rt bt V C (pe + (cn : Int)) ⟨by omega, by omega⟩
    refine z_go (va_runV (As := [.ref ex, .int (iz (pe + (cn : Int)))]) (rest := []) ⟨hx, hb, hml, hown, hts⟩ hct.2 (z_cwV hts w_Mo_rounded tw_508 (by decide)) (z_preV hct.1 (va_recv hK hP (ci := 3) (q0 := 0) rfl rfl) hw) rfl rfl hl.1 rfl (lv_room (Nat.le_of_ble_eq_true rfl)) d_Mo_fix_23 ⟨Nat.zero_le _, Nat.zero_le _⟩) hS (fun _ h9 => h9) (fun v9 t9 H locs hv9 hp9 hz9 hk9 hS => ?_)
    obtain ⟨rfl, hw⟩ := hp9
    have hw := MW.moved hv9.symm hw
    have e8 : rnd V (lead V + 1 - (pe + (cn : Int))) = Cx := by
      rw [hCx, hE.leadv (by omega), show pe - 1 + 1 - (pe + (cn : Int)) = -(cn : Int) by omega]
    rw [e8] at hw
    refine W.eq (g2 := F0 m 26 ls []) rfl ?_
    exact L26  _ _ _ hw hS (lv_sub hl [1, 2, 3, 4, 5] rfl) 
  · refine lv_iconst (v := iz 0) hx hb d_Mo_fix_7 rfl ?_
    refine lv_goto (tgt := 17) hx hb d_Mo_fix_8 rfl ?_
    refine lv_istore hx hb d_Mo_fix_17 hl (by decide) rfl (fun ls hl => ?_)
    have hl : lv_has ls 10 [(5, .int (iz 0)), (0, .ref mo), (1, .ref ex), (2, .int (iz (cn : Int))), (3, .int (iz gr)), (4, .int (iz pt))] := hl
    refine lv_aload_n hx hb d_Mo_fix_19 rfl (lv_at hl 1 rfl) ?_
    refine lv_aload_n hx hb d_Mo_fix_20 rfl (lv_at hl 2 rfl) ?_
    refine lv_iload hx hb d_Mo_fix_21 (lv_at hl 0 rfl) ?_
    have hct := c_Mo_round l D cB cL mo rs ex xd li bo cu cd co bi le rt bt V C (0) ⟨by omega, by omega⟩
    refine z_go (va_runV (As := [.ref ex, .int (iz 0)]) (rest := []) ⟨hx, hb, hml, hown, hts⟩ hct.2 (z_cwV hts w_Mo_rounded tw_508 (by decide)) (z_preV hct.1 (va_recv hK hP (ci := 3) (q0 := 0) rfl rfl) hw) rfl rfl hl.1 rfl (lv_room (Nat.le_of_ble_eq_true rfl)) d_Mo_fix_23 ⟨Nat.zero_le _, Nat.zero_le _⟩) hS (fun _ h9 => h9) (fun v9 t9 H locs hv9 hp9 hz9 hk9 hS => ?_)
    obtain ⟨rfl, hw⟩ := hp9
    have hw := MW.moved hv9.symm hw
    have e8 : rnd V (lead V + 1 - 0) = Cx := by
      rw [hCx, hE.zero hc4, rnd_0, rnd_0]
    rw [e8] at hw
    refine W.eq (g2 := F0 m 26 ls []) rfl ?_
    exact L26  _ _ _ hw hS (lv_sub hl [1, 2, 3, 4, 5] rfl) 
end
section
theorem d_Mo_gen_0 : decode b_Mo_general 0 = .ok (.iload_n 2, 1) := by decide +kernel
theorem d_Mo_gen_1 : decode b_Mo_general 1 = .ok (.ifCond .ne (7), 3) := by decide +kernel
theorem d_Mo_gen_4 : decode b_Mo_general 4 = .ok (.iconst 1, 1) := by decide +kernel
theorem d_Mo_gen_5 : decode b_Mo_general 5 = .ok (.goto (4), 3) := by decide +kernel
theorem d_Mo_gen_8 : decode b_Mo_general 8 = .ok (.iload_n 2, 1) := by decide +kernel
theorem d_Mo_gen_9 : decode b_Mo_general 9 = .ok (.istore 4, 2) := by decide +kernel
theorem d_Mo_gen_11 : decode b_Mo_general 11 = .ok (.aload_n 1, 1) := by decide +kernel
theorem d_Mo_gen_12 : decode b_Mo_general 12 = .ok (.getfield 79, 3) := by decide +kernel
theorem d_Mo_gen_15 : decode b_Mo_general 15 = .ok (.ifCond .ne (15), 3) := by decide +kernel
theorem d_Mo_gen_18 : decode b_Mo_general 18 = .ok (.aload_n 0, 1) := by decide +kernel
theorem d_Mo_gen_19 : decode b_Mo_general 19 = .ok (.aload_n 1, 1) := by decide +kernel
theorem d_Mo_gen_20 : decode b_Mo_general 20 = .ok (.iload 4, 2) := by decide +kernel
theorem d_Mo_gen_22 : decode b_Mo_general 22 = .ok (.iconst 1, 1) := by decide +kernel
theorem d_Mo_gen_23 : decode b_Mo_general 23 = .ok (.isub, 1) := by decide +kernel
theorem d_Mo_gen_24 : decode b_Mo_general 24 = .ok (.iload_n 3, 1) := by decide +kernel
theorem d_Mo_gen_25 : decode b_Mo_general 25 = .ok (.iconst 0, 1) := by decide +kernel
theorem d_Mo_gen_26 : decode b_Mo_general 26 = .ok (.invokevirtual 111, 3) := by decide +kernel
theorem d_Mo_gen_29 : decode b_Mo_general 29 = .ok (.return_, 1) := by decide +kernel
theorem d_Mo_gen_30 : decode b_Mo_general 30 = .ok (.aload_n 0, 1) := by decide +kernel
theorem d_Mo_gen_31 : decode b_Mo_general 31 = .ok (.aload_n 1, 1) := by decide +kernel
theorem d_Mo_gen_32 : decode b_Mo_general 32 = .ok (.iload 4, 2) := by decide +kernel
theorem d_Mo_gen_34 : decode b_Mo_general 34 = .ok (.invokevirtual 99, 3) := by decide +kernel
theorem d_Mo_gen_37 : decode b_Mo_general 37 = .ok (.aload_n 0, 1) := by decide +kernel
theorem d_Mo_gen_38 : decode b_Mo_general 38 = .ok (.getfield 27, 3) := by decide +kernel
theorem d_Mo_gen_41 : decode b_Mo_general 41 = .ok (.getfield 89, 3) := by decide +kernel
theorem d_Mo_gen_44 : decode b_Mo_general 44 = .ok (.istore 5, 2) := by decide +kernel
theorem d_Mo_gen_46 : decode b_Mo_general 46 = .ok (.iload 5, 2) := by decide +kernel
theorem d_Mo_gen_48 : decode b_Mo_general 48 = .ok (.bipush (-3), 2) := by decide +kernel
theorem d_Mo_gen_50 : decode b_Mo_general 50 = .ok (.if_icmp .lt (25), 3) := by decide +kernel
theorem d_Mo_gen_53 : decode b_Mo_general 53 = .ok (.iload 5, 2) := by decide +kernel
theorem d_Mo_gen_55 : decode b_Mo_general 55 = .ok (.iload 4, 2) := by decide +kernel
theorem d_Mo_gen_57 : decode b_Mo_general 57 = .ok (.if_icmp .gt (18), 3) := by decide +kernel
theorem d_Mo_gen_60 : decode b_Mo_general 60 = .ok (.aload_n 0, 1) := by decide +kernel
theorem d_Mo_gen_61 : decode b_Mo_general 61 = .ok (.aload_n 1, 1) := by decide +kernel
theorem d_Mo_gen_62 : decode b_Mo_general 62 = .ok (.iload 4, 2) := by decide +kernel
theorem d_Mo_gen_64 : decode b_Mo_general 64 = .ok (.iload 5, 2) := by decide +kernel
theorem d_Mo_gen_66 : decode b_Mo_general 66 = .ok (.isub, 1) := by decide +kernel
theorem d_Mo_gen_67 : decode b_Mo_general 67 = .ok (.iload_n 3, 1) := by decide +kernel
theorem d_Mo_gen_68 : decode b_Mo_general 68 = .ok (.iconst 0, 1) := by decide +kernel
theorem d_Mo_gen_69 : decode b_Mo_general 69 = .ok (.invokevirtual 111, 3) := by decide +kernel
theorem d_Mo_gen_72 : decode b_Mo_general 72 = .ok (.goto (13), 3) := by decide +kernel
theorem d_Mo_gen_75 : decode b_Mo_general 75 = .ok (.aload_n 0, 1) := by decide +kernel
theorem d_Mo_gen_76 : decode b_Mo_general 76 = .ok (.aload_n 1, 1) := by decide +kernel
theorem d_Mo_gen_77 : decode b_Mo_general 77 = .ok (.iload 4, 2) := by decide +kernel
theorem d_Mo_gen_79 : decode b_Mo_general 79 = .ok (.iconst 1, 1) := by decide +kernel
theorem d_Mo_gen_80 : decode b_Mo_general 80 = .ok (.isub, 1) := by decide +kernel
theorem d_Mo_gen_81 : decode b_Mo_general 81 = .ok (.iconst 0, 1) := by decide +kernel
theorem d_Mo_gen_82 : decode b_Mo_general 82 = .ok (.invokevirtual 115, 3) := by decide +kernel
theorem d_Mo_gen_85 : decode b_Mo_general 85 = .ok (.return_, 1) := by decide +kernel
set_option maxHeartbeats 4000000 in
set_option maxRecDepth 100000 in
theorem c_Mo_gen (l : Launch) (D : va_G) (cB cL : ClassId) (mo rs ex xd li bo cu cd : Nat) (co bi le : Int) (rt bt : List Int) (V C : Int) (pr : Nat) (gr Cx : Int) (hCx : Cx = rnd V (lead V + 1 - ((max pr 1 : Nat) : Int))) (hpr : pr ≤ 1200) (hgr : gr = 0 ∨ gr = 1) (hr0 : -999 ≤ lead Cx ∧ lead Cx ≤ 999) (hlen : bt.length + (ipR Cx gr (max (lead Cx) 0)).length + 1300 ≤ 4096) : Ct l y_Mo_general (ws_Mo_general) 3 (AM mo rs ex xd li bo cu cd) [.ref mo, .ref ex, .int (iz (pr : Int)), .int (iz gr)] (MW D cB cL mo rs ex xd li bo cu cd co bi le rt bt V C) (zR none (MW D cB cL mo rs ex xd li bo cu cd co bi le rt (bt ++ genL Cx (max pr 1) gr) V Cx)) := by
  refine z_body zSt_MW (by decide +kernel) rfl (Nat.le_of_ble_eq_true rfl) ?_
  intro p e s m args below meth c ls hx hb hml hr hlk hts0 hown hpre0 H locs hpre hS hl
  have hts : ∀ w ∈ TBL, w.before args s = true := fun w hw => hts0 w (List.mem_cons_of_mem _ hw)
  have hl : lv_has ls 6 [(0, .ref mo), (1, .ref ex), (2, .int (iz (pr : Int))), (3, .int (iz gr))] := hl
  have hw := hpre
  have L11 : ∀  (H : Heap) (locs : List Loc) (ls : Array Slot), MW D cB cL mo rs ex xd li bo cu cd co bi le rt bt V C s H → va_S (AM mo rs ex xd li bo cu cd) s.heap H locs → lv_has ls 6 [(0, .ref mo), (1, .ref ex), (3, .int (iz gr)), (4, .int (iz ((max pr 1 : Nat) : Int)))] → W p l e (zrm 3) s m args below meth c H locs 0 0 (MQ below (zQ (AM mo rs ex xd li bo cu cd) (zR none (MW D cB cL mo rs ex xd li bo cu cd co bi le rt (bt ++ genL Cx (max pr 1) gr) V Cx))) args s 0 0 (AM mo rs ex xd li bo cu cd)) (F0 m 11 ls []) := by
    intro  H locs ls hw hS hl 
    refine lv_aload_n hx hb d_Mo_gen_11 rfl (lv_at hl 1 rfl) ?_
    have hw9 := hw
    obtain ⟨fc, nc, pp, ⟨len, used, bl, fr, fb, lm, fe, ne, pe, ⟨hK, hP, hD⟩, hrt, hbt, hE, hpe, hlm⟩, hC⟩ := hw9
    have hr1 := hrt.1
    have hr2 := hrt.2.1
    have hb1 := hbt.1
    have hb2 := hbt.2.1
    have hE1 := hE.1
    have hC1 := hC.1
    have hP : va_P D vwCl [(mo, .inr (3, [.ref rs, .int (iz len), .int (iz co), .ref ex, .int (iz bi), .int (iz le), .ref li, .int (iz used), .ref bo, .int (iz bl), .ref cu])), (rs, .inl (cB, 4096, .inl (az fr))), (ex, .inr (4, [.ref xd, .int (iz ne), .int (iz pe)])), (xd, .inl (cB, 1300, .inl (az fe))), (li, .inl (cL, 160, .inr (.inl (azl lm)))), (bo, .inl (cB, 4096, .inl (az fb))), (cu, .inr (4, [.ref cd, .int (iz nc), .int (iz pp)])), (cd, .inl (cB, 1300, .inl (az fc)))] H := hP
    have hD : va_D (AM mo rs ex xd li bo cu cd) [(mo, .inr (3, [.ref rs, .int (iz len), .int (iz co), .ref ex, .int (iz bi), .int (iz le), .ref li, .int (iz used), .ref bo, .int (iz bl), .ref cu])), (rs, .inl (cB, 4096, .inl (az fr))), (ex, .inr (4, [.ref xd, .int (iz ne), .int (iz pe)])), (xd, .inl (cB, 1300, .inl (az fe))), (li, .inl (cL, 160, .inr (.inl (azl lm)))), (bo, .inl (cB, 4096, .inl (az fb))), (cu, .inr (4, [.ref cd, .int (iz nc), .int (iz pp)])), (cd, .inl (cB, 1300, .inl (az fc)))] := hD
    refine va_get (D := D) (ci := 4) (v := .int (iz ne)) (C := R_4) (T := T_4) (N := 3) hx hb hts in_4 hown hK hP 2 rfl rfl 1 (by decide) (hts _ tw_383) (fun _ h9 => h9) rfl d_Mo_gen_12 ?_
    refine z_if_ne (tgt := 30) hx hb d_Mo_gen_15 rfl ⟨by omega, by omega⟩ (fun hc15 => ?_) (fun hc15 => ?_)
    · have hV8 := (hE.ld (by omega)).2
      have hpos := rnd_pos hE (by omega) (k := ((max pr 1 : Nat) : Int)) (by omega)
      rw [← hCx] at hpos
      refine lv_aload_n hx hb d_Mo_gen_30 rfl (lv_at hl 0 rfl) ?_
      refine lv_aload_n hx hb d_Mo_gen_31 rfl (lv_at hl 1 rfl) ?_
      refine lv_iload hx hb d_Mo_gen_32 (lv_at hl 3 rfl) ?_
      have hct := c_Mo_round l D cB cL mo rs ex xd li bo cu cd co bi le rt bt V C ((max pr 1 : Nat) : Int) ⟨by omega, by omega⟩
      refine z_go (va_runV (As := [.ref ex, .int (iz ((max pr 1 : Nat) : Int))]) (rest := []) ⟨hx, hb, hml, hown, hts⟩ hct.2 (z_cwV hts w_Mo_rounded tw_508 (by decide)) (z_preV hct.1 (va_recv hK hP (ci := 3) (q0 := 0) rfl rfl) hw) rfl rfl hl.1 rfl (lv_room (Nat.le_of_ble_eq_true rfl)) d_Mo_gen_34 ⟨Nat.zero_le _, Nat.zero_le _⟩) hS (fun _ h9 => h9) (fun v9 t9 H locs hv9 hp9 hz9 hk9 hS => ?_)
      obtain ⟨rfl, hw⟩ := hp9
      have hw := MW.moved hv9.symm hw
      rw [← hCx] at hw
      refine W.eq (g2 := F0 m 37 ls []) rfl ?_
      refine lv_aload_n hx hb d_Mo_gen_37 rfl (lv_at hl 0 rfl) ?_
      have hw9 := hw
      obtain ⟨fc, nc, pp, ⟨len, used, bl, fr, fb, lm, fe, ne, pe, ⟨hK, hP, hD⟩, hrt, hbt, hE, hpe, hlm⟩, hC⟩ := hw9
      have hr1 := hrt.1
      have hr2 := hrt.2.1
      have hb1 := hbt.1
      have hb2 := hbt.2.1
      have hE1 := hE.1
      have hC1 := hC.1
      have hP : va_P D vwCl [(mo, .inr (3, [.ref rs, .int (iz len), .int (iz co), .ref ex, .int (iz bi), .int (iz le), .ref li, .int (iz used), .ref bo, .int (iz bl), .ref cu])), (rs, .inl (cB, 4096, .inl (az fr))), (ex, .inr (4, [.ref xd, .int (iz ne), .int (iz pe)])), (xd, .inl (cB, 1300, .inl (az fe))), (li, .inl (cL, 160, .inr (.inl (azl lm)))), (bo, .inl (cB, 4096, .inl (az fb))), (cu, .inr (4, [.ref cd, .int (iz nc), .int (iz pp)])), (cd, .inl (cB, 1300, .inl (az fc)))] H := hP
      have hD : va_D (AM mo rs ex xd li bo cu cd) [(mo, .inr (3, [.ref rs, .int (iz len), .int (iz co), .ref ex, .int (iz bi), .int (iz le), .ref li, .int (iz used), .ref bo, .int (iz bl), .ref cu])), (rs, .inl (cB, 4096, .inl (az fr))), (ex, .inr (4, [.ref xd, .int (iz ne), .int (iz pe)])), (xd, .inl (cB, 1300, .inl (az fe))), (li, .inl (cL, 160, .inr (.inl (azl lm)))), (bo, .inl (cB, 4096, .inl (az fb))), (cu, .inr (4, [.ref cd, .int (iz nc), .int (iz pp)])), (cd, .inl (cB, 1300, .inl (az fc)))] := hD
      refine va_get (D := D) (ci := 3) (v := .ref cu) (C := R_3) (T := T_3) (N := 11) hx hb hts in_3 hown hK hP 0 rfl rfl 10 (by decide) (hts _ tw_402) (fun _ h9 => h9) rfl d_Mo_gen_38 ?_
      refine va_get (D := D) (ci := 4) (v := .int (iz pp)) (C := R_4) (T := T_4) (N := 3) hx hb hts in_4 hown hK hP 6 rfl rfl 2 (by decide) (hts _ tw_384) (fun _ h9 => h9) rfl d_Mo_gen_41 ?_
      have hpl : pp = lead Cx + 1 := by
        have h9 : nc ≠ 0 := fun q => by have := hC.zero q; omega
        have := hC.leadv (by omega)
        omega
      refine lv_istore hx hb d_Mo_gen_44 hl (by decide) rfl (fun ls hl => ?_)
      have hl : lv_has ls 6 [(5, .int (iz pp)), (0, .ref mo), (1, .ref ex), (3, .int (iz gr)), (4, .int (iz ((max pr 1 : Nat) : Int)))] := hl
      refine lv_iload hx hb d_Mo_gen_46 (lv_at hl 0 rfl) ?_
      refine lv_bipush (v := iz (-3)) hx hb d_Mo_gen_48 (by decide) ?_
      refine z_icmp_lt (tgt := 75) hx hb d_Mo_gen_50 rfl ⟨by omega, by omega⟩ ⟨by omega, by omega⟩ (fun hc50 => ?_) (fun hc50 => ?_)
      · refine lv_aload_n hx hb d_Mo_gen_75 rfl (lv_at hl 1 rfl) ?_
        refine lv_aload_n hx hb d_Mo_gen_76 rfl (lv_at hl 2 rfl) ?_
        refine lv_iload hx hb d_Mo_gen_77 (lv_at hl 4 rfl) ?_
        refine lv_iconst (v := iz 1) hx hb d_Mo_gen_79 rfl ?_
        refine z_isub hx hb d_Mo_gen_80 ?_
        refine z_ri (b := ((max pr 1 - 1 : Nat) : Int)) (by omega) ?_
        refine lv_iconst (v := iz 0) hx hb d_Mo_gen_81 rfl ?_
        have hct := c_Mo_sci l D cB cL mo rs ex xd li bo cu cd co bi le rt bt V Cx (max pr 1 - 1) 0 Cx (by rw [hCx, show ((max pr 1 - 1 : Nat) : Int) + 1 = ((max pr 1 : Nat) : Int) by omega]) (by omega) (by omega) hr0 (by omega)
        refine z_go (va_runV (As := [.ref ex, .int (iz ((max pr 1 - 1 : Nat) : Int)), .int (iz 0)]) (rest := []) ⟨hx, hb, hml, hown, hts⟩ hct.2 (z_cwV hts w_Mo_scientific tw_504 (by decide)) (z_preV hct.1 (va_recv hK hP (ci := 3) (q0 := 0) rfl rfl) hw) rfl rfl hl.1 rfl (lv_room (Nat.le_of_ble_eq_true rfl)) d_Mo_gen_82 ⟨Nat.zero_le _, Nat.zero_le _⟩) hS (fun _ h9 => h9) (fun v9 t9 H locs hv9 hp9 hz9 hk9 hS => ?_)
        obtain ⟨rfl, hw⟩ := hp9
        have hw := MW.moved hv9.symm hw
        refine W.eq (g2 := F0 m 85 ls []) rfl ?_
        exact z_vret hx hb hr hlk hS (zR_st zSt_MW) ⟨rfl, by
            unfold genL
            rw [if_neg (by omega)]
            exact hw⟩ d_Mo_gen_85
      · refine lv_iload hx hb d_Mo_gen_53 (lv_at hl 0 rfl) ?_
        refine lv_iload hx hb d_Mo_gen_55 (lv_at hl 4 rfl) ?_
        refine z_icmp_gt (tgt := 75) hx hb d_Mo_gen_57 rfl ⟨by omega, by omega⟩ ⟨by omega, by omega⟩ (fun hc57 => ?_) (fun hc57 => ?_)
        · refine lv_aload_n hx hb d_Mo_gen_75 rfl (lv_at hl 1 rfl) ?_
          refine lv_aload_n hx hb d_Mo_gen_76 rfl (lv_at hl 2 rfl) ?_
          refine lv_iload hx hb d_Mo_gen_77 (lv_at hl 4 rfl) ?_
          refine lv_iconst (v := iz 1) hx hb d_Mo_gen_79 rfl ?_
          refine z_isub hx hb d_Mo_gen_80 ?_
          refine z_ri (b := ((max pr 1 - 1 : Nat) : Int)) (by omega) ?_
          refine lv_iconst (v := iz 0) hx hb d_Mo_gen_81 rfl ?_
          have hct := c_Mo_sci l D cB cL mo rs ex xd li bo cu cd co bi le rt bt V Cx (max pr 1 - 1) 0 Cx (by rw [hCx, show ((max pr 1 - 1 : Nat) : Int) + 1 = ((max pr 1 : Nat) : Int) by omega]) (by omega) (by omega) hr0 (by omega)
          refine z_go (va_runV (As := [.ref ex, .int (iz ((max pr 1 - 1 : Nat) : Int)), .int (iz 0)]) (rest := []) ⟨hx, hb, hml, hown, hts⟩ hct.2 (z_cwV hts w_Mo_scientific tw_504 (by decide)) (z_preV hct.1 (va_recv hK hP (ci := 3) (q0 := 0) rfl rfl) hw) rfl rfl hl.1 rfl (lv_room (Nat.le_of_ble_eq_true rfl)) d_Mo_gen_82 ⟨Nat.zero_le _, Nat.zero_le _⟩) hS (fun _ h9 => h9) (fun v9 t9 H locs hv9 hp9 hz9 hk9 hS => ?_)
          obtain ⟨rfl, hw⟩ := hp9
          have hw := MW.moved hv9.symm hw
          refine W.eq (g2 := F0 m 85 ls []) rfl ?_
          exact z_vret hx hb hr hlk hS (zR_st zSt_MW) ⟨rfl, by
              unfold genL
              rw [if_neg (by omega)]
              exact hw⟩ d_Mo_gen_85
        · refine lv_aload_n hx hb d_Mo_gen_60 rfl (lv_at hl 1 rfl) ?_
          refine lv_aload_n hx hb d_Mo_gen_61 rfl (lv_at hl 2 rfl) ?_
          refine lv_iload hx hb d_Mo_gen_62 (lv_at hl 4 rfl) ?_
          refine lv_iload hx hb d_Mo_gen_64 (lv_at hl 0 rfl) ?_
          refine z_isub hx hb d_Mo_gen_66 ?_
          refine z_ri (b := ((((max pr 1 : Nat) : Int) - pp).toNat : Int)) (by omega) ?_
          refine lv_iload_n hx hb d_Mo_gen_67 rfl (lv_at hl 3 rfl) ?_
          refine lv_iconst (v := iz 0) hx hb d_Mo_gen_68 rfl ?_
          have hct := c_Mo_fix l D cB cL mo rs ex xd li bo cu cd co bi le rt bt V Cx (((max pr 1 : Nat) : Int) - pp).toNat gr 0 Cx (by
              have h8 := gen_same hV8 (k := max pr 1) (by omega)
              rw [← hCx] at h8
              rw [show -(((((max pr 1 : Nat) : Int) - pp).toNat : Nat) : Int) = lead Cx + 1 - ((max pr 1 : Nat) : Int) by omega]
              exact h8.symm) (by omega) hgr (by omega) (by omega) (by omega)
          refine z_go (va_runV (As := [.ref ex, .int (iz ((((max pr 1 : Nat) : Int) - pp).toNat : Int)), .int (iz gr), .int (iz 0)]) (rest := []) ⟨hx, hb, hml, hown, hts⟩ hct.2 (z_cwV hts w_Mo_fixed tw_518 (by decide)) (z_preV hct.1 (va_recv hK hP (ci := 3) (q0 := 0) rfl rfl) hw) rfl rfl hl.1 rfl (lv_room (Nat.le_of_ble_eq_true rfl)) d_Mo_gen_69 ⟨Nat.zero_le _, Nat.zero_le _⟩) hS (fun _ h9 => h9) (fun v9 t9 H locs hv9 hp9 hz9 hk9 hS => ?_)
          obtain ⟨rfl, hw⟩ := hp9
          have hw := MW.moved hv9.symm hw
          refine W.eq (g2 := F0 m 72 ls []) rfl ?_
          refine lv_goto (tgt := 85) hx hb d_Mo_gen_72 rfl ?_
          exact z_vret hx hb hr hlk hS (zR_st zSt_MW) ⟨rfl, by
              unfold genL
              rw [if_pos (by omega), show (((max pr 1 : Nat) : Int) - 1 - lead Cx).toNat = (((max pr 1 : Nat) : Int) - pp).toNat by omega]
              exact hw⟩ d_Mo_gen_85
    · have hV8 := hE.zero hc15
      have hC0 : Cx = 0 := by
        rw [hCx, hV8]
        exact rnd_0 _
      refine lv_aload_n hx hb d_Mo_gen_18 rfl (lv_at hl 0 rfl) ?_
      refine lv_aload_n hx hb d_Mo_gen_19 rfl (lv_at hl 1 rfl) ?_
      refine lv_iload hx hb d_Mo_gen_20 (lv_at hl 3 rfl) ?_
      refine lv_iconst (v := iz 1) hx hb d_Mo_gen_22 rfl ?_
      refine z_isub hx hb d_Mo_gen_23 ?_
      refine z_ri (b := ((max pr 1 - 1 : Nat) : Int)) (by omega) ?_
      refine lv_iload_n hx hb d_Mo_gen_24 rfl (lv_at hl 2 rfl) ?_
      refine lv_iconst (v := iz 0) hx hb d_Mo_gen_25 rfl ?_
      have hct := c_Mo_fix l D cB cL mo rs ex xd li bo cu cd co bi le rt bt V C (max pr 1 - 1) gr 0 Cx (by rw [hC0, hV8, rnd_0]) (by omega) hgr (by omega) (by omega) (by omega)
      refine z_go (va_runV (As := [.ref ex, .int (iz ((max pr 1 - 1 : Nat) : Int)), .int (iz gr), .int (iz 0)]) (rest := []) ⟨hx, hb, hml, hown, hts⟩ hct.2 (z_cwV hts w_Mo_fixed tw_518 (by decide)) (z_preV hct.1 (va_recv hK hP (ci := 3) (q0 := 0) rfl rfl) hw) rfl rfl hl.1 rfl (lv_room (Nat.le_of_ble_eq_true rfl)) d_Mo_gen_26 ⟨Nat.zero_le _, Nat.zero_le _⟩) hS (fun _ h9 => h9) (fun v9 t9 H locs hv9 hp9 hz9 hk9 hS => ?_)
      obtain ⟨rfl, hw⟩ := hp9
      have hw := MW.moved hv9.symm hw
      refine W.eq (g2 := F0 m 29 ls []) rfl ?_
      exact z_vret hx hb hr hlk hS (zR_st zSt_MW) ⟨rfl, by
          unfold genL
          rw [if_pos (by rw [hC0, lead_0]; omega)]
          rw [show (((max pr 1 : Nat) : Int) - 1 - lead Cx).toNat = max pr 1 - 1 by rw [hC0, lead_0]; omega]
          exact hw⟩ d_Mo_gen_29
  refine lv_iload_n hx hb d_Mo_gen_0 rfl (lv_at hl 2 rfl) ?_
  refine z_if_ne (tgt := 8) hx hb d_Mo_gen_1 rfl ⟨by omega, by omega⟩ (fun hc1 => ?_) (fun hc1 => ?_)
  · refine lv_iload_n hx hb d_Mo_gen_8 rfl (lv_at hl 2 rfl) ?_
    refine z_ri (b := ((max pr 1 : Nat) : Int)) (by omega) ?_
    refine lv_istore hx hb d_Mo_gen_9 hl (by decide) rfl (fun ls hl => ?_)
    have hl : lv_has ls 6 [(4, .int (iz ((max pr 1 : Nat) : Int))), (0, .ref mo), (1, .ref ex), (2, .int (iz (pr : Int))), (3, .int (iz gr))] := hl
    exact L11  _ _ _ hw hS (lv_sub hl [1, 2, 4, 0] rfl) 
  · refine lv_iconst (v := iz 1) hx hb d_Mo_gen_4 rfl ?_
    refine z_ri (b := ((max pr 1 : Nat) : Int)) (by omega) ?_
    refine lv_goto (tgt := 9) hx hb d_Mo_gen_5 rfl ?_
    refine lv_istore hx hb d_Mo_gen_9 hl (by decide) rfl (fun ls hl => ?_)
    have hl : lv_has ls 6 [(4, .int (iz ((max pr 1 : Nat) : Int))), (0, .ref mo), (1, .ref ex), (2, .int (iz (pr : Int))), (3, .int (iz gr))] := hl
    exact L11  _ _ _ hw hS (lv_sub hl [1, 2, 4, 0] rfl) 
end
section
/-! the reference's limbs, the lowest first -/
def le9 (f : Int → Int) : Nat → Int
  | 0 => 0
  | n + 1 => le9 f n + f (n : Int) * 1000000000 ^ n
def LmOK (f : Int → Int) (used L : Int) : Prop := (0 ≤ used ∧ used ≤ 160) ∧ (∀ j, 0 ≤ f j ∧ f j < 1000000000) ∧ le9 f used.toNat = L
theorem le9_congr {f g : Int → Int} : ∀ {n : Nat}, (∀ j : Int, 0 ≤ j → j < (n : Int) → f j = g j) → le9 f n = le9 g n
  | 0, _ => rfl
  | n + 1, h => by
    show le9 f n + f (n : Int) * _ = le9 g n + g (n : Int) * _
    rw [le9_congr (n := n) (fun j h0 h1 => h j h0 (by omega)), h (n : Int) (by omega) (by omega)]
theorem le9_nn {f : Int → Int} (h : ∀ j, 0 ≤ f j ∧ f j < 1000000000) : ∀ n, 0 ≤ le9 f n ∧ le9 f n < 1000000000 ^ n
  | 0 => ⟨Int.le_refl 0, by show (0 : Int) < 1; decide⟩
  | n + 1 => by
    show 0 ≤ le9 f n + f (n : Int) * 1000000000 ^ n ∧ le9 f n + f (n : Int) * 1000000000 ^ n < 1000000000 ^ (n + 1)
    have h1 := le9_nn h n
    have h2 := h (n : Int)
    have hp : (0 : Int) < 1000000000 ^ n := Int.pow_pos (by decide)
    rw [Int.pow_succ]
    generalize (1000000000 : Int) ^ n = z at h1 hp ⊢
    have h3 : 0 ≤ f (n : Int) * z := Int.mul_nonneg h2.1 (Int.le_of_lt hp)
    have h4 : f (n : Int) * z ≤ 999999999 * z := Int.mul_le_mul_of_nonneg_right (by omega) (Int.le_of_lt hp)
    omega
/-- times a number, limb by limb -/
def TimI (f h : Int → Int) (by_ i cy : Int) : Prop := 0 ≤ i ∧ (0 ≤ cy ∧ cy < by_) ∧ (∀ j, 0 ≤ h j ∧ h j < 1000000000) ∧ (∀ j, i ≤ j → h j = f j) ∧ le9 h i.toNat + cy * 1000000000 ^ i.toNat = by_ * le9 f i.toNat
theorem TimI.start {f : Int → Int} {by_ : Int} (hf : ∀ j, 0 ≤ f j ∧ f j < 1000000000) (h : 0 < by_) : TimI f f by_ 0 0 := ⟨Int.le_refl 0, ⟨by omega, h⟩, hf, fun _ _ => rfl, by show 0 + 0 * _ = by_ * 0; omega⟩
theorem TimI.b {f h : Int → Int} {by_ i cy : Int} (ht : TimI f h by_ i cy) (hb : by_ ≤ 536870912) : 0 ≤ h i * by_ ∧ h i * by_ ≤ 536870912000000000 := mul_b (ht.2.2.1 i) ⟨by have := ht.2.1; omega, hb⟩
theorem TimI.step {f h : Int → Int} {by_ i cy : Int} (ht : TimI f h by_ i cy) : TimI f (up h i ((cy + h i * by_) % 1000000000)) by_ (i + 1) ((cy + h i * by_) / 1000000000) := by
  obtain ⟨h1, h2, h3, h4, h5⟩ := ht
  have hc := mul_c (h3 i) (show 0 < by_ by omega) h2
  rw [Int.add_comm] at hc
  refine ⟨by omega, hc, fun j => ?_, fun j hj => by rw [up_n _ _ (by omega)]; exact h4 j (by omega), ?_⟩
  · by_cases hq : j = i
    · rw [hq, up_s]; omega
    · rw [up_n _ _ hq]; exact h3 j
  · obtain ⟨k, rfl⟩ := Int.eq_ofNat_of_zero_le h1
    rw [show ((k : Int) + 1).toNat = k + 1 by omega]
    rw [Int.toNat_natCast] at h5
    show le9 (up h (k : Int) _) k + up h (k : Int) _ (k : Int) * 1000000000 ^ k + _ * 1000000000 ^ (k + 1) = by_ * (le9 f k + f (k : Int) * 1000000000 ^ k)
    rw [up_s, le9_congr (f := up h (k : Int) _) (g := h) (fun j _ hj => up_n h _ (by omega)), ← h4 (k : Int) (by omega), Int.pow_succ]
    have e := Int.emod_add_mul_ediv (cy + h (k : Int) * by_) 1000000000
    generalize (cy + h (k : Int) * by_) / 1000000000 = q at *
    generalize (cy + h (k : Int) * by_) % 1000000000 = r at *
    generalize (1000000000 : Int) ^ k = z at *
    generalize le9 h k = a at *
    generalize le9 f k = b at *
    generalize h (k : Int) = y at *
    grind
theorem TimI.stop0 {f h : Int → Int} {by_ used L : Int} (hl : LmOK f used L) (ht : TimI f h by_ used 0) : LmOK h used (by_ * L) := by
  obtain ⟨l1, l2, l3⟩ := hl
  obtain ⟨h1, h2, h3, h4, h5⟩ := ht
  refine ⟨l1, h3, ?_⟩
  rw [← l3, ← h5]
  omega
theorem TimI.lt {f h : Int → Int} {by_ used cy L : Int} (hl : LmOK f used L) (ht : TimI f h by_ used cy) (hc : 0 < cy) (hL : by_ * L < 1000000000 ^ 160) : used < 160 := by
  obtain ⟨l1, l2, l3⟩ := hl
  obtain ⟨h1, h2, h3, h4, h5⟩ := ht
  by_cases hq : used < 160
  · exact hq
  · exfalso
    have e : used.toNat = 160 := by omega
    rw [l3] at h5
    rw [e] at h5
    have h6 := (le9_nn h3 160).1
    have hp : (0 : Int) < 1000000000 ^ 160 := Int.pow_pos (by decide)
    have h7 := Int.mul_le_mul_of_nonneg_right (show 1 ≤ cy by omega) (Int.le_of_lt hp)
    generalize (1000000000 : Int) ^ 160 = z at *
    omega
theorem TimI.stop1 {f h : Int → Int} {by_ used cy L : Int} (hl : LmOK f used L) (ht : TimI f h by_ used cy) (hc : cy < 1000000000) (hu : used < 160) : LmOK (up h used cy) (used + 1) (by_ * L) := by
  obtain ⟨l1, l2, l3⟩ := hl
  obtain ⟨h1, h2, h3, h4, h5⟩ := ht
  refine ⟨by omega, fun j => ?_, ?_⟩
  · by_cases hq : j = used
    · rw [hq, up_s]; omega
    · rw [up_n _ _ hq]; exact h3 j
  · obtain ⟨k, rfl⟩ := Int.eq_ofNat_of_zero_le h1
    rw [show ((k : Int) + 1).toNat = k + 1 by omega, ← l3]
    rw [Int.toNat_natCast] at h5 ⊢
    show le9 (up h (k : Int) cy) k + up h (k : Int) cy (k : Int) * _ = _
    rw [up_s, le9_congr (f := up h (k : Int) cy) (g := h) (fun j _ hj => up_n h _ (by omega)), h5]
/-- the reference's state, its limbs holding L -/
def MWL (D : va_G) (cB cL : ClassId) (mo rs ex xd li bo cu cd : Nat) (code bits least : Int) (rt bt : List Int) (V C L : Int) (U : State) (H : Heap) : Prop :=
  ∃ (len used bl : Int) (fr fb lm fe : Int → Int) (ne pe : Int) (fc : Int → Int) (nc pp : Int), Wl D vwCl (tysM cB cL) (AM mo rs ex xd li bo cu cd) [(mo, .inr (3, [.ref rs, .int (iz len), .int (iz code), .ref ex, .int (iz bits), .int (iz least), .ref li, .int (iz used), .ref bo, .int (iz bl), .ref cu])), (rs, .inl (cB, 4096, .inl (az fr))), (ex, .inr (4, [.ref xd, .int (iz ne), .int (iz pe)])), (xd, .inl (cB, 1300, .inl (az fe))), (li, .inl (cL, 160, .inr (.inl (azl lm)))), (bo, .inl (cB, 4096, .inl (az fb))), (cu, .inr (4, [.ref cd, .int (iz nc), .int (iz pp)])), (cd, .inl (cB, 1300, .inl (az fc)))] U H ∧ TxM fr len rt ∧ TxM fb bl bt ∧ RowOK fe ne pe V ∧ (-1400 ≤ pe ∧ pe ≤ 1400) ∧ RowOK fc nc pp C ∧ LmOK lm used L
theorem MWL.moved {D : va_G} {cB cL : ClassId} {mo rs ex xd li bo cu cd : Nat} {code bits least : Int} {rt bt : List Int} {V C L : Int} {u U : State} {H : Heap} (hv : u.vm.Alike U.vm) (h : MWL D cB cL mo rs ex xd li bo cu cd code bits least rt bt V C L u H) : MWL D cB cL mo rs ex xd li bo cu cd code bits least rt bt V C L U H := by
  obtain ⟨len, used, bl, fr, fb, lm, fe, ne, pe, fc, nc, pp, h1, h2⟩ := h
  exact ⟨len, used, bl, fr, fb, lm, fe, ne, pe, fc, nc, pp, Wl.moved hv h1, h2⟩
theorem zSa_MWL {D : va_G} {cB cL : ClassId} {mo rs ex xd li bo cu cd : Nat} {code bits least : Int} {rt bt : List Int} {V C L : Int} : zSa (MWL D cB cL mo rs ex xd li bo cu cd code bits least rt bt V C L) := fun _ _ _ hv h => MWL.moved hv h
theorem zSt_MWL {D : va_G} {cB cL : ClassId} {mo rs ex xd li bo cu cd : Nat} {code bits least : Int} {rt bt : List Int} {V C L : Int} : zSt (MWL D cB cL mo rs ex xd li bo cu cd code bits least rt bt V C L) := zSt_of zSa_MWL
theorem MWL.recv {D : va_G} {cB cL : ClassId} {mo rs ex xd li bo cu cd : Nat} {code bits least : Int} {rt bt : List Int} {V C L : Int} {U : State} {H : Heap} (h : MWL D cB cL mo rs ex xd li bo cu cd code bits least rt bt V C L U H) : ∃ cell : Cell, H[mo]? = some cell ∧ cell.vm.isStatics = false ∧ U.vm.findClass "ExactNotationModel" = some cell.cls := by
  obtain ⟨len, used, bl, fr, fb, lm, fe, ne, pe, fc, nc, pp, ⟨hK, hP, hD⟩, -⟩ := h
  exact va_recv hK hP (ci := 3) (q0 := 0) rfl rfl
/-! the limbs of a whole number -/
def WhoI (h : Int → Int) (u x cf : Int) : Prop := 0 ≤ x ∧ ((u = 0 ∧ x < 1000000000000000000) ∨ (u = 1 ∧ x < 1000000000) ∨ (u = 2 ∧ x = 0)) ∧ (∀ j, 0 ≤ h j ∧ h j < 1000000000) ∧ le9 h u.toNat + x * 1000000000 ^ u.toNat = cf
theorem WhoI.step {h : Int → Int} {u x cf : Int} (hw : WhoI h u x cf) (hx : 0 < x) : WhoI (up h u (x % 1000000000)) (u + 1) (x / 1000000000) cf := by
  obtain ⟨h1, h2, h3, h4⟩ := hw
  refine ⟨by omega, by omega, fun j => ?_, ?_⟩
  · by_cases hq : j = u
    · rw [hq, up_s]; omega
    · rw [up_n _ _ hq]; exact h3 j
  · obtain ⟨k, rfl⟩ := Int.eq_ofNat_of_zero_le (show 0 ≤ u by omega)
    rw [show ((k : Int) + 1).toNat = k + 1 by omega, ← h4]
    rw [Int.toNat_natCast]
    show le9 (up h (k : Int) _) k + up h (k : Int) _ (k : Int) * _ + _ = _
    rw [up_s, le9_congr (f := up h (k : Int) _) (g := h) (fun j _ hj => up_n h _ (by omega)), Int.pow_succ]
    have e := Int.emod_add_mul_ediv x 1000000000
    generalize x / 1000000000 = q at *
    generalize x % 1000000000 = r at *
    generalize (1000000000 : Int) ^ k = z at *
    generalize le9 h k = a at *
    grind
theorem WhoI.stop {h : Int → Int} {u cf : Int} (hw : WhoI h u 0 cf) : LmOK h u cf := by
  obtain ⟨h1, h2, h3, h4⟩ := hw
  refine ⟨by omega, h3, ?_⟩
  rw [← h4]
  omega
/-! the digits of the limbs, the highest first -/
theorem le9_split {f : Int → Int} (hf : ∀ j, 0 ≤ f j ∧ f j < 1000000000) {k : Nat} : ∀ (i : Nat), ∃ r, le9 f (k + 1 + i) = le9 f k + (f (k : Int) + 1000000000 * r) * 1000000000 ^ k ∧ 0 ≤ r
  | 0 => ⟨0, by show le9 f k + f (k : Int) * _ = _; rw [Int.mul_zero, Int.add_zero], Int.le_refl 0⟩
  | i + 1 => by
    obtain ⟨r, h1, h2⟩ := le9_split hf (k := k) i
    have h3 := (hf ((k + 1 + i : Nat) : Int)).1
    refine ⟨r + f ((k + 1 + i : Nat) : Int) * 1000000000 ^ i, ?_, ?_⟩
    · show le9 f (k + 1 + i) + f ((k + 1 + i : Nat) : Int) * 1000000000 ^ (k + 1 + i) = _
      rw [h1, Int.pow_add, Int.pow_succ]
      generalize (1000000000 : Int) ^ k = a
      generalize (1000000000 : Int) ^ i = b
      generalize f ((k + 1 + i : Nat) : Int) = y
      generalize f (k : Int) = x
      grind
    · have := Int.mul_nonneg h3 (Int.le_of_lt (show (0 : Int) < 1000000000 ^ i from Int.pow_pos (by decide)))
      omega
theorem le9_digit {f : Int → Int} {used L : Int} (hl : LmOK f used L) {k w : Nat} (hk : (k : Int) < used) (hw : w < 9) : L / (1000000000 ^ k * 10 ^ w) % 10 = f (k : Int) / 10 ^ w % 10 := by
  obtain ⟨l1, l2, l3⟩ := hl
  obtain ⟨m, hm⟩ : ∃ m : Nat, used = (k : Int) + 1 + (m : Int) := ⟨(used - k - 1).toNat, by omega⟩
  rw [hm, show ((k : Int) + 1 + (m : Int)).toNat = k + 1 + m by omega] at l3
  obtain ⟨r, e1, e2⟩ := le9_split l2 (k := k) m
  have h5 := le9_nn l2 k
  have hp : (0 : Int) < 1000000000 ^ k := Int.pow_pos (by decide)
  rw [← l3, e1, ← Int.ediv_ediv_of_nonneg (Int.le_of_lt hp), Int.add_mul_ediv_right _ _ (by omega), Int.ediv_eq_zero_of_lt h5.1 h5.2, Int.zero_add]
  have hw' : w = 0 ∨ w = 1 ∨ w = 2 ∨ w = 3 ∨ w = 4 ∨ w = 5 ∨ w = 6 ∨ w = 7 ∨ w = 8 := by omega
  generalize f (k : Int) = b
  rcases hw' with h | h | h | h | h | h | h | h | h <;> subst h <;> omega
def DigI (h : Int → Int) (n Q : Int) : Prop := 0 ≤ n ∧ (∀ j, 0 ≤ j → j < n → 0 ≤ h j ∧ h j ≤ 9) ∧ (0 < n → 1 ≤ h 0) ∧ dv h n.toNat = Q
theorem DigI.len {h : Int → Int} {n Q : Int} {b : Nat} (hd : DigI h n Q) (hQ : Q < 10 ^ b) : n ≤ (b : Int) := by
  obtain ⟨h1, h2, h3, h4⟩ := hd
  by_cases hn : n ≤ (b : Int)
  · exact hn
  · exfalso
    obtain ⟨k, hk⟩ : ∃ k : Nat, n = (k : Int) + 1 := ⟨(n - 1).toNat, by omega⟩
    subst hk
    have h5 := dv_ge (h3 (by omega)) (n := k) (fun j q1 q2 => h2 j q1 (by omega))
    rw [show ((k : Int) + 1).toNat = k + 1 by omega] at h4
    have h6 := pow10_le (a := b) (b := k) (by omega)
    omega
theorem DigI.z {h : Int → Int} {n Q : Int} (hd : DigI h n Q) (hn : n = 0) : Q = 0 := by
  rw [← hd.2.2.2, hn]
  rfl
theorem DigI.put {h : Int → Int} {n Q d : Int} (hd : DigI h n Q) (h9 : 0 ≤ d ∧ d ≤ 9) (h0 : n = 0 → d ≠ 0) : DigI (up h n d) (n + 1) (Q * 10 + d) := by
  obtain ⟨h1, h2, h3, h4⟩ := hd
  refine ⟨by omega, fun j q1 q2 => ?_, fun _ => ?_, ?_⟩
  · by_cases hq : j = n
    · rw [hq, up_s]; exact h9
    · rw [up_n _ _ hq]; exact h2 j q1 (by omega)
  · by_cases hq : (0 : Int) = n
    · rw [← hq, up_s]
      have := h0 hq.symm
      omega
    · rw [up_n _ _ hq]; exact h3 (by omega)
  · obtain ⟨k, rfl⟩ := Int.eq_ofNat_of_zero_le h1
    rw [show ((k : Int) + 1).toNat = k + 1 by omega]
    show dv (up h (k : Int) d) k * 10 + up h (k : Int) d (k : Int) = _
    rw [up_s, dv_congr (f := up h (k : Int) d) (g := h) (fun j _ hj => up_n h _ (by omega)), ← h4, Int.toNat_natCast]
def tenW (w : Nat) : Int := if w = 0 then 0 else 10 ^ (w - 1)
theorem tenW_r (w : Nat) (h : w ≤ 9) : 0 ≤ tenW w ∧ tenW w ≤ 100000000 ∧ (0 < tenW w ↔ 0 < w) := by
  have h1 : ∀ w : Nat, w < 10 → 0 ≤ tenW w ∧ tenW w ≤ 100000000 ∧ (0 < tenW w ↔ 0 < w) := by decide +kernel
  exact h1 w (by omega)
theorem tenW_d (w : Nat) (h : w ≤ 9) (h0 : 0 < w) : tenW w / 10 = tenW (w - 1) := by
  have h1 : ∀ w : Nat, w < 10 → 0 < w → tenW w / 10 = tenW (w - 1) := by decide +kernel
  exact h1 w (by omega) h0
theorem tenW_p (w : Nat) (h0 : 0 < w) : tenW w = 10 ^ (w - 1) := if_neg (by omega)
/-- the next digit of the quotient -/
theorem quo_step {f : Int → Int} {used L : Int} (hl : LmOK f used L) {k w : Nat} (hk : (k : Int) < used) (hw : w ≤ 9) (h0 : 0 < w) : L / (1000000000 ^ k * 10 ^ (w - 1)) = L / (1000000000 ^ k * 10 ^ w) * 10 + f (k : Int) / tenW w % 10 := by
  rw [tenW_p w h0, ← le9_digit hl hk (show w - 1 < 9 by omega)]
  have e : (1000000000 : Int) ^ k * 10 ^ w = 1000000000 ^ k * 10 ^ (w - 1) * 10 := by
    rw [Int.mul_assoc, ← Int.pow_succ, show (w - 1).succ = w by omega]
  have hp : (0 : Int) < 1000000000 ^ k * 10 ^ (w - 1) := Int.mul_pos (Int.pow_pos (by decide)) (pow_pos10 _)
  rw [e, ← Int.ediv_ediv_of_nonneg (Int.le_of_lt hp)]
  omega
theorem quo_next (L : Int) (k : Nat) : L / (1000000000 ^ (k + 1)) = L / (1000000000 ^ k * 10 ^ 9) := by
  rw [Int.pow_succ]
  rfl
theorem LmOK.quo {f : Int → Int} {used L : Int} (hl : LmOK f used L) : L / 1000000000 ^ used.toNat = 0 := by
  have h := le9_nn hl.2.1 used.toNat
  rw [hl.2.2] at h
  exact Int.ediv_eq_zero_of_lt h.1 h.2
theorem LmOK.nn {f : Int → Int} {used L : Int} (hl : LmOK f used L) : 0 ≤ L := by
  have h := le9_nn hl.2.1 used.toNat
  rw [hl.2.2] at h
  exact h.1
theorem quo_le {L : Int} (h : 0 ≤ L) (a : Int) (ha : 0 < a) : L / a ≤ L := Int.ediv_le_self _ h
theorem RowOK.strip {h : Int → Int} {n p V : Int} (hr : RowOK h n p V) (hn : 0 < n) (hz : h (n - 1) = 0) : RowOK h (n - 1) p V := by
  obtain ⟨r1, r2, r3, r4⟩ := hr
  obtain ⟨k, hk⟩ : ∃ k : Nat, n = (k : Int) + 1 := ⟨(n - 1).toNat, by omega⟩
  subst hk
  have e : (k : Int) + 1 - 1 = (k : Int) := by omega
  rw [e] at hz ⊢
  refine ⟨by omega, fun j q1 q2 => r2 j q1 (by omega), fun q => ⟨(r3 hn).1, by have := (r3 hn).2; omega⟩, ?_⟩
  have h5 := (r3 hn).2
  rw [r4, show ((k : Int) + 1).toNat = k + 1 by omega, Int.toNat_natCast, show (p - (k : Int) + 1080).toNat = (p - ((k : Int) + 1) + 1080).toNat + 1 by omega, Int.pow_succ]
  show (dv h k * 10 + h (k : Int)) * _ = _
  rw [hz, Int.add_zero]
  generalize (10 : Int) ^ (p - ((k : Int) + 1) + 1080).toNat = z
  grind
theorem DigI.row {h : Int → Int} {n L V z : Int} (hd : DigI h n L) (hn : n ≤ 1200) (hz : -1080 ≤ z ∧ z ≤ 0) (hV : V = L * 10 ^ (z + 1080).toNat) : RowOK h n (n + z) V := by
  obtain ⟨h1, h2, h3, h4⟩ := hd
  refine ⟨by omega, h2, fun q => ⟨h3 q, by omega⟩, ?_⟩
  rw [hV, h4, show n + z - n + 1080 = z + 1080 by omega]
theorem row_2 {k : Int} (cf : Int) (h : 0 ≤ k) : 536870912 * (cf * 2 ^ k.toNat) = cf * 2 ^ (k + 29).toNat := by
  rw [show (k + 29).toNat = k.toNat + 29 by omega, Int.pow_add, show (2 : Int) ^ 29 = 536870912 by decide]
  generalize (2 : Int) ^ k.toNat = z
  grind
theorem row_2b {k q : Int} (cf : Int) (h : 0 ≤ k) (hq : q = k + q % 29) : 2 ^ (q % 29).toNat * (cf * 2 ^ k.toNat) = cf * 2 ^ q.toNat := by
  rw [show q.toNat = k.toNat + (q % 29).toNat by omega, Int.pow_add]
  generalize (2 : Int) ^ k.toNat = z
  generalize (2 : Int) ^ (q % 29).toNat = y
  grind
theorem row_5 {k : Int} (X : Int) (h : 0 ≤ k) : 244140625 * (X * 5 ^ k.toNat) = X * 5 ^ (k + 12).toNat := by
  rw [show (k + 12).toNat = k.toNat + 12 by omega, Int.pow_add, show (5 : Int) ^ 12 = 244140625 by decide]
  generalize (5 : Int) ^ k.toNat = z
  grind
theorem row_1 {k : Int} (X : Int) (j : Nat) (h : 0 ≤ k) : 5 * (X * 5 ^ (j + k.toNat)) = X * 5 ^ (j + (k + 1).toNat) := by
  rw [show j + (k + 1).toNat = j + k.toNat + 1 by omega, Int.pow_succ]
  generalize (5 : Int) ^ (j + k.toNat) = z
  grind
theorem powB_800 : (10 : Int) ^ 800 ≤ 1000000000 ^ 160 := by
  rw [powB]
  exact pow10_le (by decide)
theorem row_lt {X Y Z W : Int} (hZ : Z < 10 ^ 800) (h : Y ≤ Z) (e : W * X = Y) : W * X < 1000000000 ^ 160 := by
  have := powB_800
  rw [e]
  generalize (10 : Int) ^ 800 = a at *
  generalize (1000000000 : Int) ^ 160 = b at *
  omega
theorem mono_pow {a b : Nat} {c : Int} (hc : 1 ≤ c) (h : a ≤ b) : c ^ a ≤ c ^ b := by
  have e : b = a + (b - a) := by omega
  have h1 : ∀ n : Nat, 1 ≤ c ^ n := by
    intro n
    induction n with
    | zero => rw [Int.pow_zero]; omega
    | succ n ih =>
      rw [Int.pow_succ]
      calc (1 : Int) = 1 * 1 := rfl
        _ ≤ c ^ n * c := Int.mul_le_mul ih hc (by decide) (by omega)
  rw [e, Int.pow_add]
  calc c ^ a = c ^ a * 1 := (Int.mul_one _).symm
    _ ≤ c ^ a * c ^ (b - a) := Int.mul_le_mul_of_nonneg_left (h1 _) (by have := h1 a; omega)
theorem le_fac {x y z : Int} (hx : 0 ≤ x) (h : y ≤ z) : x * y ≤ x * z := Int.mul_le_mul_of_nonneg_left h hx
theorem row_le2 {cf k q : Int} (hc : 0 ≤ cf) (hk : k + 29 ≤ q) (h0 : 0 ≤ k) : cf * 2 ^ (k + 29).toNat ≤ cf * 2 ^ q.toNat * 5 ^ (-q).toNat := by
  rw [show (-q).toNat = 0 by omega, Int.pow_zero, Int.mul_one]
  exact le_fac hc (mono_pow (by decide) (by omega))
theorem row_le2b {cf q : Int} (hc : 0 ≤ cf) (hq : 0 < q) : cf * 2 ^ q.toNat ≤ cf * 2 ^ q.toNat * 5 ^ (-q).toNat := by
  rw [show (-q).toNat = 0 by omega, Int.pow_zero, Int.mul_one]
  exact Int.le_refl _
theorem row_le5 {cf k q : Int} (hc : 0 ≤ cf) (hk : k + 12 ≤ -q) (h0 : 0 ≤ k) : cf * 2 ^ q.toNat * 5 ^ (k + 12).toNat ≤ cf * 2 ^ q.toNat * 5 ^ (-q).toNat :=
  le_fac (Int.mul_nonneg hc (Int.le_of_lt (pow2_pos _))) (mono_pow (by decide) (by omega))
theorem row_le1 {cf k q : Int} (hc : 0 ≤ cf) (hq : q < 0) (hk : k < (-q) % 12 ∧ 0 ≤ k) : cf * 2 ^ q.toNat * 5 ^ ((-q).toNat - (-q).toNat % 12 + (k + 1).toNat) ≤ cf * 2 ^ q.toNat * 5 ^ (-q).toNat :=
  le_fac (Int.mul_nonneg hc (Int.le_of_lt (pow2_pos _))) (mono_pow (by decide) (by omega))
end
section
theorem d_Mo_times_0 : decode b_Mo_times 0 = .ok (.lconst 0, 1) := by decide +kernel
theorem d_Mo_times_1 : decode b_Mo_times 1 = .ok (.lstore_n 3, 1) := by decide +kernel
theorem d_Mo_times_2 : decode b_Mo_times 2 = .ok (.iconst 0, 1) := by decide +kernel
theorem d_Mo_times_3 : decode b_Mo_times 3 = .ok (.istore 5, 2) := by decide +kernel
theorem d_Mo_times_5 : decode b_Mo_times 5 = .ok (.iload 5, 2) := by decide +kernel
theorem d_Mo_times_7 : decode b_Mo_times 7 = .ok (.aload_n 0, 1) := by decide +kernel
theorem d_Mo_times_8 : decode b_Mo_times 8 = .ok (.getfield 64, 3) := by decide +kernel
theorem d_Mo_times_11 : decode b_Mo_times 11 = .ok (.if_icmp .ge (39), 3) := by decide +kernel
theorem d_Mo_times_14 : decode b_Mo_times 14 = .ok (.lload_n 3, 1) := by decide +kernel
theorem d_Mo_times_15 : decode b_Mo_times 15 = .ok (.aload_n 0, 1) := by decide +kernel
theorem d_Mo_times_16 : decode b_Mo_times 16 = .ok (.getfield 20, 3) := by decide +kernel
theorem d_Mo_times_19 : decode b_Mo_times 19 = .ok (.iload 5, 2) := by decide +kernel
theorem d_Mo_times_21 : decode b_Mo_times 21 = .ok (.laload, 1) := by decide +kernel
theorem d_Mo_times_22 : decode b_Mo_times 22 = .ok (.lload_n 1, 1) := by decide +kernel
theorem d_Mo_times_23 : decode b_Mo_times 23 = .ok (.lmul, 1) := by decide +kernel
theorem d_Mo_times_24 : decode b_Mo_times 24 = .ok (.ladd, 1) := by decide +kernel
theorem d_Mo_times_25 : decode b_Mo_times 25 = .ok (.lstore_n 3, 1) := by decide +kernel
theorem d_Mo_times_26 : decode b_Mo_times 26 = .ok (.aload_n 0, 1) := by decide +kernel
theorem d_Mo_times_27 : decode b_Mo_times 27 = .ok (.getfield 20, 3) := by decide +kernel
theorem d_Mo_times_30 : decode b_Mo_times 30 = .ok (.iload 5, 2) := by decide +kernel
theorem d_Mo_times_32 : decode b_Mo_times 32 = .ok (.lload_n 3, 1) := by decide +kernel
theorem d_Mo_times_33 : decode b_Mo_times 33 = .ok (.ldc2_w 67, 3) := by decide +kernel
theorem d_Mo_times_36 : decode b_Mo_times 36 = .ok (.lrem, 1) := by decide +kernel
theorem d_Mo_times_37 : decode b_Mo_times 37 = .ok (.lastore, 1) := by decide +kernel
theorem d_Mo_times_38 : decode b_Mo_times 38 = .ok (.lload_n 3, 1) := by decide +kernel
theorem d_Mo_times_39 : decode b_Mo_times 39 = .ok (.ldc2_w 67, 3) := by decide +kernel
theorem d_Mo_times_42 : decode b_Mo_times 42 = .ok (.ldiv, 1) := by decide +kernel
theorem d_Mo_times_43 : decode b_Mo_times 43 = .ok (.lstore_n 3, 1) := by decide +kernel
theorem d_Mo_times_44 : decode b_Mo_times 44 = .ok (.iinc 5 (1), 3) := by decide +kernel
theorem d_Mo_times_47 : decode b_Mo_times 47 = .ok (.goto (-42), 3) := by decide +kernel
theorem d_Mo_times_50 : decode b_Mo_times 50 = .ok (.lload_n 3, 1) := by decide +kernel
theorem d_Mo_times_51 : decode b_Mo_times 51 = .ok (.lconst 0, 1) := by decide +kernel
theorem d_Mo_times_52 : decode b_Mo_times 52 = .ok (.lcmp, 1) := by decide +kernel
theorem d_Mo_times_53 : decode b_Mo_times 53 = .ok (.ifCond .le (23), 3) := by decide +kernel
theorem d_Mo_times_56 : decode b_Mo_times 56 = .ok (.aload_n 0, 1) := by decide +kernel
theorem d_Mo_times_57 : decode b_Mo_times 57 = .ok (.getfield 20, 3) := by decide +kernel
theorem d_Mo_times_60 : decode b_Mo_times 60 = .ok (.aload_n 0, 1) := by decide +kernel
theorem d_Mo_times_61 : decode b_Mo_times 61 = .ok (.getfield 64, 3) := by decide +kernel
theorem d_Mo_times_64 : decode b_Mo_times 64 = .ok (.lload_n 3, 1) := by decide +kernel
theorem d_Mo_times_65 : decode b_Mo_times 65 = .ok (.lastore, 1) := by decide +kernel
theorem d_Mo_times_66 : decode b_Mo_times 66 = .ok (.aload_n 0, 1) := by decide +kernel
theorem d_Mo_times_67 : decode b_Mo_times 67 = .ok (.dup, 1) := by decide +kernel
theorem d_Mo_times_68 : decode b_Mo_times 68 = .ok (.getfield 64, 3) := by decide +kernel
theorem d_Mo_times_71 : decode b_Mo_times 71 = .ok (.iconst 1, 1) := by decide +kernel
theorem d_Mo_times_72 : decode b_Mo_times 72 = .ok (.iadd, 1) := by decide +kernel
theorem d_Mo_times_73 : decode b_Mo_times 73 = .ok (.putfield 64, 3) := by decide +kernel
theorem d_Mo_times_76 : decode b_Mo_times 76 = .ok (.return_, 1) := by decide +kernel
set_option maxHeartbeats 4000000 in
set_option maxRecDepth 100000 in
theorem c_Mo_times (l : Launch) (D : va_G) (cB cL : ClassId) (mo rs ex xd li bo cu cd : Nat) (co bi le : Int) (rt bt : List Int) (V C : Int) (L bb : Int) (hbb : 0 < bb ∧ bb ≤ 536870912) (hLb : bb * L < 1000000000 ^ 160) : Ct l y_Mo_times (ws_Mo_times) 0 (AM mo rs ex xd li bo cu cd) [.ref mo, .long (lz bb)] (MWL D cB cL mo rs ex xd li bo cu cd co bi le rt bt V C L) (zR none (MWL D cB cL mo rs ex xd li bo cu cd co bi le rt bt V C (bb * L))) := by
  refine z_body zSt_MWL (by decide +kernel) rfl (Nat.le_of_ble_eq_true rfl) ?_
  intro p e s m args below meth c ls hx hb hml hr hlk hts0 hown hpre0 H locs hpre hS hl
  have hts : ∀ w ∈ TBL, w.before args s = true := fun w hw => hts0 w (List.mem_cons_of_mem _ hw)
  have hl : lv_has ls 6 [(0, .ref mo), (1, .long (lz bb))] := hl
  have hw := hpre
  have hw9 := hw
  obtain ⟨len, used, bl, fr, fb, lm, fe, ne, pe, fc, nc, pp, ⟨hK, hP, hD⟩, hrt, hbt, hE, hpe, hC, hL⟩ := hw9
  have hL1 := hL.1
  have L5 : ∀ (N5 : Nat) (h : Int → Int) (i : Int) (cy : Int) (H : Heap) (locs : List Loc) (ls : Array Slot), va_P D vwCl [(mo, .inr (3, [.ref rs, .int (iz len), .int (iz co), .ref ex, .int (iz bi), .int (iz le), .ref li, .int (iz used), .ref bo, .int (iz bl), .ref cu])), (rs, .inl (cB, 4096, .inl (az fr))), (ex, .inr (4, [.ref xd, .int (iz ne), .int (iz pe)])), (xd, .inl (cB, 1300, .inl (az fe))), (li, .inl (cL, 160, .inr (.inl (azl h)))), (bo, .inl (cB, 4096, .inl (az fb))), (cu, .inr (4, [.ref cd, .int (iz nc), .int (iz pp)])), (cd, .inl (cB, 1300, .inl (az fc)))] H → va_D (AM mo rs ex xd li bo cu cd) [(mo, .inr (3, [.ref rs, .int (iz len), .int (iz co), .ref ex, .int (iz bi), .int (iz le), .ref li, .int (iz used), .ref bo, .int (iz bl), .ref cu])), (rs, .inl (cB, 4096, .inl (az fr))), (ex, .inr (4, [.ref xd, .int (iz ne), .int (iz pe)])), (xd, .inl (cB, 1300, .inl (az fe))), (li, .inl (cL, 160, .inr (.inl (azl h)))), (bo, .inl (cB, 4096, .inl (az fb))), (cu, .inr (4, [.ref cd, .int (iz nc), .int (iz pp)])), (cd, .inl (cB, 1300, .inl (az fc)))] → va_S (AM mo rs ex xd li bo cu cd) s.heap H locs → lv_has ls 6 [(0, .ref mo), (1, .long (lz bb)), (3, .long (lz cy)), (5, .int (iz i))] → (TimI lm h bb i cy) → (i ≤ used) → (used - i).toNat < N5 → W p l e (zrm 0) s m args below meth c H locs 0 0 (MQ below (zQ (AM mo rs ex xd li bo cu cd) (zR none (MWL D cB cL mo rs ex xd li bo cu cd co bi le rt bt V C (bb * L)))) args s 0 0 (AM mo rs ex xd li bo cu cd)) (F0 m 5 ls []) := by
    intro N5
    induction N5 with
    | zero => intro h i cy H locs ls hP hD hS hl hT hiu hN5; exact absurd hN5 (Nat.not_lt_zero _)
    | succ N5 ih5 =>
      intro h i cy H locs ls hP hD hS hl hT hiu hN5
      have hT1 := hT.1
      have hT2 := hT.2.1
      have hTb := hT.b hbb.2
      refine lv_iload hx hb d_Mo_times_5 (lv_at hl 3 rfl) ?_
      refine lv_aload_n hx hb d_Mo_times_7 rfl (lv_at hl 0 rfl) ?_
      refine va_get (D := D) (ci := 3) (v := .int (iz used)) (C := R_3) (T := T_3) (N := 11) hx hb hts in_3 hown hK hP 0 rfl rfl 7 (by decide) (hts _ tw_399) (fun _ h9 => h9) rfl d_Mo_times_8 ?_
      refine z_icmp_ge (tgt := 50) hx hb d_Mo_times_11 rfl ⟨by omega, by omega⟩ ⟨by omega, by omega⟩ (fun hc11 => ?_) (fun hc11 => ?_)
      · have e8 : i = used := by omega
        rw [e8] at hT
        refine lv_lload_n hx hb d_Mo_times_50 rfl (lv_at hl 2 rfl) ?_
        refine lv_lconst (v := lz 0) hx hb d_Mo_times_51 (by decide) ?_
        refine z_lif_le (tgt := 76) hx hb d_Mo_times_52 d_Mo_times_53 rfl ⟨by omega, by omega⟩ ⟨by omega, by omega⟩ (fun hc52 => ?_) (fun hc52 => ?_)
        · exact z_vret hx hb hr hlk hS (zR_st zSt_MWL) (by
              first
                | exact ⟨rfl, _, _, _, _, _, _, _, _, _, _, _, _, ⟨hK, hP, hD⟩, hrt, hbt, hE, hpe, hC, (by rw [show cy = 0 by omega] at hT; exact hT.stop0 hL)⟩
                | exact ⟨rfl, _, _, _, _, _, _, _, _, _, _, _, _, ⟨hK, hP, hD⟩, hrt, hbt, hE, hpe, hC, (hT.stop1 hL (by omega) hu8)⟩) d_Mo_times_76
        · have hu8 := TimI.lt hL hT (by omega) hLb
          refine lv_aload_n hx hb d_Mo_times_56 rfl (lv_at hl 0 rfl) ?_
          refine va_get (D := D) (ci := 3) (v := .ref li) (C := R_3) (T := T_3) (N := 11) hx hb hts in_3 hown hK hP 0 rfl rfl 6 (by decide) (hts _ tw_398) (fun _ h9 => h9) rfl d_Mo_times_57 ?_
          refine lv_aload_n hx hb d_Mo_times_60 rfl (lv_at hl 0 rfl) ?_
          refine va_get (D := D) (ci := 3) (v := .int (iz used)) (C := R_3) (T := T_3) (N := 11) hx hb hts in_3 hown hK hP 0 rfl rfl 7 (by decide) (hts _ tw_399) (fun _ h9 => h9) rfl d_Mo_times_61 ?_
          refine lv_lload_n hx hb d_Mo_times_64 rfl (lv_at hl 2 rfl) ?_
          refine z_last hx hb hK hP hD hS 4 1 rfl rfl (by omega) (by omega) (by decide) d_Mo_times_65 (fun H locs hP hD hS => ?_)
          have hP : va_P D vwCl [(mo, .inr (3, [.ref rs, .int (iz len), .int (iz co), .ref ex, .int (iz bi), .int (iz le), .ref li, .int (iz used), .ref bo, .int (iz bl), .ref cu])), (rs, .inl (cB, 4096, .inl (az fr))), (ex, .inr (4, [.ref xd, .int (iz ne), .int (iz pe)])), (xd, .inl (cB, 1300, .inl (az fe))), (li, .inl (cL, 160, .inr (.inl (azl (up h used cy))))), (bo, .inl (cB, 4096, .inl (az fb))), (cu, .inr (4, [.ref cd, .int (iz nc), .int (iz pp)])), (cd, .inl (cB, 1300, .inl (az fc)))] H := hP
          have hD : va_D (AM mo rs ex xd li bo cu cd) [(mo, .inr (3, [.ref rs, .int (iz len), .int (iz co), .ref ex, .int (iz bi), .int (iz le), .ref li, .int (iz used), .ref bo, .int (iz bl), .ref cu])), (rs, .inl (cB, 4096, .inl (az fr))), (ex, .inr (4, [.ref xd, .int (iz ne), .int (iz pe)])), (xd, .inl (cB, 1300, .inl (az fe))), (li, .inl (cL, 160, .inr (.inl (azl (up h used cy))))), (bo, .inl (cB, 4096, .inl (az fb))), (cu, .inr (4, [.ref cd, .int (iz nc), .int (iz pp)])), (cd, .inl (cB, 1300, .inl (az fc)))] := hD
          refine lv_aload_n hx hb d_Mo_times_66 rfl (lv_at hl 0 rfl) ?_
          refine lv_dup hx hb d_Mo_times_67 rfl ?_
          refine va_get (D := D) (ci := 3) (v := .int (iz used)) (C := R_3) (T := T_3) (N := 11) hx hb hts in_3 hown hK hP 0 rfl rfl 7 (by decide) (hts _ tw_399) (fun _ h9 => h9) rfl d_Mo_times_68 ?_
          refine lv_iconst (v := iz 1) hx hb d_Mo_times_71 rfl ?_
          refine z_iadd hx hb d_Mo_times_72 ?_
          refine va_put (D := D) (ci := 3) (v := .int (iz (used + 1))) (ty := .int) (C := R_3) (T := T_3) (N := 11) hx hb hts in_3 ty_3 tyok_3 nm_3 hown hK hP hD hS 0 rfl rfl 7 (by decide) (hts _ tw_399) (fun _ h9 => h9) rfl (by decide +kernel) rfl rfl (Nat.le_of_ble_eq_true rfl) d_Mo_times_73 (fun H locs hP hD hS => ?_)
          have hP : va_P D vwCl [(mo, .inr (3, [.ref rs, .int (iz len), .int (iz co), .ref ex, .int (iz bi), .int (iz le), .ref li, .int (iz (used + 1)), .ref bo, .int (iz bl), .ref cu])), (rs, .inl (cB, 4096, .inl (az fr))), (ex, .inr (4, [.ref xd, .int (iz ne), .int (iz pe)])), (xd, .inl (cB, 1300, .inl (az fe))), (li, .inl (cL, 160, .inr (.inl (azl (up h used cy))))), (bo, .inl (cB, 4096, .inl (az fb))), (cu, .inr (4, [.ref cd, .int (iz nc), .int (iz pp)])), (cd, .inl (cB, 1300, .inl (az fc)))] H := hP
          have hD : va_D (AM mo rs ex xd li bo cu cd) [(mo, .inr (3, [.ref rs, .int (iz len), .int (iz co), .ref ex, .int (iz bi), .int (iz le), .ref li, .int (iz (used + 1)), .ref bo, .int (iz bl), .ref cu])), (rs, .inl (cB, 4096, .inl (az fr))), (ex, .inr (4, [.ref xd, .int (iz ne), .int (iz pe)])), (xd, .inl (cB, 1300, .inl (az fe))), (li, .inl (cL, 160, .inr (.inl (azl (up h used cy))))), (bo, .inl (cB, 4096, .inl (az fb))), (cu, .inr (4, [.ref cd, .int (iz nc), .int (iz pp)])), (cd, .inl (cB, 1300, .inl (az fc)))] := hD
          exact z_vret hx hb hr hlk hS (zR_st zSt_MWL) (by
              first
                | exact ⟨rfl, _, _, _, _, _, _, _, _, _, _, _, _, ⟨hK, hP, hD⟩, hrt, hbt, hE, hpe, hC, (by rw [show cy = 0 by omega] at hT; exact hT.stop0 hL)⟩
                | exact ⟨rfl, _, _, _, _, _, _, _, _, _, _, _, _, ⟨hK, hP, hD⟩, hrt, hbt, hE, hpe, hC, (hT.stop1 hL (by omega) hu8)⟩) d_Mo_times_76
      · refine lv_lload_n hx hb d_Mo_times_14 rfl (lv_at hl 2 rfl) ?_
        refine lv_aload_n hx hb d_Mo_times_15 rfl (lv_at hl 0 rfl) ?_
        refine va_get (D := D) (ci := 3) (v := .ref li) (C := R_3) (T := T_3) (N := 11) hx hb hts in_3 hown hK hP 0 rfl rfl 6 (by decide) (hts _ tw_398) (fun _ h9 => h9) rfl d_Mo_times_16 ?_
        refine lv_iload hx hb d_Mo_times_19 (lv_at hl 3 rfl) ?_
        refine z_lald hx hb hK hP 4 1 rfl rfl (by omega) (by omega) (by decide) d_Mo_times_21 ?_
        refine lv_lload_n hx hb d_Mo_times_22 rfl (lv_at hl 1 rfl) ?_
        refine z_lmul hx hb d_Mo_times_23 ?_
        refine z_ladd hx hb d_Mo_times_24 ?_
        refine lv_lstore_n hx hb d_Mo_times_25 rfl hl (by decide) rfl (fun ls hl => ?_)
        have hl : lv_has ls 6 [(3, .long (lz (cy + ((h i) * bb)))), (0, .ref mo), (1, .long (lz bb)), (5, .int (iz i))] := hl
        refine lv_aload_n hx hb d_Mo_times_26 rfl (lv_at hl 1 rfl) ?_
        refine va_get (D := D) (ci := 3) (v := .ref li) (C := R_3) (T := T_3) (N := 11) hx hb hts in_3 hown hK hP 0 rfl rfl 6 (by decide) (hts _ tw_398) (fun _ h9 => h9) rfl d_Mo_times_27 ?_
        refine lv_iload hx hb d_Mo_times_30 (lv_at hl 3 rfl) ?_
        refine lv_lload_n hx hb d_Mo_times_32 rfl (lv_at hl 0 rfl) ?_
        refine lv_ldc2 (v := (1000000000 : Int64)) hx hb hown (hts _ tw_494) d_Mo_times_33 ?_
        refine z_topl (y := lz (1000000000)) (by decide) ?_
        refine z_lrem hx hb d_Mo_times_36 ⟨by omega, by omega⟩ ⟨by omega, by omega⟩ ?_
        refine z_last hx hb hK hP hD hS 4 1 rfl rfl (by omega) (by omega) (by decide) d_Mo_times_37 (fun H locs hP hD hS => ?_)
        have hP : va_P D vwCl [(mo, .inr (3, [.ref rs, .int (iz len), .int (iz co), .ref ex, .int (iz bi), .int (iz le), .ref li, .int (iz used), .ref bo, .int (iz bl), .ref cu])), (rs, .inl (cB, 4096, .inl (az fr))), (ex, .inr (4, [.ref xd, .int (iz ne), .int (iz pe)])), (xd, .inl (cB, 1300, .inl (az fe))), (li, .inl (cL, 160, .inr (.inl (azl (up h i ((cy + ((h i) * bb)) % 1000000000)))))), (bo, .inl (cB, 4096, .inl (az fb))), (cu, .inr (4, [.ref cd, .int (iz nc), .int (iz pp)])), (cd, .inl (cB, 1300, .inl (az fc)))] H := hP
        have hD : va_D (AM mo rs ex xd li bo cu cd) [(mo, .inr (3, [.ref rs, .int (iz len), .int (iz co), .ref ex, .int (iz bi), .int (iz le), .ref li, .int (iz used), .ref bo, .int (iz bl), .ref cu])), (rs, .inl (cB, 4096, .inl (az fr))), (ex, .inr (4, [.ref xd, .int (iz ne), .int (iz pe)])), (xd, .inl (cB, 1300, .inl (az fe))), (li, .inl (cL, 160, .inr (.inl (azl (up h i ((cy + ((h i) * bb)) % 1000000000)))))), (bo, .inl (cB, 4096, .inl (az fb))), (cu, .inr (4, [.ref cd, .int (iz nc), .int (iz pp)])), (cd, .inl (cB, 1300, .inl (az fc)))] := hD
        refine lv_lload_n hx hb d_Mo_times_38 rfl (lv_at hl 0 rfl) ?_
        refine lv_ldc2 (v := (1000000000 : Int64)) hx hb hown (hts _ tw_494) d_Mo_times_39 ?_
        refine z_topl (y := lz (1000000000)) (by decide) ?_
        refine z_ldiv hx hb d_Mo_times_42 ⟨by omega, by omega⟩ ⟨by omega, by omega⟩ ?_
        refine lv_lstore_n hx hb d_Mo_times_43 rfl hl (by decide) rfl (fun ls hl => ?_)
        have hl : lv_has ls 6 [(3, .long (lz ((cy + ((h i) * bb)) / 1000000000))), (0, .ref mo), (1, .long (lz bb)), (5, .int (iz i))] := hl
        refine lv_iinc (k := 3) (v := (iz (i + 1))) hx hb d_Mo_times_44 hl rfl (by show iz _ + iz (1) = _; rw [← iz_add]; try rfl) (by decide) rfl (fun ls hl => ?_)
        have hl : lv_has ls 6 [(5, .int (iz (i + 1))), (3, .long (lz ((cy + ((h i) * bb)) / 1000000000))), (0, .ref mo), (1, .long (lz bb))] := hl
        refine lv_goto (tgt := 5) hx hb d_Mo_times_47 rfl ?_
        exact ih5 (up h i ((cy + h i * bb) % 1000000000)) (i + 1) ((cy + h i * bb) / 1000000000) _ _ _ hP hD hS (lv_sub hl [2, 3, 1, 0] rfl) hT.step (by omega) (by omega)
  refine lv_lconst (v := lz 0) hx hb d_Mo_times_0 (by decide) ?_
  refine lv_lstore_n hx hb d_Mo_times_1 rfl hl (by decide) rfl (fun ls hl => ?_)
  have hl : lv_has ls 6 [(3, .long (lz 0)), (0, .ref mo), (1, .long (lz bb))] := hl
  refine lv_iconst (v := iz 0) hx hb d_Mo_times_2 rfl ?_
  refine lv_istore hx hb d_Mo_times_3 hl (by decide) rfl (fun ls hl => ?_)
  have hl : lv_has ls 6 [(5, .int (iz 0)), (3, .long (lz 0)), (0, .ref mo), (1, .long (lz bb))] := hl
  exact L5 _ lm 0 0 _ _ _ hP hD hS (lv_sub hl [2, 3, 1, 0] rfl) (TimI.start hL.2.1 hbb.1) hL1.1 (Nat.lt_succ_self _)
end
section
theorem d_Mo_row_0 : decode b_Mo_row 0 = .ok (.aload_n 0, 1) := by decide +kernel
theorem d_Mo_row_1 : decode b_Mo_row 1 = .ok (.iconst 0, 1) := by decide +kernel
theorem d_Mo_row_2 : decode b_Mo_row 2 = .ok (.putfield 64, 3) := by decide +kernel
theorem d_Mo_row_5 : decode b_Mo_row 5 = .ok (.lload_n 1, 1) := by decide +kernel
theorem d_Mo_row_6 : decode b_Mo_row 6 = .ok (.lstore 5, 2) := by decide +kernel
theorem d_Mo_row_8 : decode b_Mo_row 8 = .ok (.lload 5, 2) := by decide +kernel
theorem d_Mo_row_10 : decode b_Mo_row 10 = .ok (.lconst 0, 1) := by decide +kernel
theorem d_Mo_row_11 : decode b_Mo_row 11 = .ok (.lcmp, 1) := by decide +kernel
theorem d_Mo_row_12 : decode b_Mo_row 12 = .ok (.ifCond .le (39), 3) := by decide +kernel
theorem d_Mo_row_15 : decode b_Mo_row 15 = .ok (.aload_n 0, 1) := by decide +kernel
theorem d_Mo_row_16 : decode b_Mo_row 16 = .ok (.getfield 20, 3) := by decide +kernel
theorem d_Mo_row_19 : decode b_Mo_row 19 = .ok (.aload_n 0, 1) := by decide +kernel
theorem d_Mo_row_20 : decode b_Mo_row 20 = .ok (.getfield 64, 3) := by decide +kernel
theorem d_Mo_row_23 : decode b_Mo_row 23 = .ok (.lload 5, 2) := by decide +kernel
theorem d_Mo_row_25 : decode b_Mo_row 25 = .ok (.ldc2_w 67, 3) := by decide +kernel
theorem d_Mo_row_28 : decode b_Mo_row 28 = .ok (.lrem, 1) := by decide +kernel
theorem d_Mo_row_29 : decode b_Mo_row 29 = .ok (.lastore, 1) := by decide +kernel
theorem d_Mo_row_30 : decode b_Mo_row 30 = .ok (.aload_n 0, 1) := by decide +kernel
theorem d_Mo_row_31 : decode b_Mo_row 31 = .ok (.dup, 1) := by decide +kernel
theorem d_Mo_row_32 : decode b_Mo_row 32 = .ok (.getfield 64, 3) := by decide +kernel
theorem d_Mo_row_35 : decode b_Mo_row 35 = .ok (.iconst 1, 1) := by decide +kernel
theorem d_Mo_row_36 : decode b_Mo_row 36 = .ok (.iadd, 1) := by decide +kernel
theorem d_Mo_row_37 : decode b_Mo_row 37 = .ok (.putfield 64, 3) := by decide +kernel
theorem d_Mo_row_40 : decode b_Mo_row 40 = .ok (.lload 5, 2) := by decide +kernel
theorem d_Mo_row_42 : decode b_Mo_row 42 = .ok (.ldc2_w 67, 3) := by decide +kernel
theorem d_Mo_row_45 : decode b_Mo_row 45 = .ok (.ldiv, 1) := by decide +kernel
theorem d_Mo_row_46 : decode b_Mo_row 46 = .ok (.lstore 5, 2) := by decide +kernel
theorem d_Mo_row_48 : decode b_Mo_row 48 = .ok (.goto (-40), 3) := by decide +kernel
theorem d_Mo_row_51 : decode b_Mo_row 51 = .ok (.iconst 0, 1) := by decide +kernel
theorem d_Mo_row_52 : decode b_Mo_row 52 = .ok (.istore 5, 2) := by decide +kernel
theorem d_Mo_row_54 : decode b_Mo_row 54 = .ok (.iload 5, 2) := by decide +kernel
theorem d_Mo_row_56 : decode b_Mo_row 56 = .ok (.bipush (29), 2) := by decide +kernel
theorem d_Mo_row_58 : decode b_Mo_row 58 = .ok (.iadd, 1) := by decide +kernel
theorem d_Mo_row_59 : decode b_Mo_row 59 = .ok (.iload_n 3, 1) := by decide +kernel
theorem d_Mo_row_60 : decode b_Mo_row 60 = .ok (.if_icmp .gt (16), 3) := by decide +kernel
theorem d_Mo_row_63 : decode b_Mo_row 63 = .ok (.aload_n 0, 1) := by decide +kernel
theorem d_Mo_row_64 : decode b_Mo_row 64 = .ok (.ldc2_w 69, 3) := by decide +kernel
theorem d_Mo_row_67 : decode b_Mo_row 67 = .ok (.invokevirtual 71, 3) := by decide +kernel
theorem d_Mo_row_70 : decode b_Mo_row 70 = .ok (.iinc 5 (29), 3) := by decide +kernel
theorem d_Mo_row_73 : decode b_Mo_row 73 = .ok (.goto (-19), 3) := by decide +kernel
theorem d_Mo_row_76 : decode b_Mo_row 76 = .ok (.iload_n 3, 1) := by decide +kernel
theorem d_Mo_row_77 : decode b_Mo_row 77 = .ok (.ifCond .le (13), 3) := by decide +kernel
theorem d_Mo_row_80 : decode b_Mo_row 80 = .ok (.aload_n 0, 1) := by decide +kernel
theorem d_Mo_row_81 : decode b_Mo_row 81 = .ok (.lconst 1, 1) := by decide +kernel
theorem d_Mo_row_82 : decode b_Mo_row 82 = .ok (.iload_n 3, 1) := by decide +kernel
theorem d_Mo_row_83 : decode b_Mo_row 83 = .ok (.bipush (29), 2) := by decide +kernel
theorem d_Mo_row_85 : decode b_Mo_row 85 = .ok (.irem, 1) := by decide +kernel
theorem d_Mo_row_86 : decode b_Mo_row 86 = .ok (.lshl, 1) := by decide +kernel
theorem d_Mo_row_87 : decode b_Mo_row 87 = .ok (.invokevirtual 71, 3) := by decide +kernel
theorem d_Mo_row_90 : decode b_Mo_row 90 = .ok (.iconst 0, 1) := by decide +kernel
theorem d_Mo_row_91 : decode b_Mo_row 91 = .ok (.istore 5, 2) := by decide +kernel
theorem d_Mo_row_93 : decode b_Mo_row 93 = .ok (.iload 5, 2) := by decide +kernel
theorem d_Mo_row_95 : decode b_Mo_row 95 = .ok (.bipush (12), 2) := by decide +kernel
theorem d_Mo_row_97 : decode b_Mo_row 97 = .ok (.iadd, 1) := by decide +kernel
theorem d_Mo_row_98 : decode b_Mo_row 98 = .ok (.iload_n 3, 1) := by decide +kernel
theorem d_Mo_row_99 : decode b_Mo_row 99 = .ok (.ineg, 1) := by decide +kernel
theorem d_Mo_row_100 : decode b_Mo_row 100 = .ok (.if_icmp .gt (16), 3) := by decide +kernel
theorem d_Mo_row_103 : decode b_Mo_row 103 = .ok (.aload_n 0, 1) := by decide +kernel
theorem d_Mo_row_104 : decode b_Mo_row 104 = .ok (.ldc2_w 75, 3) := by decide +kernel
theorem d_Mo_row_107 : decode b_Mo_row 107 = .ok (.invokevirtual 71, 3) := by decide +kernel
theorem d_Mo_row_110 : decode b_Mo_row 110 = .ok (.iinc 5 (12), 3) := by decide +kernel
theorem d_Mo_row_113 : decode b_Mo_row 113 = .ok (.goto (-20), 3) := by decide +kernel
theorem d_Mo_row_116 : decode b_Mo_row 116 = .ok (.iconst 0, 1) := by decide +kernel
theorem d_Mo_row_117 : decode b_Mo_row 117 = .ok (.istore 5, 2) := by decide +kernel
theorem d_Mo_row_119 : decode b_Mo_row 119 = .ok (.iload 5, 2) := by decide +kernel
theorem d_Mo_row_121 : decode b_Mo_row 121 = .ok (.iload_n 3, 1) := by decide +kernel
theorem d_Mo_row_122 : decode b_Mo_row 122 = .ok (.ifCond .ge (11), 3) := by decide +kernel
theorem d_Mo_row_125 : decode b_Mo_row 125 = .ok (.iload_n 3, 1) := by decide +kernel
theorem d_Mo_row_126 : decode b_Mo_row 126 = .ok (.ineg, 1) := by decide +kernel
theorem d_Mo_row_127 : decode b_Mo_row 127 = .ok (.bipush (12), 2) := by decide +kernel
theorem d_Mo_row_129 : decode b_Mo_row 129 = .ok (.irem, 1) := by decide +kernel
theorem d_Mo_row_130 : decode b_Mo_row 130 = .ok (.goto (4), 3) := by decide +kernel
theorem d_Mo_row_133 : decode b_Mo_row 133 = .ok (.iconst 0, 1) := by decide +kernel
theorem d_Mo_row_134 : decode b_Mo_row 134 = .ok (.if_icmp .ge (16), 3) := by decide +kernel
theorem d_Mo_row_137 : decode b_Mo_row 137 = .ok (.aload_n 0, 1) := by decide +kernel
theorem d_Mo_row_138 : decode b_Mo_row 138 = .ok (.ldc2_w 77, 3) := by decide +kernel
theorem d_Mo_row_141 : decode b_Mo_row 141 = .ok (.invokevirtual 71, 3) := by decide +kernel
theorem d_Mo_row_144 : decode b_Mo_row 144 = .ok (.iinc 5 (1), 3) := by decide +kernel
theorem d_Mo_row_147 : decode b_Mo_row 147 = .ok (.goto (-28), 3) := by decide +kernel
theorem d_Mo_row_150 : decode b_Mo_row 150 = .ok (.aload 4, 2) := by decide +kernel
theorem d_Mo_row_152 : decode b_Mo_row 152 = .ok (.iconst 0, 1) := by decide +kernel
theorem d_Mo_row_153 : decode b_Mo_row 153 = .ok (.putfield 79, 3) := by decide +kernel
theorem d_Mo_row_156 : decode b_Mo_row 156 = .ok (.aload_n 0, 1) := by decide +kernel
theorem d_Mo_row_157 : decode b_Mo_row 157 = .ok (.getfield 64, 3) := by decide +kernel
theorem d_Mo_row_160 : decode b_Mo_row 160 = .ok (.iconst 1, 1) := by decide +kernel
theorem d_Mo_row_161 : decode b_Mo_row 161 = .ok (.isub, 1) := by decide +kernel
theorem d_Mo_row_162 : decode b_Mo_row 162 = .ok (.istore 5, 2) := by decide +kernel
theorem d_Mo_row_164 : decode b_Mo_row 164 = .ok (.iload 5, 2) := by decide +kernel
theorem d_Mo_row_166 : decode b_Mo_row 166 = .ok (.ifCond .lt (90), 3) := by decide +kernel
theorem d_Mo_row_169 : decode b_Mo_row 169 = .ok (.ldc2_w 82, 3) := by decide +kernel
theorem d_Mo_row_172 : decode b_Mo_row 172 = .ok (.lstore 6, 2) := by decide +kernel
theorem d_Mo_row_174 : decode b_Mo_row 174 = .ok (.lload 6, 2) := by decide +kernel
theorem d_Mo_row_176 : decode b_Mo_row 176 = .ok (.lconst 0, 1) := by decide +kernel
theorem d_Mo_row_177 : decode b_Mo_row 177 = .ok (.lcmp, 1) := by decide +kernel
theorem d_Mo_row_178 : decode b_Mo_row 178 = .ok (.ifCond .le (72), 3) := by decide +kernel
theorem d_Mo_row_181 : decode b_Mo_row 181 = .ok (.aload_n 0, 1) := by decide +kernel
theorem d_Mo_row_182 : decode b_Mo_row 182 = .ok (.getfield 20, 3) := by decide +kernel
theorem d_Mo_row_185 : decode b_Mo_row 185 = .ok (.iload 5, 2) := by decide +kernel
theorem d_Mo_row_187 : decode b_Mo_row 187 = .ok (.laload, 1) := by decide +kernel
theorem d_Mo_row_188 : decode b_Mo_row 188 = .ok (.lload 6, 2) := by decide +kernel
theorem d_Mo_row_190 : decode b_Mo_row 190 = .ok (.ldiv, 1) := by decide +kernel
theorem d_Mo_row_191 : decode b_Mo_row 191 = .ok (.ldc2_w 84, 3) := by decide +kernel
theorem d_Mo_row_194 : decode b_Mo_row 194 = .ok (.lrem, 1) := by decide +kernel
theorem d_Mo_row_195 : decode b_Mo_row 195 = .ok (.l2i, 1) := by decide +kernel
theorem d_Mo_row_196 : decode b_Mo_row 196 = .ok (.i2b, 1) := by decide +kernel
theorem d_Mo_row_197 : decode b_Mo_row 197 = .ok (.istore 8, 2) := by decide +kernel
theorem d_Mo_row_199 : decode b_Mo_row 199 = .ok (.aload 4, 2) := by decide +kernel
theorem d_Mo_row_201 : decode b_Mo_row 201 = .ok (.getfield 79, 3) := by decide +kernel
theorem d_Mo_row_204 : decode b_Mo_row 204 = .ok (.ifCond .ne (11), 3) := by decide +kernel
theorem d_Mo_row_207 : decode b_Mo_row 207 = .ok (.iload 8, 2) := by decide +kernel
theorem d_Mo_row_209 : decode b_Mo_row 209 = .ok (.ifCond .ne (6), 3) := by decide +kernel
theorem d_Mo_row_212 : decode b_Mo_row 212 = .ok (.goto (27), 3) := by decide +kernel
theorem d_Mo_row_215 : decode b_Mo_row 215 = .ok (.aload 4, 2) := by decide +kernel
theorem d_Mo_row_217 : decode b_Mo_row 217 = .ok (.getfield 86, 3) := by decide +kernel
theorem d_Mo_row_220 : decode b_Mo_row 220 = .ok (.aload 4, 2) := by decide +kernel
theorem d_Mo_row_222 : decode b_Mo_row 222 = .ok (.getfield 79, 3) := by decide +kernel
theorem d_Mo_row_225 : decode b_Mo_row 225 = .ok (.iload 8, 2) := by decide +kernel
theorem d_Mo_row_227 : decode b_Mo_row 227 = .ok (.bastore, 1) := by decide +kernel
theorem d_Mo_row_228 : decode b_Mo_row 228 = .ok (.aload 4, 2) := by decide +kernel
theorem d_Mo_row_230 : decode b_Mo_row 230 = .ok (.dup, 1) := by decide +kernel
theorem d_Mo_row_231 : decode b_Mo_row 231 = .ok (.getfield 79, 3) := by decide +kernel
theorem d_Mo_row_234 : decode b_Mo_row 234 = .ok (.iconst 1, 1) := by decide +kernel
theorem d_Mo_row_235 : decode b_Mo_row 235 = .ok (.iadd, 1) := by decide +kernel
theorem d_Mo_row_236 : decode b_Mo_row 236 = .ok (.putfield 79, 3) := by decide +kernel
theorem d_Mo_row_239 : decode b_Mo_row 239 = .ok (.lload 6, 2) := by decide +kernel
theorem d_Mo_row_241 : decode b_Mo_row 241 = .ok (.ldc2_w 84, 3) := by decide +kernel
theorem d_Mo_row_244 : decode b_Mo_row 244 = .ok (.ldiv, 1) := by decide +kernel
theorem d_Mo_row_245 : decode b_Mo_row 245 = .ok (.lstore 6, 2) := by decide +kernel
theorem d_Mo_row_247 : decode b_Mo_row 247 = .ok (.goto (-73), 3) := by decide +kernel
theorem d_Mo_row_250 : decode b_Mo_row 250 = .ok (.iinc 5 (-1), 3) := by decide +kernel
theorem d_Mo_row_253 : decode b_Mo_row 253 = .ok (.goto (-89), 3) := by decide +kernel
theorem d_Mo_row_256 : decode b_Mo_row 256 = .ok (.aload 4, 2) := by decide +kernel
theorem d_Mo_row_258 : decode b_Mo_row 258 = .ok (.aload 4, 2) := by decide +kernel
theorem d_Mo_row_260 : decode b_Mo_row 260 = .ok (.getfield 79, 3) := by decide +kernel
theorem d_Mo_row_263 : decode b_Mo_row 263 = .ok (.iload_n 3, 1) := by decide +kernel
theorem d_Mo_row_264 : decode b_Mo_row 264 = .ok (.ifCond .ge (7), 3) := by decide +kernel
theorem d_Mo_row_267 : decode b_Mo_row 267 = .ok (.iload_n 3, 1) := by decide +kernel
theorem d_Mo_row_268 : decode b_Mo_row 268 = .ok (.goto (4), 3) := by decide +kernel
theorem d_Mo_row_271 : decode b_Mo_row 271 = .ok (.iconst 0, 1) := by decide +kernel
theorem d_Mo_row_272 : decode b_Mo_row 272 = .ok (.iadd, 1) := by decide +kernel
theorem d_Mo_row_273 : decode b_Mo_row 273 = .ok (.putfield 89, 3) := by decide +kernel
theorem d_Mo_row_276 : decode b_Mo_row 276 = .ok (.aload 4, 2) := by decide +kernel
theorem d_Mo_row_278 : decode b_Mo_row 278 = .ok (.getfield 79, 3) := by decide +kernel
theorem d_Mo_row_281 : decode b_Mo_row 281 = .ok (.ifCond .le (33), 3) := by decide +kernel
theorem d_Mo_row_284 : decode b_Mo_row 284 = .ok (.aload 4, 2) := by decide +kernel
theorem d_Mo_row_286 : decode b_Mo_row 286 = .ok (.getfield 86, 3) := by decide +kernel
theorem d_Mo_row_289 : decode b_Mo_row 289 = .ok (.aload 4, 2) := by decide +kernel
theorem d_Mo_row_291 : decode b_Mo_row 291 = .ok (.getfield 79, 3) := by decide +kernel
theorem d_Mo_row_294 : decode b_Mo_row 294 = .ok (.iconst 1, 1) := by decide +kernel
theorem d_Mo_row_295 : decode b_Mo_row 295 = .ok (.isub, 1) := by decide +kernel
theorem d_Mo_row_296 : decode b_Mo_row 296 = .ok (.baload, 1) := by decide +kernel
theorem d_Mo_row_297 : decode b_Mo_row 297 = .ok (.ifCond .ne (17), 3) := by decide +kernel
theorem d_Mo_row_300 : decode b_Mo_row 300 = .ok (.aload 4, 2) := by decide +kernel
theorem d_Mo_row_302 : decode b_Mo_row 302 = .ok (.dup, 1) := by decide +kernel
theorem d_Mo_row_303 : decode b_Mo_row 303 = .ok (.getfield 79, 3) := by decide +kernel
theorem d_Mo_row_306 : decode b_Mo_row 306 = .ok (.iconst 1, 1) := by decide +kernel
theorem d_Mo_row_307 : decode b_Mo_row 307 = .ok (.isub, 1) := by decide +kernel
theorem d_Mo_row_308 : decode b_Mo_row 308 = .ok (.putfield 79, 3) := by decide +kernel
theorem d_Mo_row_311 : decode b_Mo_row 311 = .ok (.goto (-35), 3) := by decide +kernel
theorem d_Mo_row_314 : decode b_Mo_row 314 = .ok (.return_, 1) := by decide +kernel
set_option maxHeartbeats 4000000 in
set_option maxRecDepth 100000 in
theorem c_Mo_row (l : Launch) (D : va_G) (cB cL : ClassId) (mo rs ex xd li bo cu cd : Nat) (co bi le : Int) (rt bt : List Int) (V C : Int) (cf q Vn : Int) (hcf : 0 ≤ cf ∧ cf < 1000000000000000000) (hq : -1074 ≤ q ∧ q ≤ 971) (hVn : Vn = cf * 2 ^ q.toNat * 5 ^ (-q).toNat * 10 ^ (min q 0 + 1080).toNat) (hLf : cf * 2 ^ q.toNat * 5 ^ (-q).toNat < 10 ^ 800) (hLm : 0 ≤ cf * 2 ^ q.toNat * 5 ^ (-q).toNat) : Ct l y_Mo_row (ws_Mo_row) 1 (AM mo rs ex xd li bo cu cd) [.ref mo, .long (lz cf), .int (iz q), .ref ex] (MW D cB cL mo rs ex xd li bo cu cd co bi le rt bt V C) (zR none (MW D cB cL mo rs ex xd li bo cu cd co bi le rt bt Vn C)) := by
  refine z_body zSt_MW (by decide +kernel) rfl (Nat.le_of_ble_eq_true rfl) ?_
  intro p e s m args below meth c ls hx hb hml hr hlk hts0 hown hpre0 H locs hpre hS hl
  have hts : ∀ w ∈ TBL, w.before args s = true := fun w hw => hts0 w (List.mem_cons_of_mem _ hw)
  have hl : lv_has ls 9 [(0, .ref mo), (1, .long (lz cf)), (3, .int (iz q)), (4, .ref ex)] := hl
  have hw := hpre
  have hw9 := hw
  obtain ⟨fc, nc, pp, ⟨len, used, bl, fr, fb, lm, fe, ne, pe, ⟨hK, hP, hD⟩, hrt, hbt, hE, hpe, hlm⟩, hC⟩ := hw9
  have hr1 := hrt.1
  have hr2 := hrt.2.1
  have hb1 := hbt.1
  have hb2 := hbt.2.1
  have hE1 := hE.1
  have hC1 := hC.1
  have L276 : ∀ (N276 : Nat) (h : Int → Int) (n : Int) (lm2 : Int → Int) (u2 : Int) (len : Int) (bl : Int) (fr : Int → Int) (fb : Int → Int) (fc : Int → Int) (nc : Int) (pp : Int) (p2 : Int) (H : Heap) (locs : List Loc) (ls : Array Slot), va_P D vwCl [(mo, .inr (3, [.ref rs, .int (iz len), .int (iz co), .ref ex, .int (iz bi), .int (iz le), .ref li, .int (iz u2), .ref bo, .int (iz bl), .ref cu])), (rs, .inl (cB, 4096, .inl (az fr))), (ex, .inr (4, [.ref xd, .int (iz n), .int (iz p2)])), (xd, .inl (cB, 1300, .inl (az h))), (li, .inl (cL, 160, .inr (.inl (azl lm2)))), (bo, .inl (cB, 4096, .inl (az fb))), (cu, .inr (4, [.ref cd, .int (iz nc), .int (iz pp)])), (cd, .inl (cB, 1300, .inl (az fc)))] H → va_D (AM mo rs ex xd li bo cu cd) [(mo, .inr (3, [.ref rs, .int (iz len), .int (iz co), .ref ex, .int (iz bi), .int (iz le), .ref li, .int (iz u2), .ref bo, .int (iz bl), .ref cu])), (rs, .inl (cB, 4096, .inl (az fr))), (ex, .inr (4, [.ref xd, .int (iz n), .int (iz p2)])), (xd, .inl (cB, 1300, .inl (az h))), (li, .inl (cL, 160, .inr (.inl (azl lm2)))), (bo, .inl (cB, 4096, .inl (az fb))), (cu, .inr (4, [.ref cd, .int (iz nc), .int (iz pp)])), (cd, .inl (cB, 1300, .inl (az fc)))] → va_S (AM mo rs ex xd li bo cu cd) s.heap H locs → lv_has ls 9 [(0, .ref mo), (4, .ref ex)] → (va_K D vwCl (tysM cB cL) s) → (TxM fr len rt) → (TxM fb bl bt) → (RowOK fc nc pp C) → (∀ j, 0 ≤ lm2 j ∧ lm2 j < 1000000000) → (RowOK h n p2 Vn) → (-1400 ≤ p2 ∧ p2 ≤ 1400) → n.toNat < N276 → W p l e (zrm 1) s m args below meth c H locs 0 0 (MQ below (zQ (AM mo rs ex xd li bo cu cd) (zR none (MW D cB cL mo rs ex xd li bo cu cd co bi le rt bt Vn C))) args s 0 0 (AM mo rs ex xd li bo cu cd)) (F0 m 276 ls []) := by
    intro N276
    induction N276 with
    | zero => intro h n lm2 u2 len bl fr fb fc nc pp p2 H locs ls hP hD hS hl hK hrt hbt hC hlm hE hpe hN276; exact absurd hN276 (Nat.not_lt_zero _)
    | succ N276 ih276 =>
      intro h n lm2 u2 len bl fr fb fc nc pp p2 H locs ls hP hD hS hl hK hrt hbt hC hlm hE hpe hN276
      have hE1 := hE.1
      refine lv_aload hx hb d_Mo_row_276 (lv_at hl 1 rfl) ?_
      refine va_get (D := D) (ci := 4) (v := .int (iz n)) (C := R_4) (T := T_4) (N := 3) hx hb hts in_4 hown hK hP 2 rfl rfl 1 (by decide) (hts _ tw_383) (fun _ h9 => h9) rfl d_Mo_row_278 ?_
      refine z_if_le (tgt := 314) hx hb d_Mo_row_281 rfl ⟨by omega, by omega⟩ (fun hc281 => ?_) (fun hc281 => ?_)
      · exact z_vret hx hb hr hlk hS (zR_st zSt_MW) ⟨rfl, _, _, _, ⟨_, _, _, _, _, _, _, _, _, ⟨hK, hP, hD⟩, hrt, hbt, hE, hpe, hlm⟩, hC⟩ d_Mo_row_314
      · have hEn := hE.2.1 (n - 1) (by omega) (by omega)
        refine lv_aload hx hb d_Mo_row_284 (lv_at hl 1 rfl) ?_
        refine va_get (D := D) (ci := 4) (v := .ref xd) (C := R_4) (T := T_4) (N := 3) hx hb hts in_4 hown hK hP 2 rfl rfl 0 (by decide) (hts _ tw_382) (fun _ h9 => h9) rfl d_Mo_row_286 ?_
        refine lv_aload hx hb d_Mo_row_289 (lv_at hl 1 rfl) ?_
        refine va_get (D := D) (ci := 4) (v := .int (iz n)) (C := R_4) (T := T_4) (N := 3) hx hb hts in_4 hown hK hP 2 rfl rfl 1 (by decide) (hts _ tw_383) (fun _ h9 => h9) rfl d_Mo_row_291 ?_
        refine lv_iconst (v := iz 1) hx hb d_Mo_row_294 rfl ?_
        refine z_isub hx hb d_Mo_row_295 ?_
        refine z_bald hx hb hK hP 3 0 rfl rfl (by omega) (by omega) (by decide) d_Mo_row_296 ?_
        refine z_if_ne (tgt := 314) hx hb d_Mo_row_297 rfl ⟨by omega, by omega⟩ (fun hc297 => ?_) (fun hc297 => ?_)
        · exact z_vret hx hb hr hlk hS (zR_st zSt_MW) ⟨rfl, _, _, _, ⟨_, _, _, _, _, _, _, _, _, ⟨hK, hP, hD⟩, hrt, hbt, hE, hpe, hlm⟩, hC⟩ d_Mo_row_314
        · refine lv_aload hx hb d_Mo_row_300 (lv_at hl 1 rfl) ?_
          refine lv_dup hx hb d_Mo_row_302 rfl ?_
          refine va_get (D := D) (ci := 4) (v := .int (iz n)) (C := R_4) (T := T_4) (N := 3) hx hb hts in_4 hown hK hP 2 rfl rfl 1 (by decide) (hts _ tw_383) (fun _ h9 => h9) rfl d_Mo_row_303 ?_
          refine lv_iconst (v := iz 1) hx hb d_Mo_row_306 rfl ?_
          refine z_isub hx hb d_Mo_row_307 ?_
          refine va_put (D := D) (ci := 4) (v := .int (iz (n - 1))) (ty := .int) (C := R_4) (T := T_4) (N := 3) hx hb hts in_4 ty_4 tyok_4 nm_4 hown hK hP hD hS 2 rfl rfl 1 (by decide) (hts _ tw_383) (fun _ h9 => h9) rfl (by decide +kernel) rfl rfl (Nat.le_of_ble_eq_true rfl) d_Mo_row_308 (fun H locs hP hD hS => ?_)
          have hP : va_P D vwCl [(mo, .inr (3, [.ref rs, .int (iz len), .int (iz co), .ref ex, .int (iz bi), .int (iz le), .ref li, .int (iz u2), .ref bo, .int (iz bl), .ref cu])), (rs, .inl (cB, 4096, .inl (az fr))), (ex, .inr (4, [.ref xd, .int (iz (n - 1)), .int (iz p2)])), (xd, .inl (cB, 1300, .inl (az h))), (li, .inl (cL, 160, .inr (.inl (azl lm2)))), (bo, .inl (cB, 4096, .inl (az fb))), (cu, .inr (4, [.ref cd, .int (iz nc), .int (iz pp)])), (cd, .inl (cB, 1300, .inl (az fc)))] H := hP
          have hD : va_D (AM mo rs ex xd li bo cu cd) [(mo, .inr (3, [.ref rs, .int (iz len), .int (iz co), .ref ex, .int (iz bi), .int (iz le), .ref li, .int (iz u2), .ref bo, .int (iz bl), .ref cu])), (rs, .inl (cB, 4096, .inl (az fr))), (ex, .inr (4, [.ref xd, .int (iz (n - 1)), .int (iz p2)])), (xd, .inl (cB, 1300, .inl (az h))), (li, .inl (cL, 160, .inr (.inl (azl lm2)))), (bo, .inl (cB, 4096, .inl (az fb))), (cu, .inr (4, [.ref cd, .int (iz nc), .int (iz pp)])), (cd, .inl (cB, 1300, .inl (az fc)))] := hD
          refine lv_goto (tgt := 276) hx hb d_Mo_row_311 rfl ?_
          exact ih276 h (n - 1) lm2 u2 len bl fr fb fc nc pp p2 _ _ _ hP hD hS (lv_sub hl [0, 1] rfl) hK hrt hbt hC hlm (hE.strip (by omega) hc297) hpe (by omega)
  have L164 : ∀ (N164 : Nat) (h : Int → Int) (n : Int) (i : Int) (lm2 : Int → Int) (u2 : Int) (len : Int) (bl : Int) (fr : Int → Int) (fb : Int → Int) (fc : Int → Int) (nc : Int) (pp : Int) (p2 : Int) (H : Heap) (locs : List Loc) (ls : Array Slot), va_P D vwCl [(mo, .inr (3, [.ref rs, .int (iz len), .int (iz co), .ref ex, .int (iz bi), .int (iz le), .ref li, .int (iz u2), .ref bo, .int (iz bl), .ref cu])), (rs, .inl (cB, 4096, .inl (az fr))), (ex, .inr (4, [.ref xd, .int (iz n), .int (iz p2)])), (xd, .inl (cB, 1300, .inl (az h))), (li, .inl (cL, 160, .inr (.inl (azl lm2)))), (bo, .inl (cB, 4096, .inl (az fb))), (cu, .inr (4, [.ref cd, .int (iz nc), .int (iz pp)])), (cd, .inl (cB, 1300, .inl (az fc)))] H → va_D (AM mo rs ex xd li bo cu cd) [(mo, .inr (3, [.ref rs, .int (iz len), .int (iz co), .ref ex, .int (iz bi), .int (iz le), .ref li, .int (iz u2), .ref bo, .int (iz bl), .ref cu])), (rs, .inl (cB, 4096, .inl (az fr))), (ex, .inr (4, [.ref xd, .int (iz n), .int (iz p2)])), (xd, .inl (cB, 1300, .inl (az h))), (li, .inl (cL, 160, .inr (.inl (azl lm2)))), (bo, .inl (cB, 4096, .inl (az fb))), (cu, .inr (4, [.ref cd, .int (iz nc), .int (iz pp)])), (cd, .inl (cB, 1300, .inl (az fc)))] → va_S (AM mo rs ex xd li bo cu cd) s.heap H locs → lv_has ls 9 [(0, .ref mo), (3, .int (iz q)), (4, .ref ex), (5, .int (iz i))] → (va_K D vwCl (tysM cB cL) s) → (TxM fr len rt) → (TxM fb bl bt) → (RowOK fc nc pp C) → (LmOK lm2 u2 (cf * 2 ^ q.toNat * 5 ^ (-q).toNat)) → (-1 ≤ i ∧ i < u2 ∨ i = u2 - 1 ∧ -1 ≤ i) → (DigI h n (cf * 2 ^ q.toNat * 5 ^ (-q).toNat / 1000000000 ^ (i + 1).toNat)) → (i + 1).toNat < N164 → W p l e (zrm 1) s m args below meth c H locs 0 0 (MQ below (zQ (AM mo rs ex xd li bo cu cd) (zR none (MW D cB cL mo rs ex xd li bo cu cd co bi le rt bt Vn C))) args s 0 0 (AM mo rs ex xd li bo cu cd)) (F0 m 164 ls []) := by
    intro N164
    induction N164 with
    | zero => intro h n i lm2 u2 len bl fr fb fc nc pp p2 H locs ls hP hD hS hl hK hrt hbt hC hLm2 hi hG hN164; exact absurd hN164 (Nat.not_lt_zero _)
    | succ N164 ih164 =>
      intro h n i lm2 u2 len bl fr fb fc nc pp p2 H locs ls hP hD hS hl hK hrt hbt hC hLm2 hi hG hN164
      have L174 : ∀ (N174 : Nat) (h : Int → Int) (n : Int) (w : Nat) (H : Heap) (locs : List Loc) (ls : Array Slot), va_P D vwCl [(mo, .inr (3, [.ref rs, .int (iz len), .int (iz co), .ref ex, .int (iz bi), .int (iz le), .ref li, .int (iz u2), .ref bo, .int (iz bl), .ref cu])), (rs, .inl (cB, 4096, .inl (az fr))), (ex, .inr (4, [.ref xd, .int (iz n), .int (iz p2)])), (xd, .inl (cB, 1300, .inl (az h))), (li, .inl (cL, 160, .inr (.inl (azl lm2)))), (bo, .inl (cB, 4096, .inl (az fb))), (cu, .inr (4, [.ref cd, .int (iz nc), .int (iz pp)])), (cd, .inl (cB, 1300, .inl (az fc)))] H → va_D (AM mo rs ex xd li bo cu cd) [(mo, .inr (3, [.ref rs, .int (iz len), .int (iz co), .ref ex, .int (iz bi), .int (iz le), .ref li, .int (iz u2), .ref bo, .int (iz bl), .ref cu])), (rs, .inl (cB, 4096, .inl (az fr))), (ex, .inr (4, [.ref xd, .int (iz n), .int (iz p2)])), (xd, .inl (cB, 1300, .inl (az h))), (li, .inl (cL, 160, .inr (.inl (azl lm2)))), (bo, .inl (cB, 4096, .inl (az fb))), (cu, .inr (4, [.ref cd, .int (iz nc), .int (iz pp)])), (cd, .inl (cB, 1300, .inl (az fc)))] → va_S (AM mo rs ex xd li bo cu cd) s.heap H locs → lv_has ls 9 [(0, .ref mo), (3, .int (iz q)), (4, .ref ex), (5, .int (iz i)), (6, .long (lz (tenW w)))] → (w ≤ 9) → (0 ≤ i) → (DigI h n (cf * 2 ^ q.toNat * 5 ^ (-q).toNat / (1000000000 ^ i.toNat * 10 ^ w))) → w < N174 → W p l e (zrm 1) s m args below meth c H locs 0 0 (MQ below (zQ (AM mo rs ex xd li bo cu cd) (zR none (MW D cB cL mo rs ex xd li bo cu cd co bi le rt bt Vn C))) args s 0 0 (AM mo rs ex xd li bo cu cd)) (F0 m 174 ls []) := by
        intro N174
        induction N174 with
        | zero => intro h n w H locs ls hP hD hS hl hw9 hi0 hG hN174; exact absurd hN174 (Nat.not_lt_zero _)
        | succ N174 ih174 =>
          intro h n w H locs ls hP hD hS hl hw9 hi0 hG hN174
          have hl1 := hLm2.1
          have htw := tenW_r w hw9
          have hlr := hLm2.2.1 i
          have hnl := hG.len (b := 800) (Int.lt_of_le_of_lt (quo_le hLm _ (Int.mul_pos (Int.pow_pos (by decide)) (pow_pos10 _))) hLf)
          have hn0 := hG.1
          refine lv_lload hx hb d_Mo_row_174 (lv_at hl 4 rfl) ?_
          refine lv_lconst (v := lz 0) hx hb d_Mo_row_176 (by decide) ?_
          refine z_lif_le (tgt := 250) hx hb d_Mo_row_177 d_Mo_row_178 rfl ⟨by omega, by omega⟩ ⟨by omega, by omega⟩ (fun hc177 => ?_) (fun hc177 => ?_)
          · refine lv_iinc (k := 3) (v := (iz (i - 1))) hx hb d_Mo_row_250 hl rfl (by show iz _ + iz (-1) = _; rw [← iz_add]; try rfl) (by decide) rfl (fun ls hl => ?_)
            have hl : lv_has ls 9 [(5, .int (iz (i - 1))), (0, .ref mo), (3, .int (iz q)), (4, .ref ex), (6, .long (lz (tenW w)))] := hl
            refine lv_goto (tgt := 164) hx hb d_Mo_row_253 rfl ?_
            exact ih164 h n (i - 1) lm2 u2 len bl fr fb fc nc pp p2 _ _ _ hP hD hS (lv_sub hl [1, 2, 3, 0] rfl) hK hrt hbt hC hLm2 (by omega) (by
                    rw [show (i - 1 + 1).toNat = i.toNat by omega]
                    rw [show w = 0 by have := tenW_r w hw9; omega, Int.pow_zero, Int.mul_one] at hG
                    exact hG) (by omega)
          · have hdd : 0 ≤ lm2 i / tenW w ∧ lm2 i / tenW w ≤ lm2 i := ⟨Int.ediv_nonneg (by omega) (by omega), Int.ediv_le_self _ (by omega)⟩
            have hqs := quo_step hLm2 (k := i.toNat) (w := w) (by omega) hw9 (by omega)
            rw [Int.toNat_of_nonneg hi0] at hqs
            refine lv_aload_n hx hb d_Mo_row_181 rfl (lv_at hl 0 rfl) ?_
            refine va_get (D := D) (ci := 3) (v := .ref li) (C := R_3) (T := T_3) (N := 11) hx hb hts in_3 hown hK hP 0 rfl rfl 6 (by decide) (hts _ tw_398) (fun _ h9 => h9) rfl d_Mo_row_182 ?_
            refine lv_iload hx hb d_Mo_row_185 (lv_at hl 3 rfl) ?_
            refine z_lald hx hb hK hP 4 1 rfl rfl (by omega) (by omega) (by decide) d_Mo_row_187 ?_
            refine lv_lload hx hb d_Mo_row_188 (lv_at hl 4 rfl) ?_
            refine z_ldiv hx hb d_Mo_row_190 ⟨by omega, by omega⟩ ⟨by omega, by omega⟩ ?_
            refine lv_ldc2 (v := (10 : Int64)) hx hb hown (hts _ tw_503) d_Mo_row_191 ?_
            refine z_topl (y := lz (10)) (by decide) ?_
            refine z_lrem hx hb d_Mo_row_194 ⟨by omega, by omega⟩ ⟨by omega, by omega⟩ ?_
            refine z_l2i hx hb d_Mo_row_195 ?_
            refine z_i2b hx hb d_Mo_row_196 ⟨by omega, by omega⟩ ?_
            refine lv_istore hx hb d_Mo_row_197 hl (by decide) rfl (fun ls hl => ?_)
            have hl : lv_has ls 9 [(8, .int (iz (((lm2 i) / (tenW w)) % 10))), (0, .ref mo), (3, .int (iz q)), (4, .ref ex), (5, .int (iz i)), (6, .long (lz (tenW w)))] := hl
            refine lv_aload hx hb d_Mo_row_199 (lv_at hl 3 rfl) ?_
            refine va_get (D := D) (ci := 4) (v := .int (iz n)) (C := R_4) (T := T_4) (N := 3) hx hb hts in_4 hown hK hP 2 rfl rfl 1 (by decide) (hts _ tw_383) (fun _ h9 => h9) rfl d_Mo_row_201 ?_
            refine z_if_ne (tgt := 215) hx hb d_Mo_row_204 rfl ⟨by omega, by omega⟩ (fun hc204 => ?_) (fun hc204 => ?_)
            · refine lv_aload hx hb d_Mo_row_215 (lv_at hl 3 rfl) ?_
              refine va_get (D := D) (ci := 4) (v := .ref xd) (C := R_4) (T := T_4) (N := 3) hx hb hts in_4 hown hK hP 2 rfl rfl 0 (by decide) (hts _ tw_382) (fun _ h9 => h9) rfl d_Mo_row_217 ?_
              refine lv_aload hx hb d_Mo_row_220 (lv_at hl 3 rfl) ?_
              refine va_get (D := D) (ci := 4) (v := .int (iz n)) (C := R_4) (T := T_4) (N := 3) hx hb hts in_4 hown hK hP 2 rfl rfl 1 (by decide) (hts _ tw_383) (fun _ h9 => h9) rfl d_Mo_row_222 ?_
              refine lv_iload hx hb d_Mo_row_225 (lv_at hl 0 rfl) ?_
              refine z_bast hx hb hK hP hD hS 3 0 rfl rfl (by omega) (by omega) (by decide) ⟨by omega, by omega⟩ d_Mo_row_227 (fun H locs hP hD hS => ?_)
              have hP : va_P D vwCl [(mo, .inr (3, [.ref rs, .int (iz len), .int (iz co), .ref ex, .int (iz bi), .int (iz le), .ref li, .int (iz u2), .ref bo, .int (iz bl), .ref cu])), (rs, .inl (cB, 4096, .inl (az fr))), (ex, .inr (4, [.ref xd, .int (iz n), .int (iz p2)])), (xd, .inl (cB, 1300, .inl (az (up h n (((lm2 i) / (tenW w)) % 10))))), (li, .inl (cL, 160, .inr (.inl (azl lm2)))), (bo, .inl (cB, 4096, .inl (az fb))), (cu, .inr (4, [.ref cd, .int (iz nc), .int (iz pp)])), (cd, .inl (cB, 1300, .inl (az fc)))] H := hP
              have hD : va_D (AM mo rs ex xd li bo cu cd) [(mo, .inr (3, [.ref rs, .int (iz len), .int (iz co), .ref ex, .int (iz bi), .int (iz le), .ref li, .int (iz u2), .ref bo, .int (iz bl), .ref cu])), (rs, .inl (cB, 4096, .inl (az fr))), (ex, .inr (4, [.ref xd, .int (iz n), .int (iz p2)])), (xd, .inl (cB, 1300, .inl (az (up h n (((lm2 i) / (tenW w)) % 10))))), (li, .inl (cL, 160, .inr (.inl (azl lm2)))), (bo, .inl (cB, 4096, .inl (az fb))), (cu, .inr (4, [.ref cd, .int (iz nc), .int (iz pp)])), (cd, .inl (cB, 1300, .inl (az fc)))] := hD
              refine lv_aload hx hb d_Mo_row_228 (lv_at hl 3 rfl) ?_
              refine lv_dup hx hb d_Mo_row_230 rfl ?_
              refine va_get (D := D) (ci := 4) (v := .int (iz n)) (C := R_4) (T := T_4) (N := 3) hx hb hts in_4 hown hK hP 2 rfl rfl 1 (by decide) (hts _ tw_383) (fun _ h9 => h9) rfl d_Mo_row_231 ?_
              refine lv_iconst (v := iz 1) hx hb d_Mo_row_234 rfl ?_
              refine z_iadd hx hb d_Mo_row_235 ?_
              refine va_put (D := D) (ci := 4) (v := .int (iz (n + 1))) (ty := .int) (C := R_4) (T := T_4) (N := 3) hx hb hts in_4 ty_4 tyok_4 nm_4 hown hK hP hD hS 2 rfl rfl 1 (by decide) (hts _ tw_383) (fun _ h9 => h9) rfl (by decide +kernel) rfl rfl (Nat.le_of_ble_eq_true rfl) d_Mo_row_236 (fun H locs hP hD hS => ?_)
              have hP : va_P D vwCl [(mo, .inr (3, [.ref rs, .int (iz len), .int (iz co), .ref ex, .int (iz bi), .int (iz le), .ref li, .int (iz u2), .ref bo, .int (iz bl), .ref cu])), (rs, .inl (cB, 4096, .inl (az fr))), (ex, .inr (4, [.ref xd, .int (iz (n + 1)), .int (iz p2)])), (xd, .inl (cB, 1300, .inl (az (up h n (((lm2 i) / (tenW w)) % 10))))), (li, .inl (cL, 160, .inr (.inl (azl lm2)))), (bo, .inl (cB, 4096, .inl (az fb))), (cu, .inr (4, [.ref cd, .int (iz nc), .int (iz pp)])), (cd, .inl (cB, 1300, .inl (az fc)))] H := hP
              have hD : va_D (AM mo rs ex xd li bo cu cd) [(mo, .inr (3, [.ref rs, .int (iz len), .int (iz co), .ref ex, .int (iz bi), .int (iz le), .ref li, .int (iz u2), .ref bo, .int (iz bl), .ref cu])), (rs, .inl (cB, 4096, .inl (az fr))), (ex, .inr (4, [.ref xd, .int (iz (n + 1)), .int (iz p2)])), (xd, .inl (cB, 1300, .inl (az (up h n (((lm2 i) / (tenW w)) % 10))))), (li, .inl (cL, 160, .inr (.inl (azl lm2)))), (bo, .inl (cB, 4096, .inl (az fb))), (cu, .inr (4, [.ref cd, .int (iz nc), .int (iz pp)])), (cd, .inl (cB, 1300, .inl (az fc)))] := hD
              refine lv_lload hx hb d_Mo_row_239 (lv_at hl 5 rfl) ?_
              refine lv_ldc2 (v := (10 : Int64)) hx hb hown (hts _ tw_503) d_Mo_row_241 ?_
              refine z_topl (y := lz (10)) (by decide) ?_
              refine z_ldiv hx hb d_Mo_row_244 ⟨by omega, by omega⟩ ⟨by omega, by omega⟩ ?_
              refine z_rl (b := tenW (w - 1)) (tenW_d w hw9 (by omega)) ?_
              refine lv_lstore hx hb d_Mo_row_245 hl (by decide) rfl (fun ls hl => ?_)
              have hl : lv_has ls 9 [(6, .long (lz (tenW (w - 1)))), (8, .int (iz (((lm2 i) / (tenW w)) % 10))), (0, .ref mo), (3, .int (iz q)), (4, .ref ex), (5, .int (iz i))] := hl
              refine lv_goto (tgt := 174) hx hb d_Mo_row_247 rfl ?_
              exact ih174 (up h n (((lm2 i) / (tenW w)) % 10)) (n + 1) (w - 1) _ _ _ hP hD hS (lv_sub hl [2, 3, 4, 5, 0] rfl) (by omega) hi0 (by rw [hqs]; exact hG.put ⟨by omega, by omega⟩ (fun h8 => by omega)) (by omega)
            · refine lv_iload hx hb d_Mo_row_207 (lv_at hl 0 rfl) ?_
              refine z_if_ne (tgt := 215) hx hb d_Mo_row_209 rfl ⟨by omega, by omega⟩ (fun hc209 => ?_) (fun hc209 => ?_)
              · refine lv_aload hx hb d_Mo_row_215 (lv_at hl 3 rfl) ?_
                refine va_get (D := D) (ci := 4) (v := .ref xd) (C := R_4) (T := T_4) (N := 3) hx hb hts in_4 hown hK hP 2 rfl rfl 0 (by decide) (hts _ tw_382) (fun _ h9 => h9) rfl d_Mo_row_217 ?_
                refine lv_aload hx hb d_Mo_row_220 (lv_at hl 3 rfl) ?_
                refine va_get (D := D) (ci := 4) (v := .int (iz n)) (C := R_4) (T := T_4) (N := 3) hx hb hts in_4 hown hK hP 2 rfl rfl 1 (by decide) (hts _ tw_383) (fun _ h9 => h9) rfl d_Mo_row_222 ?_
                refine lv_iload hx hb d_Mo_row_225 (lv_at hl 0 rfl) ?_
                refine z_bast hx hb hK hP hD hS 3 0 rfl rfl (by omega) (by omega) (by decide) ⟨by omega, by omega⟩ d_Mo_row_227 (fun H locs hP hD hS => ?_)
                have hP : va_P D vwCl [(mo, .inr (3, [.ref rs, .int (iz len), .int (iz co), .ref ex, .int (iz bi), .int (iz le), .ref li, .int (iz u2), .ref bo, .int (iz bl), .ref cu])), (rs, .inl (cB, 4096, .inl (az fr))), (ex, .inr (4, [.ref xd, .int (iz n), .int (iz p2)])), (xd, .inl (cB, 1300, .inl (az (up h n (((lm2 i) / (tenW w)) % 10))))), (li, .inl (cL, 160, .inr (.inl (azl lm2)))), (bo, .inl (cB, 4096, .inl (az fb))), (cu, .inr (4, [.ref cd, .int (iz nc), .int (iz pp)])), (cd, .inl (cB, 1300, .inl (az fc)))] H := hP
                have hD : va_D (AM mo rs ex xd li bo cu cd) [(mo, .inr (3, [.ref rs, .int (iz len), .int (iz co), .ref ex, .int (iz bi), .int (iz le), .ref li, .int (iz u2), .ref bo, .int (iz bl), .ref cu])), (rs, .inl (cB, 4096, .inl (az fr))), (ex, .inr (4, [.ref xd, .int (iz n), .int (iz p2)])), (xd, .inl (cB, 1300, .inl (az (up h n (((lm2 i) / (tenW w)) % 10))))), (li, .inl (cL, 160, .inr (.inl (azl lm2)))), (bo, .inl (cB, 4096, .inl (az fb))), (cu, .inr (4, [.ref cd, .int (iz nc), .int (iz pp)])), (cd, .inl (cB, 1300, .inl (az fc)))] := hD
                refine lv_aload hx hb d_Mo_row_228 (lv_at hl 3 rfl) ?_
                refine lv_dup hx hb d_Mo_row_230 rfl ?_
                refine va_get (D := D) (ci := 4) (v := .int (iz n)) (C := R_4) (T := T_4) (N := 3) hx hb hts in_4 hown hK hP 2 rfl rfl 1 (by decide) (hts _ tw_383) (fun _ h9 => h9) rfl d_Mo_row_231 ?_
                refine lv_iconst (v := iz 1) hx hb d_Mo_row_234 rfl ?_
                refine z_iadd hx hb d_Mo_row_235 ?_
                refine va_put (D := D) (ci := 4) (v := .int (iz (n + 1))) (ty := .int) (C := R_4) (T := T_4) (N := 3) hx hb hts in_4 ty_4 tyok_4 nm_4 hown hK hP hD hS 2 rfl rfl 1 (by decide) (hts _ tw_383) (fun _ h9 => h9) rfl (by decide +kernel) rfl rfl (Nat.le_of_ble_eq_true rfl) d_Mo_row_236 (fun H locs hP hD hS => ?_)
                have hP : va_P D vwCl [(mo, .inr (3, [.ref rs, .int (iz len), .int (iz co), .ref ex, .int (iz bi), .int (iz le), .ref li, .int (iz u2), .ref bo, .int (iz bl), .ref cu])), (rs, .inl (cB, 4096, .inl (az fr))), (ex, .inr (4, [.ref xd, .int (iz (n + 1)), .int (iz p2)])), (xd, .inl (cB, 1300, .inl (az (up h n (((lm2 i) / (tenW w)) % 10))))), (li, .inl (cL, 160, .inr (.inl (azl lm2)))), (bo, .inl (cB, 4096, .inl (az fb))), (cu, .inr (4, [.ref cd, .int (iz nc), .int (iz pp)])), (cd, .inl (cB, 1300, .inl (az fc)))] H := hP
                have hD : va_D (AM mo rs ex xd li bo cu cd) [(mo, .inr (3, [.ref rs, .int (iz len), .int (iz co), .ref ex, .int (iz bi), .int (iz le), .ref li, .int (iz u2), .ref bo, .int (iz bl), .ref cu])), (rs, .inl (cB, 4096, .inl (az fr))), (ex, .inr (4, [.ref xd, .int (iz (n + 1)), .int (iz p2)])), (xd, .inl (cB, 1300, .inl (az (up h n (((lm2 i) / (tenW w)) % 10))))), (li, .inl (cL, 160, .inr (.inl (azl lm2)))), (bo, .inl (cB, 4096, .inl (az fb))), (cu, .inr (4, [.ref cd, .int (iz nc), .int (iz pp)])), (cd, .inl (cB, 1300, .inl (az fc)))] := hD
                refine lv_lload hx hb d_Mo_row_239 (lv_at hl 5 rfl) ?_
                refine lv_ldc2 (v := (10 : Int64)) hx hb hown (hts _ tw_503) d_Mo_row_241 ?_
                refine z_topl (y := lz (10)) (by decide) ?_
                refine z_ldiv hx hb d_Mo_row_244 ⟨by omega, by omega⟩ ⟨by omega, by omega⟩ ?_
                refine z_rl (b := tenW (w - 1)) (tenW_d w hw9 (by omega)) ?_
                refine lv_lstore hx hb d_Mo_row_245 hl (by decide) rfl (fun ls hl => ?_)
                have hl : lv_has ls 9 [(6, .long (lz (tenW (w - 1)))), (8, .int (iz (((lm2 i) / (tenW w)) % 10))), (0, .ref mo), (3, .int (iz q)), (4, .ref ex), (5, .int (iz i))] := hl
                refine lv_goto (tgt := 174) hx hb d_Mo_row_247 rfl ?_
                exact ih174 (up h n (((lm2 i) / (tenW w)) % 10)) (n + 1) (w - 1) _ _ _ hP hD hS (lv_sub hl [2, 3, 4, 5, 0] rfl) (by omega) hi0 (by rw [hqs]; exact hG.put ⟨by omega, by omega⟩ (fun h8 => by omega)) (by omega)
              · refine lv_goto (tgt := 239) hx hb d_Mo_row_212 rfl ?_
                refine lv_lload hx hb d_Mo_row_239 (lv_at hl 5 rfl) ?_
                refine lv_ldc2 (v := (10 : Int64)) hx hb hown (hts _ tw_503) d_Mo_row_241 ?_
                refine z_topl (y := lz (10)) (by decide) ?_
                refine z_ldiv hx hb d_Mo_row_244 ⟨by omega, by omega⟩ ⟨by omega, by omega⟩ ?_
                refine z_rl (b := tenW (w - 1)) (tenW_d w hw9 (by omega)) ?_
                refine lv_lstore hx hb d_Mo_row_245 hl (by decide) rfl (fun ls hl => ?_)
                have hl : lv_has ls 9 [(6, .long (lz (tenW (w - 1)))), (8, .int (iz (((lm2 i) / (tenW w)) % 10))), (0, .ref mo), (3, .int (iz q)), (4, .ref ex), (5, .int (iz i))] := hl
                refine lv_goto (tgt := 174) hx hb d_Mo_row_247 rfl ?_
                exact ih174 h n (w - 1) _ _ _ hP hD hS (lv_sub hl [2, 3, 4, 5, 0] rfl) (by omega) hi0 (by
                          have e8 := hG.z hc204
                          rw [hqs, hc209, e8]
                          rw [e8] at hG
                          exact hG) (by omega)
      have hl1 := hLm2.1
      refine lv_iload hx hb d_Mo_row_164 (lv_at hl 3 rfl) ?_
      refine z_if_lt (tgt := 256) hx hb d_Mo_row_166 rfl ⟨by omega, by omega⟩ (fun hc166 => ?_) (fun hc166 => ?_)
      · have hG9 : DigI h n (cf * 2 ^ q.toNat * 5 ^ (-q).toNat) := by
          rw [show (i + 1).toNat = 0 by omega, Int.pow_zero, Int.ediv_one] at hG
          exact hG
        have hnl := hG9.len (b := 800) hLf
        have hn0 := hG9.1
        refine lv_aload hx hb d_Mo_row_256 (lv_at hl 2 rfl) ?_
        refine lv_aload hx hb d_Mo_row_258 (lv_at hl 2 rfl) ?_
        refine va_get (D := D) (ci := 4) (v := .int (iz n)) (C := R_4) (T := T_4) (N := 3) hx hb hts in_4 hown hK hP 2 rfl rfl 1 (by decide) (hts _ tw_383) (fun _ h9 => h9) rfl d_Mo_row_260 ?_
        refine lv_iload_n hx hb d_Mo_row_263 rfl (lv_at hl 1 rfl) ?_
        refine z_if_ge (tgt := 271) hx hb d_Mo_row_264 rfl ⟨by omega, by omega⟩ (fun hc264 => ?_) (fun hc264 => ?_)
        · refine lv_iconst (v := iz 0) hx hb d_Mo_row_271 rfl ?_
          refine z_ri (b := min q 0) (by omega) ?_
          refine z_iadd hx hb d_Mo_row_272 ?_
          refine va_put (D := D) (ci := 4) (v := .int (iz (n + (min q 0)))) (ty := .int) (C := R_4) (T := T_4) (N := 3) hx hb hts in_4 ty_4 tyok_4 nm_4 hown hK hP hD hS 2 rfl rfl 2 (by decide) (hts _ tw_384) (fun _ h9 => h9) rfl (by decide +kernel) rfl rfl (Nat.le_of_ble_eq_true rfl) d_Mo_row_273 (fun H locs hP hD hS => ?_)
          have hP : va_P D vwCl [(mo, .inr (3, [.ref rs, .int (iz len), .int (iz co), .ref ex, .int (iz bi), .int (iz le), .ref li, .int (iz u2), .ref bo, .int (iz bl), .ref cu])), (rs, .inl (cB, 4096, .inl (az fr))), (ex, .inr (4, [.ref xd, .int (iz n), .int (iz (n + (min q 0)))])), (xd, .inl (cB, 1300, .inl (az h))), (li, .inl (cL, 160, .inr (.inl (azl lm2)))), (bo, .inl (cB, 4096, .inl (az fb))), (cu, .inr (4, [.ref cd, .int (iz nc), .int (iz pp)])), (cd, .inl (cB, 1300, .inl (az fc)))] H := hP
          have hD : va_D (AM mo rs ex xd li bo cu cd) [(mo, .inr (3, [.ref rs, .int (iz len), .int (iz co), .ref ex, .int (iz bi), .int (iz le), .ref li, .int (iz u2), .ref bo, .int (iz bl), .ref cu])), (rs, .inl (cB, 4096, .inl (az fr))), (ex, .inr (4, [.ref xd, .int (iz n), .int (iz (n + (min q 0)))])), (xd, .inl (cB, 1300, .inl (az h))), (li, .inl (cL, 160, .inr (.inl (azl lm2)))), (bo, .inl (cB, 4096, .inl (az fb))), (cu, .inr (4, [.ref cd, .int (iz nc), .int (iz pp)])), (cd, .inl (cB, 1300, .inl (az fc)))] := hD
          exact L276 _ h n lm2 u2 len bl fr fb fc nc pp (n + min q 0) _ _ _ hP hD hS (lv_sub hl [0, 2] rfl) hK hrt hbt hC hLm2.2.1 (DigI.row hG9 (by omega) ⟨by omega, by omega⟩ hVn) ⟨by omega, by omega⟩ (Nat.lt_succ_self _)
        · refine lv_iload_n hx hb d_Mo_row_267 rfl (lv_at hl 1 rfl) ?_
          refine z_ri (b := min q 0) (by omega) ?_
          refine lv_goto (tgt := 272) hx hb d_Mo_row_268 rfl ?_
          refine z_iadd hx hb d_Mo_row_272 ?_
          refine va_put (D := D) (ci := 4) (v := .int (iz (n + (min q 0)))) (ty := .int) (C := R_4) (T := T_4) (N := 3) hx hb hts in_4 ty_4 tyok_4 nm_4 hown hK hP hD hS 2 rfl rfl 2 (by decide) (hts _ tw_384) (fun _ h9 => h9) rfl (by decide +kernel) rfl rfl (Nat.le_of_ble_eq_true rfl) d_Mo_row_273 (fun H locs hP hD hS => ?_)
          have hP : va_P D vwCl [(mo, .inr (3, [.ref rs, .int (iz len), .int (iz co), .ref ex, .int (iz bi), .int (iz le), .ref li, .int (iz u2), .ref bo, .int (iz bl), .ref cu])), (rs, .inl (cB, 4096, .inl (az fr))), (ex, .inr (4, [.ref xd, .int (iz n), .int (iz (n + (min q 0)))])), (xd, .inl (cB, 1300, .inl (az h))), (li, .inl (cL, 160, .inr (.inl (azl lm2)))), (bo, .inl (cB, 4096, .inl (az fb))), (cu, .inr (4, [.ref cd, .int (iz nc), .int (iz pp)])), (cd, .inl (cB, 1300, .inl (az fc)))] H := hP
          have hD : va_D (AM mo rs ex xd li bo cu cd) [(mo, .inr (3, [.ref rs, .int (iz len), .int (iz co), .ref ex, .int (iz bi), .int (iz le), .ref li, .int (iz u2), .ref bo, .int (iz bl), .ref cu])), (rs, .inl (cB, 4096, .inl (az fr))), (ex, .inr (4, [.ref xd, .int (iz n), .int (iz (n + (min q 0)))])), (xd, .inl (cB, 1300, .inl (az h))), (li, .inl (cL, 160, .inr (.inl (azl lm2)))), (bo, .inl (cB, 4096, .inl (az fb))), (cu, .inr (4, [.ref cd, .int (iz nc), .int (iz pp)])), (cd, .inl (cB, 1300, .inl (az fc)))] := hD
          exact L276 _ h n lm2 u2 len bl fr fb fc nc pp (n + min q 0) _ _ _ hP hD hS (lv_sub hl [0, 2] rfl) hK hrt hbt hC hLm2.2.1 (DigI.row hG9 (by omega) ⟨by omega, by omega⟩ hVn) ⟨by omega, by omega⟩ (Nat.lt_succ_self _)
      · refine lv_ldc2 (v := (100000000 : Int64)) hx hb hown (hts _ tw_502) d_Mo_row_169 ?_
        refine z_topl (y := lz (100000000)) (by decide) ?_
        refine lv_lstore hx hb d_Mo_row_172 hl (by decide) rfl (fun ls hl => ?_)
        have hl : lv_has ls 9 [(6, .long (lz 100000000)), (0, .ref mo), (3, .int (iz q)), (4, .ref ex), (5, .int (iz i))] := hl
        exact L174 _ h n 9 _ _ _ hP hD hS (lv_sub hl [1, 2, 3, 4, 0] rfl) (Nat.le_refl 9) (by omega) (by rw [← quo_next, show i.toNat + 1 = (i + 1).toNat by omega]; exact hG) (Nat.lt_succ_self _)
  have L119 : ∀ (N119 : Nat) (k : Int) (H : Heap) (locs : List Loc) (ls : Array Slot), MWL D cB cL mo rs ex xd li bo cu cd co bi le rt bt V C (cf * 2 ^ q.toNat * 5 ^ (((-q).toNat - (-q).toNat % 12) + k.toNat)) s H → va_S (AM mo rs ex xd li bo cu cd) s.heap H locs → lv_has ls 9 [(0, .ref mo), (3, .int (iz q)), (4, .ref ex), (5, .int (iz k))] → (0 ≤ k ∧ (k ≤ (-q) % 12 ∧ q < 0 ∨ k = 0)) → ((-q) % 12 - k).toNat < N119 → W p l e (zrm 1) s m args below meth c H locs 0 0 (MQ below (zQ (AM mo rs ex xd li bo cu cd) (zR none (MW D cB cL mo rs ex xd li bo cu cd co bi le rt bt Vn C))) args s 0 0 (AM mo rs ex xd li bo cu cd)) (F0 m 119 ls []) := by
    intro N119
    induction N119 with
    | zero => intro k H locs ls hw hS hl hk hN119; exact absurd hN119 (Nat.not_lt_zero _)
    | succ N119 ih119 =>
      intro k H locs ls hw hS hl hk hN119
      refine lv_iload hx hb d_Mo_row_119 (lv_at hl 3 rfl) ?_
      refine lv_iload_n hx hb d_Mo_row_121 rfl (lv_at hl 1 rfl) ?_
      refine z_if_ge (tgt := 133) hx hb d_Mo_row_122 rfl ⟨by omega, by omega⟩ (fun hc122 => ?_) (fun hc122 => ?_)
      · refine lv_iconst (v := iz 0) hx hb d_Mo_row_133 rfl ?_
        refine z_icmp_ge (tgt := 150) hx hb d_Mo_row_134 rfl ⟨by omega, by omega⟩ ⟨by omega, by omega⟩ (fun hc134 => ?_) (fun hc134 => ?_)
        · have hw : MWL D cB cL mo rs ex xd li bo cu cd co bi le rt bt V C (cf * 2 ^ q.toNat * 5 ^ (-q).toNat) s H := by
            rw [show (-q).toNat = ((-q).toNat - (-q).toNat % 12) + k.toNat by omega]
            exact hw
          have hw9 := hw
          obtain ⟨len, used, bl, fr, fb, lm, fe, ne, pe, fc, nc, pp, ⟨hK, hP, hD⟩, hrt, hbt, hE, hpe, hC, hL⟩ := hw9
          have hL1 := hL.1
          have hP : va_P D vwCl [(mo, .inr (3, [.ref rs, .int (iz len), .int (iz co), .ref ex, .int (iz bi), .int (iz le), .ref li, .int (iz used), .ref bo, .int (iz bl), .ref cu])), (rs, .inl (cB, 4096, .inl (az fr))), (ex, .inr (4, [.ref xd, .int (iz ne), .int (iz pe)])), (xd, .inl (cB, 1300, .inl (az fe))), (li, .inl (cL, 160, .inr (.inl (azl lm)))), (bo, .inl (cB, 4096, .inl (az fb))), (cu, .inr (4, [.ref cd, .int (iz nc), .int (iz pp)])), (cd, .inl (cB, 1300, .inl (az fc)))] H := hP
          have hD : va_D (AM mo rs ex xd li bo cu cd) [(mo, .inr (3, [.ref rs, .int (iz len), .int (iz co), .ref ex, .int (iz bi), .int (iz le), .ref li, .int (iz used), .ref bo, .int (iz bl), .ref cu])), (rs, .inl (cB, 4096, .inl (az fr))), (ex, .inr (4, [.ref xd, .int (iz ne), .int (iz pe)])), (xd, .inl (cB, 1300, .inl (az fe))), (li, .inl (cL, 160, .inr (.inl (azl lm)))), (bo, .inl (cB, 4096, .inl (az fb))), (cu, .inr (4, [.ref cd, .int (iz nc), .int (iz pp)])), (cd, .inl (cB, 1300, .inl (az fc)))] := hD
          refine lv_aload hx hb d_Mo_row_150 (lv_at hl 2 rfl) ?_
          refine lv_iconst (v := iz 0) hx hb d_Mo_row_152 rfl ?_
          refine va_put (D := D) (ci := 4) (v := .int (iz 0)) (ty := .int) (C := R_4) (T := T_4) (N := 3) hx hb hts in_4 ty_4 tyok_4 nm_4 hown hK hP hD hS 2 rfl rfl 1 (by decide) (hts _ tw_383) (fun _ h9 => h9) rfl (by decide +kernel) rfl rfl (Nat.le_of_ble_eq_true rfl) d_Mo_row_153 (fun H locs hP hD hS => ?_)
          have hP : va_P D vwCl [(mo, .inr (3, [.ref rs, .int (iz len), .int (iz co), .ref ex, .int (iz bi), .int (iz le), .ref li, .int (iz used), .ref bo, .int (iz bl), .ref cu])), (rs, .inl (cB, 4096, .inl (az fr))), (ex, .inr (4, [.ref xd, .int (iz 0), .int (iz pe)])), (xd, .inl (cB, 1300, .inl (az fe))), (li, .inl (cL, 160, .inr (.inl (azl lm)))), (bo, .inl (cB, 4096, .inl (az fb))), (cu, .inr (4, [.ref cd, .int (iz nc), .int (iz pp)])), (cd, .inl (cB, 1300, .inl (az fc)))] H := hP
          have hD : va_D (AM mo rs ex xd li bo cu cd) [(mo, .inr (3, [.ref rs, .int (iz len), .int (iz co), .ref ex, .int (iz bi), .int (iz le), .ref li, .int (iz used), .ref bo, .int (iz bl), .ref cu])), (rs, .inl (cB, 4096, .inl (az fr))), (ex, .inr (4, [.ref xd, .int (iz 0), .int (iz pe)])), (xd, .inl (cB, 1300, .inl (az fe))), (li, .inl (cL, 160, .inr (.inl (azl lm)))), (bo, .inl (cB, 4096, .inl (az fb))), (cu, .inr (4, [.ref cd, .int (iz nc), .int (iz pp)])), (cd, .inl (cB, 1300, .inl (az fc)))] := hD
          refine lv_aload_n hx hb d_Mo_row_156 rfl (lv_at hl 0 rfl) ?_
          refine va_get (D := D) (ci := 3) (v := .int (iz used)) (C := R_3) (T := T_3) (N := 11) hx hb hts in_3 hown hK hP 0 rfl rfl 7 (by decide) (hts _ tw_399) (fun _ h9 => h9) rfl d_Mo_row_157 ?_
          refine lv_iconst (v := iz 1) hx hb d_Mo_row_160 rfl ?_
          refine z_isub hx hb d_Mo_row_161 ?_
          refine lv_istore hx hb d_Mo_row_162 hl (by decide) rfl (fun ls hl => ?_)
          have hl : lv_has ls 9 [(5, .int (iz (used - 1))), (0, .ref mo), (3, .int (iz q)), (4, .ref ex)] := hl
          exact L164 _ fe 0 (used - 1) lm used len bl fr fb fc nc pp pe _ _ _ hP hD hS (lv_sub hl [1, 2, 3, 0] rfl) hK hrt hbt hC hL (by omega) (by
                rw [show used - 1 + 1 = used by omega, hL.quo]
                exact ⟨Int.le_refl 0, fun j q1 q2 => absurd q1 (by omega), fun q => absurd q (by omega), rfl⟩) (Nat.lt_succ_self _)
        · refine lv_aload_n hx hb d_Mo_row_137 rfl (lv_at hl 0 rfl) ?_
          refine lv_ldc2 (v := (5 : Int64)) hx hb hown (hts _ tw_501) d_Mo_row_138 ?_
          refine z_topl (y := lz (5)) (by decide) ?_
          have hct := c_Mo_times l D cB cL mo rs ex xd li bo cu cd co bi le rt bt V C (cf * 2 ^ q.toNat * 5 ^ (((-q).toNat - (-q).toNat % 12) + k.toNat)) (5) ⟨by omega, by omega⟩ (row_lt hLf (row_le1 hcf.1 (by omega) (by omega)) (row_1 _ _ (by omega)))
          refine z_go (va_runV (As := [.long (lz 5)]) (rest := []) ⟨hx, hb, hml, hown, hts⟩ hct.2 (z_cwV hts w_Mo_times tw_496 (by decide)) (z_preV hct.1 (hw.recv) hw) rfl rfl hl.1 rfl (lv_room (Nat.le_of_ble_eq_true rfl)) d_Mo_row_141 ⟨Nat.zero_le _, Nat.zero_le _⟩) hS (fun _ h9 => h9) (fun v9 t9 H locs hv9 hp9 hz9 hk9 hS => ?_)
          obtain ⟨rfl, hw⟩ := hp9
          have hw := MWL.moved hv9.symm hw
          rw [show 5 * (cf * 2 ^ q.toNat * 5 ^ (((-q).toNat - (-q).toNat % 12) + k.toNat)) = cf * 2 ^ q.toNat * 5 ^ (((-q).toNat - (-q).toNat % 12) + (k + 1).toNat) from (row_1 _ _ (by omega))] at hw
          refine W.eq (g2 := F0 m 144 ls []) rfl ?_
          refine lv_iinc (k := 3) (v := (iz (k + 1))) hx hb d_Mo_row_144 hl rfl (by show iz _ + iz (1) = _; rw [← iz_add]; try rfl) (by decide) rfl (fun ls hl => ?_)
          have hl : lv_has ls 9 [(5, .int (iz (k + 1))), (0, .ref mo), (3, .int (iz q)), (4, .ref ex)] := hl
          refine lv_goto (tgt := 119) hx hb d_Mo_row_147 rfl ?_
          exact ih119 (k + 1) _ _ _ hw hS (lv_sub hl [1, 2, 3, 0] rfl) ⟨by omega, by omega⟩ (by omega)
      · refine lv_iload_n hx hb d_Mo_row_125 rfl (lv_at hl 1 rfl) ?_
        refine z_ineg hx hb d_Mo_row_126 ?_
        refine lv_bipush (v := iz 12) hx hb d_Mo_row_127 (by decide) ?_
        refine z_irem hx hb d_Mo_row_129 ⟨by omega, by omega⟩ ⟨by omega, by omega⟩ ?_
        refine lv_goto (tgt := 134) hx hb d_Mo_row_130 rfl ?_
        refine z_icmp_ge (tgt := 150) hx hb d_Mo_row_134 rfl ⟨by omega, by omega⟩ ⟨by omega, by omega⟩ (fun hc134 => ?_) (fun hc134 => ?_)
        · have hw : MWL D cB cL mo rs ex xd li bo cu cd co bi le rt bt V C (cf * 2 ^ q.toNat * 5 ^ (-q).toNat) s H := by
            rw [show (-q).toNat = ((-q).toNat - (-q).toNat % 12) + k.toNat by omega]
            exact hw
          have hw9 := hw
          obtain ⟨len, used, bl, fr, fb, lm, fe, ne, pe, fc, nc, pp, ⟨hK, hP, hD⟩, hrt, hbt, hE, hpe, hC, hL⟩ := hw9
          have hL1 := hL.1
          have hP : va_P D vwCl [(mo, .inr (3, [.ref rs, .int (iz len), .int (iz co), .ref ex, .int (iz bi), .int (iz le), .ref li, .int (iz used), .ref bo, .int (iz bl), .ref cu])), (rs, .inl (cB, 4096, .inl (az fr))), (ex, .inr (4, [.ref xd, .int (iz ne), .int (iz pe)])), (xd, .inl (cB, 1300, .inl (az fe))), (li, .inl (cL, 160, .inr (.inl (azl lm)))), (bo, .inl (cB, 4096, .inl (az fb))), (cu, .inr (4, [.ref cd, .int (iz nc), .int (iz pp)])), (cd, .inl (cB, 1300, .inl (az fc)))] H := hP
          have hD : va_D (AM mo rs ex xd li bo cu cd) [(mo, .inr (3, [.ref rs, .int (iz len), .int (iz co), .ref ex, .int (iz bi), .int (iz le), .ref li, .int (iz used), .ref bo, .int (iz bl), .ref cu])), (rs, .inl (cB, 4096, .inl (az fr))), (ex, .inr (4, [.ref xd, .int (iz ne), .int (iz pe)])), (xd, .inl (cB, 1300, .inl (az fe))), (li, .inl (cL, 160, .inr (.inl (azl lm)))), (bo, .inl (cB, 4096, .inl (az fb))), (cu, .inr (4, [.ref cd, .int (iz nc), .int (iz pp)])), (cd, .inl (cB, 1300, .inl (az fc)))] := hD
          refine lv_aload hx hb d_Mo_row_150 (lv_at hl 2 rfl) ?_
          refine lv_iconst (v := iz 0) hx hb d_Mo_row_152 rfl ?_
          refine va_put (D := D) (ci := 4) (v := .int (iz 0)) (ty := .int) (C := R_4) (T := T_4) (N := 3) hx hb hts in_4 ty_4 tyok_4 nm_4 hown hK hP hD hS 2 rfl rfl 1 (by decide) (hts _ tw_383) (fun _ h9 => h9) rfl (by decide +kernel) rfl rfl (Nat.le_of_ble_eq_true rfl) d_Mo_row_153 (fun H locs hP hD hS => ?_)
          have hP : va_P D vwCl [(mo, .inr (3, [.ref rs, .int (iz len), .int (iz co), .ref ex, .int (iz bi), .int (iz le), .ref li, .int (iz used), .ref bo, .int (iz bl), .ref cu])), (rs, .inl (cB, 4096, .inl (az fr))), (ex, .inr (4, [.ref xd, .int (iz 0), .int (iz pe)])), (xd, .inl (cB, 1300, .inl (az fe))), (li, .inl (cL, 160, .inr (.inl (azl lm)))), (bo, .inl (cB, 4096, .inl (az fb))), (cu, .inr (4, [.ref cd, .int (iz nc), .int (iz pp)])), (cd, .inl (cB, 1300, .inl (az fc)))] H := hP
          have hD : va_D (AM mo rs ex xd li bo cu cd) [(mo, .inr (3, [.ref rs, .int (iz len), .int (iz co), .ref ex, .int (iz bi), .int (iz le), .ref li, .int (iz used), .ref bo, .int (iz bl), .ref cu])), (rs, .inl (cB, 4096, .inl (az fr))), (ex, .inr (4, [.ref xd, .int (iz 0), .int (iz pe)])), (xd, .inl (cB, 1300, .inl (az fe))), (li, .inl (cL, 160, .inr (.inl (azl lm)))), (bo, .inl (cB, 4096, .inl (az fb))), (cu, .inr (4, [.ref cd, .int (iz nc), .int (iz pp)])), (cd, .inl (cB, 1300, .inl (az fc)))] := hD
          refine lv_aload_n hx hb d_Mo_row_156 rfl (lv_at hl 0 rfl) ?_
          refine va_get (D := D) (ci := 3) (v := .int (iz used)) (C := R_3) (T := T_3) (N := 11) hx hb hts in_3 hown hK hP 0 rfl rfl 7 (by decide) (hts _ tw_399) (fun _ h9 => h9) rfl d_Mo_row_157 ?_
          refine lv_iconst (v := iz 1) hx hb d_Mo_row_160 rfl ?_
          refine z_isub hx hb d_Mo_row_161 ?_
          refine lv_istore hx hb d_Mo_row_162 hl (by decide) rfl (fun ls hl => ?_)
          have hl : lv_has ls 9 [(5, .int (iz (used - 1))), (0, .ref mo), (3, .int (iz q)), (4, .ref ex)] := hl
          exact L164 _ fe 0 (used - 1) lm used len bl fr fb fc nc pp pe _ _ _ hP hD hS (lv_sub hl [1, 2, 3, 0] rfl) hK hrt hbt hC hL (by omega) (by
                rw [show used - 1 + 1 = used by omega, hL.quo]
                exact ⟨Int.le_refl 0, fun j q1 q2 => absurd q1 (by omega), fun q => absurd q (by omega), rfl⟩) (Nat.lt_succ_self _)
        · refine lv_aload_n hx hb d_Mo_row_137 rfl (lv_at hl 0 rfl) ?_
          refine lv_ldc2 (v := (5 : Int64)) hx hb hown (hts _ tw_501) d_Mo_row_138 ?_
          refine z_topl (y := lz (5)) (by decide) ?_
          have hct := c_Mo_times l D cB cL mo rs ex xd li bo cu cd co bi le rt bt V C (cf * 2 ^ q.toNat * 5 ^ (((-q).toNat - (-q).toNat % 12) + k.toNat)) (5) ⟨by omega, by omega⟩ (row_lt hLf (row_le1 hcf.1 (by omega) (by omega)) (row_1 _ _ (by omega)))
          refine z_go (va_runV (As := [.long (lz 5)]) (rest := []) ⟨hx, hb, hml, hown, hts⟩ hct.2 (z_cwV hts w_Mo_times tw_496 (by decide)) (z_preV hct.1 (hw.recv) hw) rfl rfl hl.1 rfl (lv_room (Nat.le_of_ble_eq_true rfl)) d_Mo_row_141 ⟨Nat.zero_le _, Nat.zero_le _⟩) hS (fun _ h9 => h9) (fun v9 t9 H locs hv9 hp9 hz9 hk9 hS => ?_)
          obtain ⟨rfl, hw⟩ := hp9
          have hw := MWL.moved hv9.symm hw
          rw [show 5 * (cf * 2 ^ q.toNat * 5 ^ (((-q).toNat - (-q).toNat % 12) + k.toNat)) = cf * 2 ^ q.toNat * 5 ^ (((-q).toNat - (-q).toNat % 12) + (k + 1).toNat) from (row_1 _ _ (by omega))] at hw
          refine W.eq (g2 := F0 m 144 ls []) rfl ?_
          refine lv_iinc (k := 3) (v := (iz (k + 1))) hx hb d_Mo_row_144 hl rfl (by show iz _ + iz (1) = _; rw [← iz_add]; try rfl) (by decide) rfl (fun ls hl => ?_)
          have hl : lv_has ls 9 [(5, .int (iz (k + 1))), (0, .ref mo), (3, .int (iz q)), (4, .ref ex)] := hl
          refine lv_goto (tgt := 119) hx hb d_Mo_row_147 rfl ?_
          exact ih119 (k + 1) _ _ _ hw hS (lv_sub hl [1, 2, 3, 0] rfl) ⟨by omega, by omega⟩ (by omega)
  have L93 : ∀ (N93 : Nat) (k : Int) (H : Heap) (locs : List Loc) (ls : Array Slot), MWL D cB cL mo rs ex xd li bo cu cd co bi le rt bt V C (cf * 2 ^ q.toNat * 5 ^ k.toNat) s H → va_S (AM mo rs ex xd li bo cu cd) s.heap H locs → lv_has ls 9 [(0, .ref mo), (3, .int (iz q)), (4, .ref ex), (5, .int (iz k))] → (0 ≤ k ∧ k % 12 = 0 ∧ (k ≤ -q ∨ k = 0)) → (-q - k).toNat < N93 → W p l e (zrm 1) s m args below meth c H locs 0 0 (MQ below (zQ (AM mo rs ex xd li bo cu cd) (zR none (MW D cB cL mo rs ex xd li bo cu cd co bi le rt bt Vn C))) args s 0 0 (AM mo rs ex xd li bo cu cd)) (F0 m 93 ls []) := by
    intro N93
    induction N93 with
    | zero => intro k H locs ls hw hS hl hk hN93; exact absurd hN93 (Nat.not_lt_zero _)
    | succ N93 ih93 =>
      intro k H locs ls hw hS hl hk hN93
      refine lv_iload hx hb d_Mo_row_93 (lv_at hl 3 rfl) ?_
      refine lv_bipush (v := iz 12) hx hb d_Mo_row_95 (by decide) ?_
      refine z_iadd hx hb d_Mo_row_97 ?_
      refine lv_iload_n hx hb d_Mo_row_98 rfl (lv_at hl 1 rfl) ?_
      refine z_ineg hx hb d_Mo_row_99 ?_
      refine z_icmp_gt (tgt := 116) hx hb d_Mo_row_100 rfl ⟨by omega, by omega⟩ ⟨by omega, by omega⟩ (fun hc100 => ?_) (fun hc100 => ?_)
      · refine lv_iconst (v := iz 0) hx hb d_Mo_row_116 rfl ?_
        refine lv_istore hx hb d_Mo_row_117 hl (by decide) rfl (fun ls hl => ?_)
        have hl : lv_has ls 9 [(5, .int (iz 0)), (0, .ref mo), (3, .int (iz q)), (4, .ref ex)] := hl
        have hw : MWL D cB cL mo rs ex xd li bo cu cd co bi le rt bt V C (cf * 2 ^ q.toNat * 5 ^ (((-q).toNat - (-q).toNat % 12) + (0 : Int).toNat)) s H := by
          rw [show ((-q).toNat - (-q).toNat % 12) + (0 : Int).toNat = k.toNat by omega]
          exact hw
        exact L119 _ 0 _ _ _ hw hS (lv_sub hl [1, 2, 3, 0] rfl) ⟨by omega, Or.inr rfl⟩ (Nat.lt_succ_self _)
      · refine lv_aload_n hx hb d_Mo_row_103 rfl (lv_at hl 0 rfl) ?_
        refine lv_ldc2 (v := (244140625 : Int64)) hx hb hown (hts _ tw_500) d_Mo_row_104 ?_
        refine z_topl (y := lz (244140625)) (by decide) ?_
        have hct := c_Mo_times l D cB cL mo rs ex xd li bo cu cd co bi le rt bt V C (cf * 2 ^ q.toNat * 5 ^ k.toNat) (244140625) ⟨by omega, by omega⟩ (row_lt hLf (row_le5 hcf.1 (by omega) (by omega)) (row_5 _ (by omega)))
        refine z_go (va_runV (As := [.long (lz 244140625)]) (rest := []) ⟨hx, hb, hml, hown, hts⟩ hct.2 (z_cwV hts w_Mo_times tw_496 (by decide)) (z_preV hct.1 (hw.recv) hw) rfl rfl hl.1 rfl (lv_room (Nat.le_of_ble_eq_true rfl)) d_Mo_row_107 ⟨Nat.zero_le _, Nat.zero_le _⟩) hS (fun _ h9 => h9) (fun v9 t9 H locs hv9 hp9 hz9 hk9 hS => ?_)
        obtain ⟨rfl, hw⟩ := hp9
        have hw := MWL.moved hv9.symm hw
        rw [show 244140625 * (cf * 2 ^ q.toNat * 5 ^ k.toNat) = cf * 2 ^ q.toNat * 5 ^ (k + 12).toNat from (row_5 _ (by omega))] at hw
        refine W.eq (g2 := F0 m 110 ls []) rfl ?_
        refine lv_iinc (k := 3) (v := (iz (k + 12))) hx hb d_Mo_row_110 hl rfl (by show iz _ + iz (12) = _; rw [← iz_add]; try rfl) (by decide) rfl (fun ls hl => ?_)
        have hl : lv_has ls 9 [(5, .int (iz (k + 12))), (0, .ref mo), (3, .int (iz q)), (4, .ref ex)] := hl
        refine lv_goto (tgt := 93) hx hb d_Mo_row_113 rfl ?_
        exact ih93 (k + 12) _ _ _ hw hS (lv_sub hl [1, 2, 3, 0] rfl) ⟨by omega, by omega, by omega⟩ (by omega)
  have L54 : ∀ (N54 : Nat) (k : Int) (H : Heap) (locs : List Loc) (ls : Array Slot), MWL D cB cL mo rs ex xd li bo cu cd co bi le rt bt V C (cf * 2 ^ k.toNat) s H → va_S (AM mo rs ex xd li bo cu cd) s.heap H locs → lv_has ls 9 [(0, .ref mo), (3, .int (iz q)), (4, .ref ex), (5, .int (iz k))] → (0 ≤ k ∧ k % 29 = 0 ∧ (k ≤ q ∨ k = 0)) → (q - k).toNat < N54 → W p l e (zrm 1) s m args below meth c H locs 0 0 (MQ below (zQ (AM mo rs ex xd li bo cu cd) (zR none (MW D cB cL mo rs ex xd li bo cu cd co bi le rt bt Vn C))) args s 0 0 (AM mo rs ex xd li bo cu cd)) (F0 m 54 ls []) := by
    intro N54
    induction N54 with
    | zero => intro k H locs ls hw hS hl hk hN54; exact absurd hN54 (Nat.not_lt_zero _)
    | succ N54 ih54 =>
      intro k H locs ls hw hS hl hk hN54
      refine lv_iload hx hb d_Mo_row_54 (lv_at hl 3 rfl) ?_
      refine lv_bipush (v := iz 29) hx hb d_Mo_row_56 (by decide) ?_
      refine z_iadd hx hb d_Mo_row_58 ?_
      refine lv_iload_n hx hb d_Mo_row_59 rfl (lv_at hl 1 rfl) ?_
      refine z_icmp_gt (tgt := 76) hx hb d_Mo_row_60 rfl ⟨by omega, by omega⟩ ⟨by omega, by omega⟩ (fun hc60 => ?_) (fun hc60 => ?_)
      · refine lv_iload_n hx hb d_Mo_row_76 rfl (lv_at hl 1 rfl) ?_
        refine z_if_le (tgt := 90) hx hb d_Mo_row_77 rfl ⟨by omega, by omega⟩ (fun hc77 => ?_) (fun hc77 => ?_)
        · refine lv_iconst (v := iz 0) hx hb d_Mo_row_90 rfl ?_
          refine lv_istore hx hb d_Mo_row_91 hl (by decide) rfl (fun ls hl => ?_)
          have hl : lv_has ls 9 [(5, .int (iz 0)), (0, .ref mo), (3, .int (iz q)), (4, .ref ex)] := hl
          have hw : MWL D cB cL mo rs ex xd li bo cu cd co bi le rt bt V C (cf * 2 ^ q.toNat * 5 ^ (0 : Int).toNat) s H := by
            show MWL _ _ _ _ _ _ _ _ _ _ _ _ _ _ _ _ _ _ (_ * 1) _ _
            rw [Int.mul_one]
            first
              | exact hw
              | (rw [show k.toNat = q.toNat by omega] at hw; exact hw)
          exact L93 _ 0 _ _ _ hw hS (lv_sub hl [1, 2, 3, 0] rfl) ⟨by omega, by omega, Or.inr rfl⟩ (Nat.lt_succ_self _)
        · refine lv_aload_n hx hb d_Mo_row_80 rfl (lv_at hl 0 rfl) ?_
          refine lv_lconst (v := lz 1) hx hb d_Mo_row_81 (by decide) ?_
          refine lv_iload_n hx hb d_Mo_row_82 rfl (lv_at hl 1 rfl) ?_
          refine lv_bipush (v := iz 29) hx hb d_Mo_row_83 (by decide) ?_
          refine z_irem hx hb d_Mo_row_85 ⟨by omega, by omega⟩ ⟨by omega, by omega⟩ ?_
          refine z_lshl hx hb ((q % 29).toNat) d_Mo_row_86 (by omega) (by omega) ⟨by omega, by omega⟩ (by have := pow2_29 (b := (q % 29).toNat) (by omega); exact ⟨by omega, by omega⟩) ?_
          refine z_rl (b := 2 ^ (q % 29).toNat) (by rw [Int.one_mul]) ?_
          have hp8 := pow2_29 (b := (q % 29).toNat) (by omega)
          have hct := c_Mo_times l D cB cL mo rs ex xd li bo cu cd co bi le rt bt V C (cf * 2 ^ k.toNat) (2 ^ (q % 29).toNat) ⟨by omega, by omega⟩ (row_lt hLf (row_le2b hcf.1 (by omega)) (row_2b cf (by omega) (by omega)))
          refine z_go (va_runV (As := [.long (lz (2 ^ (q % 29).toNat))]) (rest := []) ⟨hx, hb, hml, hown, hts⟩ hct.2 (z_cwV hts w_Mo_times tw_496 (by decide)) (z_preV hct.1 (hw.recv) hw) rfl rfl hl.1 rfl (lv_room (Nat.le_of_ble_eq_true rfl)) d_Mo_row_87 ⟨Nat.zero_le _, Nat.zero_le _⟩) hS (fun _ h9 => h9) (fun v9 t9 H locs hv9 hp9 hz9 hk9 hS => ?_)
          obtain ⟨rfl, hw⟩ := hp9
          have hw := MWL.moved hv9.symm hw
          rw [show (2 ^ (q % 29).toNat) * (cf * 2 ^ k.toNat) = cf * 2 ^ q.toNat from (row_2b cf (by omega) (by omega))] at hw
          refine W.eq (g2 := F0 m 90 ls []) rfl ?_
          refine lv_iconst (v := iz 0) hx hb d_Mo_row_90 rfl ?_
          refine lv_istore hx hb d_Mo_row_91 hl (by decide) rfl (fun ls hl => ?_)
          have hl : lv_has ls 9 [(5, .int (iz 0)), (0, .ref mo), (3, .int (iz q)), (4, .ref ex)] := hl
          have hw : MWL D cB cL mo rs ex xd li bo cu cd co bi le rt bt V C (cf * 2 ^ q.toNat * 5 ^ (0 : Int).toNat) s H := by
            show MWL _ _ _ _ _ _ _ _ _ _ _ _ _ _ _ _ _ _ (_ * 1) _ _
            rw [Int.mul_one]
            first
              | exact hw
              | (rw [show k.toNat = q.toNat by omega] at hw; exact hw)
          exact L93 _ 0 _ _ _ hw hS (lv_sub hl [1, 2, 3, 0] rfl) ⟨by omega, by omega, Or.inr rfl⟩ (Nat.lt_succ_self _)
      · refine lv_aload_n hx hb d_Mo_row_63 rfl (lv_at hl 0 rfl) ?_
        refine lv_ldc2 (v := (536870912 : Int64)) hx hb hown (hts _ tw_495) d_Mo_row_64 ?_
        refine z_topl (y := lz (536870912)) (by decide) ?_
        have hct := c_Mo_times l D cB cL mo rs ex xd li bo cu cd co bi le rt bt V C (cf * 2 ^ k.toNat) (536870912) ⟨by omega, by omega⟩ (row_lt hLf (row_le2 hcf.1 (by omega) (by omega)) (row_2 cf (by omega)))
        refine z_go (va_runV (As := [.long (lz 536870912)]) (rest := []) ⟨hx, hb, hml, hown, hts⟩ hct.2 (z_cwV hts w_Mo_times tw_496 (by decide)) (z_preV hct.1 (hw.recv) hw) rfl rfl hl.1 rfl (lv_room (Nat.le_of_ble_eq_true rfl)) d_Mo_row_67 ⟨Nat.zero_le _, Nat.zero_le _⟩) hS (fun _ h9 => h9) (fun v9 t9 H locs hv9 hp9 hz9 hk9 hS => ?_)
        obtain ⟨rfl, hw⟩ := hp9
        have hw := MWL.moved hv9.symm hw
        rw [show 536870912 * (cf * 2 ^ k.toNat) = cf * 2 ^ (k + 29).toNat from (row_2 cf (by omega))] at hw
        refine W.eq (g2 := F0 m 70 ls []) rfl ?_
        refine lv_iinc (k := 3) (v := (iz (k + 29))) hx hb d_Mo_row_70 hl rfl (by show iz _ + iz (29) = _; rw [← iz_add]; try rfl) (by decide) rfl (fun ls hl => ?_)
        have hl : lv_has ls 9 [(5, .int (iz (k + 29))), (0, .ref mo), (3, .int (iz q)), (4, .ref ex)] := hl
        refine lv_goto (tgt := 54) hx hb d_Mo_row_73 rfl ?_
        exact ih54 (k + 29) _ _ _ hw hS (lv_sub hl [1, 2, 3, 0] rfl) ⟨by omega, by omega, by omega⟩ (by omega)
  have L8 : ∀ (N8 : Nat) (h : Int → Int) (u : Int) (x : Int) (H : Heap) (locs : List Loc) (ls : Array Slot), va_P D vwCl [(mo, .inr (3, [.ref rs, .int (iz len), .int (iz co), .ref ex, .int (iz bi), .int (iz le), .ref li, .int (iz u), .ref bo, .int (iz bl), .ref cu])), (rs, .inl (cB, 4096, .inl (az fr))), (ex, .inr (4, [.ref xd, .int (iz ne), .int (iz pe)])), (xd, .inl (cB, 1300, .inl (az fe))), (li, .inl (cL, 160, .inr (.inl (azl h)))), (bo, .inl (cB, 4096, .inl (az fb))), (cu, .inr (4, [.ref cd, .int (iz nc), .int (iz pp)])), (cd, .inl (cB, 1300, .inl (az fc)))] H → va_D (AM mo rs ex xd li bo cu cd) [(mo, .inr (3, [.ref rs, .int (iz len), .int (iz co), .ref ex, .int (iz bi), .int (iz le), .ref li, .int (iz u), .ref bo, .int (iz bl), .ref cu])), (rs, .inl (cB, 4096, .inl (az fr))), (ex, .inr (4, [.ref xd, .int (iz ne), .int (iz pe)])), (xd, .inl (cB, 1300, .inl (az fe))), (li, .inl (cL, 160, .inr (.inl (azl h)))), (bo, .inl (cB, 4096, .inl (az fb))), (cu, .inr (4, [.ref cd, .int (iz nc), .int (iz pp)])), (cd, .inl (cB, 1300, .inl (az fc)))] → va_S (AM mo rs ex xd li bo cu cd) s.heap H locs → lv_has ls 9 [(0, .ref mo), (3, .int (iz q)), (4, .ref ex), (5, .long (lz x))] → (WhoI h u x cf) → x.toNat < N8 → W p l e (zrm 1) s m args below meth c H locs 0 0 (MQ below (zQ (AM mo rs ex xd li bo cu cd) (zR none (MW D cB cL mo rs ex xd li bo cu cd co bi le rt bt Vn C))) args s 0 0 (AM mo rs ex xd li bo cu cd)) (F0 m 8 ls []) := by
    intro N8
    induction N8 with
    | zero => intro h u x H locs ls hP hD hS hl hI hN8; exact absurd hN8 (Nat.not_lt_zero _)
    | succ N8 ih8 =>
      intro h u x H locs ls hP hD hS hl hI hN8
      have hI0 := hI.1
      have hI1 := hI.2.1
      refine lv_lload hx hb d_Mo_row_8 (lv_at hl 3 rfl) ?_
      refine lv_lconst (v := lz 0) hx hb d_Mo_row_10 (by decide) ?_
      refine z_lif_le (tgt := 51) hx hb d_Mo_row_11 d_Mo_row_12 rfl ⟨by omega, by omega⟩ ⟨by omega, by omega⟩ (fun hc11 => ?_) (fun hc11 => ?_)
      · refine lv_iconst (v := iz 0) hx hb d_Mo_row_51 rfl ?_
        refine lv_istore hx hb d_Mo_row_52 hl (by decide) rfl (fun ls hl => ?_)
        have hl : lv_has ls 9 [(5, .int (iz 0)), (0, .ref mo), (3, .int (iz q)), (4, .ref ex)] := hl
        have hw : MWL D cB cL mo rs ex xd li bo cu cd co bi le rt bt V C (cf * 2 ^ (0 : Int).toNat) s H := by
          have h8 : LmOK h u cf := by
            rw [show x = 0 by have := hI.1; omega] at hI
            exact hI.stop
          show MWL _ _ _ _ _ _ _ _ _ _ _ _ _ _ _ _ _ _ (cf * 1) _ _
          rw [Int.mul_one]
          exact ⟨_, _, _, _, _, _, _, _, _, _, _, _, ⟨hK, hP, hD⟩, hrt, hbt, hE, hpe, hC, h8⟩
        exact L54 _ 0 _ _ _ hw hS (lv_sub hl [1, 2, 3, 0] rfl) ⟨by omega, by omega, Or.inr rfl⟩ (Nat.lt_succ_self _)
      · refine lv_aload_n hx hb d_Mo_row_15 rfl (lv_at hl 0 rfl) ?_
        refine va_get (D := D) (ci := 3) (v := .ref li) (C := R_3) (T := T_3) (N := 11) hx hb hts in_3 hown hK hP 0 rfl rfl 6 (by decide) (hts _ tw_398) (fun _ h9 => h9) rfl d_Mo_row_16 ?_
        refine lv_aload_n hx hb d_Mo_row_19 rfl (lv_at hl 0 rfl) ?_
        refine va_get (D := D) (ci := 3) (v := .int (iz u)) (C := R_3) (T := T_3) (N := 11) hx hb hts in_3 hown hK hP 0 rfl rfl 7 (by decide) (hts _ tw_399) (fun _ h9 => h9) rfl d_Mo_row_20 ?_
        refine lv_lload hx hb d_Mo_row_23 (lv_at hl 3 rfl) ?_
        refine lv_ldc2 (v := (1000000000 : Int64)) hx hb hown (hts _ tw_494) d_Mo_row_25 ?_
        refine z_topl (y := lz (1000000000)) (by decide) ?_
        refine z_lrem hx hb d_Mo_row_28 ⟨by omega, by omega⟩ ⟨by omega, by omega⟩ ?_
        refine z_last hx hb hK hP hD hS 4 1 rfl rfl (by omega) (by omega) (by decide) d_Mo_row_29 (fun H locs hP hD hS => ?_)
        have hP : va_P D vwCl [(mo, .inr (3, [.ref rs, .int (iz len), .int (iz co), .ref ex, .int (iz bi), .int (iz le), .ref li, .int (iz u), .ref bo, .int (iz bl), .ref cu])), (rs, .inl (cB, 4096, .inl (az fr))), (ex, .inr (4, [.ref xd, .int (iz ne), .int (iz pe)])), (xd, .inl (cB, 1300, .inl (az fe))), (li, .inl (cL, 160, .inr (.inl (azl (up h u (x % 1000000000)))))), (bo, .inl (cB, 4096, .inl (az fb))), (cu, .inr (4, [.ref cd, .int (iz nc), .int (iz pp)])), (cd, .inl (cB, 1300, .inl (az fc)))] H := hP
        have hD : va_D (AM mo rs ex xd li bo cu cd) [(mo, .inr (3, [.ref rs, .int (iz len), .int (iz co), .ref ex, .int (iz bi), .int (iz le), .ref li, .int (iz u), .ref bo, .int (iz bl), .ref cu])), (rs, .inl (cB, 4096, .inl (az fr))), (ex, .inr (4, [.ref xd, .int (iz ne), .int (iz pe)])), (xd, .inl (cB, 1300, .inl (az fe))), (li, .inl (cL, 160, .inr (.inl (azl (up h u (x % 1000000000)))))), (bo, .inl (cB, 4096, .inl (az fb))), (cu, .inr (4, [.ref cd, .int (iz nc), .int (iz pp)])), (cd, .inl (cB, 1300, .inl (az fc)))] := hD
        refine lv_aload_n hx hb d_Mo_row_30 rfl (lv_at hl 0 rfl) ?_
        refine lv_dup hx hb d_Mo_row_31 rfl ?_
        refine va_get (D := D) (ci := 3) (v := .int (iz u)) (C := R_3) (T := T_3) (N := 11) hx hb hts in_3 hown hK hP 0 rfl rfl 7 (by decide) (hts _ tw_399) (fun _ h9 => h9) rfl d_Mo_row_32 ?_
        refine lv_iconst (v := iz 1) hx hb d_Mo_row_35 rfl ?_
        refine z_iadd hx hb d_Mo_row_36 ?_
        refine va_put (D := D) (ci := 3) (v := .int (iz (u + 1))) (ty := .int) (C := R_3) (T := T_3) (N := 11) hx hb hts in_3 ty_3 tyok_3 nm_3 hown hK hP hD hS 0 rfl rfl 7 (by decide) (hts _ tw_399) (fun _ h9 => h9) rfl (by decide +kernel) rfl rfl (Nat.le_of_ble_eq_true rfl) d_Mo_row_37 (fun H locs hP hD hS => ?_)
        have hP : va_P D vwCl [(mo, .inr (3, [.ref rs, .int (iz len), .int (iz co), .ref ex, .int (iz bi), .int (iz le), .ref li, .int (iz (u + 1)), .ref bo, .int (iz bl), .ref cu])), (rs, .inl (cB, 4096, .inl (az fr))), (ex, .inr (4, [.ref xd, .int (iz ne), .int (iz pe)])), (xd, .inl (cB, 1300, .inl (az fe))), (li, .inl (cL, 160, .inr (.inl (azl (up h u (x % 1000000000)))))), (bo, .inl (cB, 4096, .inl (az fb))), (cu, .inr (4, [.ref cd, .int (iz nc), .int (iz pp)])), (cd, .inl (cB, 1300, .inl (az fc)))] H := hP
        have hD : va_D (AM mo rs ex xd li bo cu cd) [(mo, .inr (3, [.ref rs, .int (iz len), .int (iz co), .ref ex, .int (iz bi), .int (iz le), .ref li, .int (iz (u + 1)), .ref bo, .int (iz bl), .ref cu])), (rs, .inl (cB, 4096, .inl (az fr))), (ex, .inr (4, [.ref xd, .int (iz ne), .int (iz pe)])), (xd, .inl (cB, 1300, .inl (az fe))), (li, .inl (cL, 160, .inr (.inl (azl (up h u (x % 1000000000)))))), (bo, .inl (cB, 4096, .inl (az fb))), (cu, .inr (4, [.ref cd, .int (iz nc), .int (iz pp)])), (cd, .inl (cB, 1300, .inl (az fc)))] := hD
        refine lv_lload hx hb d_Mo_row_40 (lv_at hl 3 rfl) ?_
        refine lv_ldc2 (v := (1000000000 : Int64)) hx hb hown (hts _ tw_494) d_Mo_row_42 ?_
        refine z_topl (y := lz (1000000000)) (by decide) ?_
        refine z_ldiv hx hb d_Mo_row_45 ⟨by omega, by omega⟩ ⟨by omega, by omega⟩ ?_
        refine lv_lstore hx hb d_Mo_row_46 hl (by decide) rfl (fun ls hl => ?_)
        have hl : lv_has ls 9 [(5, .long (lz (x / 1000000000))), (0, .ref mo), (3, .int (iz q)), (4, .ref ex)] := hl
        refine lv_goto (tgt := 8) hx hb d_Mo_row_48 rfl ?_
        exact ih8 (up h u (x % 1000000000)) (u + 1) (x / 1000000000) _ _ _ hP hD hS (lv_sub hl [1, 2, 3, 0] rfl) (hI.step (by omega)) (by omega)
  refine lv_aload_n hx hb d_Mo_row_0 rfl (lv_at hl 0 rfl) ?_
  refine lv_iconst (v := iz 0) hx hb d_Mo_row_1 rfl ?_
  refine va_put (D := D) (ci := 3) (v := .int (iz 0)) (ty := .int) (C := R_3) (T := T_3) (N := 11) hx hb hts in_3 ty_3 tyok_3 nm_3 hown hK hP hD hS 0 rfl rfl 7 (by decide) (hts _ tw_399) (fun _ h9 => h9) rfl (by decide +kernel) rfl rfl (Nat.le_of_ble_eq_true rfl) d_Mo_row_2 (fun H locs hP hD hS => ?_)
  have hP : va_P D vwCl [(mo, .inr (3, [.ref rs, .int (iz len), .int (iz co), .ref ex, .int (iz bi), .int (iz le), .ref li, .int (iz 0), .ref bo, .int (iz bl), .ref cu])), (rs, .inl (cB, 4096, .inl (az fr))), (ex, .inr (4, [.ref xd, .int (iz ne), .int (iz pe)])), (xd, .inl (cB, 1300, .inl (az fe))), (li, .inl (cL, 160, .inr (.inl (azl lm)))), (bo, .inl (cB, 4096, .inl (az fb))), (cu, .inr (4, [.ref cd, .int (iz nc), .int (iz pp)])), (cd, .inl (cB, 1300, .inl (az fc)))] H := hP
  have hD : va_D (AM mo rs ex xd li bo cu cd) [(mo, .inr (3, [.ref rs, .int (iz len), .int (iz co), .ref ex, .int (iz bi), .int (iz le), .ref li, .int (iz 0), .ref bo, .int (iz bl), .ref cu])), (rs, .inl (cB, 4096, .inl (az fr))), (ex, .inr (4, [.ref xd, .int (iz ne), .int (iz pe)])), (xd, .inl (cB, 1300, .inl (az fe))), (li, .inl (cL, 160, .inr (.inl (azl lm)))), (bo, .inl (cB, 4096, .inl (az fb))), (cu, .inr (4, [.ref cd, .int (iz nc), .int (iz pp)])), (cd, .inl (cB, 1300, .inl (az fc)))] := hD
  refine lv_lload_n hx hb d_Mo_row_5 rfl (lv_at hl 1 rfl) ?_
  refine lv_lstore hx hb d_Mo_row_6 hl (by decide) rfl (fun ls hl => ?_)
  have hl : lv_has ls 9 [(5, .long (lz cf)), (0, .ref mo), (1, .long (lz cf)), (3, .int (iz q)), (4, .ref ex)] := hl
  exact L8 _ lm 0 cf _ _ _ hP hD hS (lv_sub hl [1, 3, 4, 0] rfl) ⟨hcf.1, Or.inl ⟨rfl, hcf.2⟩, hlm, (by show 0 + cf * 1 = cf; omega)⟩ (Nat.lt_succ_self _)
end
section
/-! String constants: a text of bytes, coder 0 -/
def SStr (A : Nat → Prop) (sk sv : Nat) (bs : List Int) (U : State) (H : Heap) : Prop := va_O "java/lang/String" sk A U H ∧ va_OF "java/lang/String" "coder" "B" (.int (iz 0)) sk A U H ∧ va_OF "java/lang/String" "value" "[B" (.ref sv) sk A U H ∧ va_T .byte sv bs.length (fun j => .int (iz (bs.getD j 0))) A U H ∧ va_Z "java/lang/String" "COMPACT_STRINGS" "Z" (.int (iz 1)) A U H ∧ va_Zq "jdk/internal/util/Preconditions" "SIOOBE_FORMATTER" "Ljava/util/function/BiFunction;" A U H
theorem SStr.moved {A : Nat → Prop} {sk sv : Nat} {bs : List Int} {u U : State} {H : Heap} (hv : u.vm.Alike U.vm) (h : SStr A sk sv bs u H) : SStr A sk sv bs U H := ⟨va_O.moved hv h.1, va_OF.moved hv h.2.1, va_OF.moved hv h.2.2.1, va_T.moved hv h.2.2.2.1, va_Z.moved hv h.2.2.2.2.1, va_Zq.moved hv h.2.2.2.2.2⟩
theorem SStr.kept {A : Nat → Prop} {sk sv : Nat} {bs : List Int} {U : State} {H H1 : Heap} (h : SStr A sk sv bs U H) (hq : ∀ a : Nat, a < H.size → ¬ A a → H1[a]? = H[a]?) : SStr A sk sv bs U H1 := ⟨h.1.kept hq, h.2.1.kept hq, h.2.2.1.kept hq, h.2.2.2.1.kept hq, h.2.2.2.2.1.kept hq, h.2.2.2.2.2.kept hq⟩
theorem Zq_val {C n d : String} {A : Nat → Prop} {U : State} {H : Heap} (h : va_Zq C n d A U H) : ∃ v, va_Z C n d v A U H ∧ (v = .null ∨ ∃ q, v = .ref q) := by
  rcases h with h | ⟨q, h⟩
  · exact ⟨_, h, Or.inl rfl⟩
  · exact ⟨_, h, Or.inr ⟨q, rfl⟩⟩
theorem and255 {a : Int} (h : 0 ≤ a ∧ a < 128) : iz a &&& iz 255 = iz a := by
  obtain ⟨n, rfl⟩ := Int.eq_ofNat_of_zero_le h.1
  rw [iz_nat, pk_andN (by omega) 8 (by decide), show n % 2 ^ 8 = n by omega]
theorem nar_char {a : Int} (h : 0 ≤ a ∧ a < 128) : narrow .char (.int (iz a)) = .int (iz a) := by
  obtain ⟨n, rfl⟩ := Int.eq_ofNat_of_zero_le h.1
  rw [iz_nat]
  exact (pk_charN (by omega)).1
theorem d_Pre_checkN_0 : decode b_jdk_internal_util_Preconditions_checkIndex 0 = .ok (.iload_n 0, 1) := by decide +kernel
theorem d_Pre_checkN_1 : decode b_jdk_internal_util_Preconditions_checkIndex 1 = .ok (.ifCond .lt (8), 3) := by decide +kernel
theorem d_Pre_checkN_4 : decode b_jdk_internal_util_Preconditions_checkIndex 4 = .ok (.iload_n 0, 1) := by decide +kernel
theorem d_Pre_checkN_5 : decode b_jdk_internal_util_Preconditions_checkIndex 5 = .ok (.iload_n 1, 1) := by decide +kernel
theorem d_Pre_checkN_6 : decode b_jdk_internal_util_Preconditions_checkIndex 6 = .ok (.if_icmp .lt (10), 3) := by decide +kernel
theorem d_Pre_checkN_16 : decode b_jdk_internal_util_Preconditions_checkIndex 16 = .ok (.iload_n 0, 1) := by decide +kernel
theorem d_Pre_checkN_17 : decode b_jdk_internal_util_Preconditions_checkIndex 17 = .ok (.ireturn, 1) := by decide +kernel
set_option maxHeartbeats 4000000 in
set_option maxRecDepth 100000 in
theorem c_Pre_checkN (l : Launch) (A : Nat → Prop) (P : State → Heap → Prop) (hP : zSa P) (i n : Int) (hi : 0 ≤ i ∧ i < n ∧ n ≤ 2147483647) : Ct l y_jdk_internal_util_Preconditions_checkIndex (ws_jdk_internal_util_Preconditions_checkIndex) 0 A [.int (iz i), .int (iz n), .null] (P) (zR (some (.int (iz i))) P) := by
  refine z_body (zSt_of hP) (by decide +kernel) rfl (Nat.le_of_ble_eq_true rfl) ?_
  intro p e s m args below meth c ls hx hb hml hr hlk hts0 hown hpre0 H locs hpre hS hl
  have hts : ∀ w ∈ TBL, w.before args s = true := fun w hw => hts0 w (List.mem_cons_of_mem _ hw)
  have hl : lv_has ls 3 [(0, .int (iz i)), (1, .int (iz n)), (2, .null)] := hl
  have hw := hpre
  refine lv_iload_n hx hb d_Pre_checkN_0 rfl (lv_at hl 0 rfl) ?_
  refine z_if_lt (tgt := 9) hx hb d_Pre_checkN_1 rfl ⟨by omega, by omega⟩ (fun hc1 => ?_) (fun hc1 => ?_)
  · exfalso
    omega
  · refine lv_iload_n hx hb d_Pre_checkN_4 rfl (lv_at hl 0 rfl) ?_
    refine lv_iload_n hx hb d_Pre_checkN_5 rfl (lv_at hl 1 rfl) ?_
    refine z_icmp_lt (tgt := 16) hx hb d_Pre_checkN_6 rfl ⟨by omega, by omega⟩ ⟨by omega, by omega⟩ (fun hc6 => ?_) (fun hc6 => ?_)
    · refine lv_iload_n hx hb d_Pre_checkN_16 rfl (lv_at hl 0 rfl) ?_
      exact z_iret hx hb hr hlk hS (zR_st (zSt_of hP)) ⟨rfl, hw⟩ d_Pre_checkN_17
    · exfalso
      omega
theorem d_Pre_checkR_0 : decode b_jdk_internal_util_Preconditions_checkIndex 0 = .ok (.iload_n 0, 1) := by decide +kernel
theorem d_Pre_checkR_1 : decode b_jdk_internal_util_Preconditions_checkIndex 1 = .ok (.ifCond .lt (8), 3) := by decide +kernel
theorem d_Pre_checkR_4 : decode b_jdk_internal_util_Preconditions_checkIndex 4 = .ok (.iload_n 0, 1) := by decide +kernel
theorem d_Pre_checkR_5 : decode b_jdk_internal_util_Preconditions_checkIndex 5 = .ok (.iload_n 1, 1) := by decide +kernel
theorem d_Pre_checkR_6 : decode b_jdk_internal_util_Preconditions_checkIndex 6 = .ok (.if_icmp .lt (10), 3) := by decide +kernel
theorem d_Pre_checkR_16 : decode b_jdk_internal_util_Preconditions_checkIndex 16 = .ok (.iload_n 0, 1) := by decide +kernel
theorem d_Pre_checkR_17 : decode b_jdk_internal_util_Preconditions_checkIndex 17 = .ok (.ireturn, 1) := by decide +kernel
set_option maxHeartbeats 4000000 in
set_option maxRecDepth 100000 in
theorem c_Pre_checkR (l : Launch) (A : Nat → Prop) (P : State → Heap → Prop) (hP : zSa P) (i n : Int) (fq : Nat) (hi : 0 ≤ i ∧ i < n ∧ n ≤ 2147483647) : Ct l y_jdk_internal_util_Preconditions_checkIndex (ws_jdk_internal_util_Preconditions_checkIndex) 0 A [.int (iz i), .int (iz n), .ref fq] (P) (zR (some (.int (iz i))) P) := by
  refine z_body (zSt_of hP) (by decide +kernel) rfl (Nat.le_of_ble_eq_true rfl) ?_
  intro p e s m args below meth c ls hx hb hml hr hlk hts0 hown hpre0 H locs hpre hS hl
  have hts : ∀ w ∈ TBL, w.before args s = true := fun w hw => hts0 w (List.mem_cons_of_mem _ hw)
  have hl : lv_has ls 3 [(0, .int (iz i)), (1, .int (iz n)), (2, .ref fq)] := hl
  have hw := hpre
  refine lv_iload_n hx hb d_Pre_checkR_0 rfl (lv_at hl 0 rfl) ?_
  refine z_if_lt (tgt := 9) hx hb d_Pre_checkR_1 rfl ⟨by omega, by omega⟩ (fun hc1 => ?_) (fun hc1 => ?_)
  · exfalso
    omega
  · refine lv_iload_n hx hb d_Pre_checkR_4 rfl (lv_at hl 0 rfl) ?_
    refine lv_iload_n hx hb d_Pre_checkR_5 rfl (lv_at hl 1 rfl) ?_
    refine z_icmp_lt (tgt := 16) hx hb d_Pre_checkR_6 rfl ⟨by omega, by omega⟩ ⟨by omega, by omega⟩ (fun hc6 => ?_) (fun hc6 => ?_)
    · refine lv_iload_n hx hb d_Pre_checkR_16 rfl (lv_at hl 0 rfl) ?_
      exact z_iret hx hb hr hlk hS (zR_st (zSt_of hP)) ⟨rfl, hw⟩ d_Pre_checkR_17
    · exfalso
      omega
theorem c_Pre_check (l : Launch) (A : Nat → Prop) (P : State → Heap → Prop) (hP : zSa P) (i n : Int) (fv : Value) (hfv : fv = .null ∨ ∃ q, fv = .ref q) (hi : 0 ≤ i ∧ i < n ∧ n ≤ 2147483647) : Ct l y_jdk_internal_util_Preconditions_checkIndex (ws_jdk_internal_util_Preconditions_checkIndex) 0 A [.int (iz i), .int (iz n), fv] P (zR (some (.int (iz i))) P) := by
  rcases hfv with rfl | ⟨q, rfl⟩
  · exact c_Pre_checkN l A P hP i n hi
  · exact c_Pre_checkR l A P hP i n q hi
theorem d_St_coder_0 : decode b_St_coder 0 = .ok (.getstatic 38, 3) := by decide +kernel
theorem d_St_coder_3 : decode b_St_coder 3 = .ok (.ifCond .eq (10), 3) := by decide +kernel
theorem d_St_coder_6 : decode b_St_coder 6 = .ok (.aload_n 0, 1) := by decide +kernel
theorem d_St_coder_7 : decode b_St_coder 7 = .ok (.getfield 15, 3) := by decide +kernel
theorem d_St_coder_10 : decode b_St_coder 10 = .ok (.goto (4), 3) := by decide +kernel
theorem d_St_coder_14 : decode b_St_coder 14 = .ok (.ireturn, 1) := by decide +kernel
set_option maxHeartbeats 4000000 in
set_option maxRecDepth 100000 in
theorem c_St_coder (l : Launch) (A : Nat → Prop) (P : State → Heap → Prop) (hP : zSa P) (sk sv : Nat) (bs : List Int) (hPS : ∀ U H, P U H → SStr A sk sv bs U H) (hbs : bs.length ≤ 100 ∧ ∀ ch ∈ bs, 0 ≤ ch ∧ ch < 128)  : Ct l y_St_coder (ws_St_coder) 0 A [.ref sk] (P) (zR (some (.int (iz 0))) P) := by
  refine z_body (zSt_of hP) (by decide +kernel) rfl (Nat.le_of_ble_eq_true rfl) ?_
  intro p e s m args below meth c ls hx hb hml hr hlk hts0 hown hpre0 H locs hpre hS hl
  have hts : ∀ w ∈ TBL, w.before args s = true := fun w hw => hts0 w (List.mem_cons_of_mem _ hw)
  have hl : lv_has ls 1 [(0, .ref sk)] := hl
  have hw := hpre
  have hss := hPS s s.heap hpre0
  obtain ⟨hO, hco, hva, hvt, hcs, hzq⟩ := hss
  have hbl := hbs.1
  refine va_gets hx hb hcs hS hown (hts _ tw_185) (fun _ h9 => h9) d_St_coder_0 ?_
  refine z_if_eq (tgt := 13) hx hb d_St_coder_3 rfl ⟨by omega, by omega⟩ (fun hc3 => ?_) (fun hc3 => ?_)
  · exfalso
    omega
  · refine lv_aload_n hx hb d_St_coder_6 rfl (lv_at hl 0 rfl) ?_
    refine vk_getf hx hb hco hS hown (hts _ tw_535) (fun _ h9 => h9) d_St_coder_7 ?_
    refine lv_goto (tgt := 14) hx hb d_St_coder_10 rfl ?_
    exact z_zret hx hb hr rfl hlk hS (zR_st (zSt_of hP)) ⟨rfl, hw⟩ d_St_coder_14
theorem d_St_isLatin1_0 : decode b_St_isLatin1 0 = .ok (.getstatic 38, 3) := by decide +kernel
theorem d_St_isLatin1_3 : decode b_St_isLatin1 3 = .ok (.ifCond .eq (14), 3) := by decide +kernel
theorem d_St_isLatin1_6 : decode b_St_isLatin1 6 = .ok (.aload_n 0, 1) := by decide +kernel
theorem d_St_isLatin1_7 : decode b_St_isLatin1 7 = .ok (.getfield 15, 3) := by decide +kernel
theorem d_St_isLatin1_10 : decode b_St_isLatin1 10 = .ok (.ifCond .ne (7), 3) := by decide +kernel
theorem d_St_isLatin1_13 : decode b_St_isLatin1 13 = .ok (.iconst 1, 1) := by decide +kernel
theorem d_St_isLatin1_14 : decode b_St_isLatin1 14 = .ok (.goto (4), 3) := by decide +kernel
theorem d_St_isLatin1_18 : decode b_St_isLatin1 18 = .ok (.ireturn, 1) := by decide +kernel
set_option maxHeartbeats 4000000 in
set_option maxRecDepth 100000 in
theorem c_St_isLatin1 (l : Launch) (A : Nat → Prop) (P : State → Heap → Prop) (hP : zSa P) (sk sv : Nat) (bs : List Int) (hPS : ∀ U H, P U H → SStr A sk sv bs U H) (hbs : bs.length ≤ 100 ∧ ∀ ch ∈ bs, 0 ≤ ch ∧ ch < 128)  : Ct l y_St_isLatin1 (ws_St_isLatin1) 0 A [.ref sk] (P) (zR (some (.int (iz 1))) P) := by
  refine z_body (zSt_of hP) (by decide +kernel) rfl (Nat.le_of_ble_eq_true rfl) ?_
  intro p e s m args below meth c ls hx hb hml hr hlk hts0 hown hpre0 H locs hpre hS hl
  have hts : ∀ w ∈ TBL, w.before args s = true := fun w hw => hts0 w (List.mem_cons_of_mem _ hw)
  have hl : lv_has ls 1 [(0, .ref sk)] := hl
  have hw := hpre
  have hss := hPS s s.heap hpre0
  obtain ⟨hO, hco, hva, hvt, hcs, hzq⟩ := hss
  have hbl := hbs.1
  refine va_gets hx hb hcs hS hown (hts _ tw_185) (fun _ h9 => h9) d_St_isLatin1_0 ?_
  refine z_if_eq (tgt := 17) hx hb d_St_isLatin1_3 rfl ⟨by omega, by omega⟩ (fun hc3 => ?_) (fun hc3 => ?_)
  · exfalso
    omega
  · refine lv_aload_n hx hb d_St_isLatin1_6 rfl (lv_at hl 0 rfl) ?_
    refine vk_getf hx hb hco hS hown (hts _ tw_535) (fun _ h9 => h9) d_St_isLatin1_7 ?_
    refine z_if_ne (tgt := 17) hx hb d_St_isLatin1_10 rfl ⟨by omega, by omega⟩ (fun hc10 => ?_) (fun hc10 => ?_)
    · exfalso
      omega
    · refine lv_iconst (v := iz 1) hx hb d_St_isLatin1_13 rfl ?_
      refine lv_goto (tgt := 18) hx hb d_St_isLatin1_14 rfl ?_
      exact z_zret hx hb hr rfl hlk hS (zR_st (zSt_of hP)) ⟨rfl, hw⟩ d_St_isLatin1_18
theorem d_St_length_0 : decode b_St_length 0 = .ok (.aload_n 0, 1) := by decide +kernel
theorem d_St_length_1 : decode b_St_length 1 = .ok (.getfield 9, 3) := by decide +kernel
theorem d_St_length_4 : decode b_St_length 4 = .ok (.arraylength, 1) := by decide +kernel
theorem d_St_length_5 : decode b_St_length 5 = .ok (.aload_n 0, 1) := by decide +kernel
theorem d_St_length_6 : decode b_St_length 6 = .ok (.invokevirtual 335, 3) := by decide +kernel
theorem d_St_length_9 : decode b_St_length 9 = .ok (.ishr, 1) := by decide +kernel
theorem d_St_length_10 : decode b_St_length 10 = .ok (.ireturn, 1) := by decide +kernel
set_option maxHeartbeats 4000000 in
set_option maxRecDepth 100000 in
theorem c_St_length (l : Launch) (A : Nat → Prop) (P : State → Heap → Prop) (hP : zSa P) (sk sv : Nat) (bs : List Int) (hPS : ∀ U H, P U H → SStr A sk sv bs U H) (hbs : bs.length ≤ 100 ∧ ∀ ch ∈ bs, 0 ≤ ch ∧ ch < 128)  : Ct l y_St_length (ws_St_length) 1 A [.ref sk] (P) (zR (some (.int (iz (bs.length : Int)))) P) := by
  refine z_body (zSt_of hP) (by decide +kernel) rfl (Nat.le_of_ble_eq_true rfl) ?_
  intro p e s m args below meth c ls hx hb hml hr hlk hts0 hown hpre0 H locs hpre hS hl
  have hts : ∀ w ∈ TBL, w.before args s = true := fun w hw => hts0 w (List.mem_cons_of_mem _ hw)
  have hl : lv_has ls 1 [(0, .ref sk)] := hl
  have hw := hpre
  have hss := hPS s s.heap hpre0
  obtain ⟨hO, hco, hva, hvt, hcs, hzq⟩ := hss
  have hbl := hbs.1
  refine lv_aload_n hx hb d_St_length_0 rfl (lv_at hl 0 rfl) ?_
  refine vk_getf hx hb hva hS hown (hts _ tw_534) (fun _ h9 => h9) d_St_length_1 ?_
  refine va_tlen (v := iz (bs.length : Int)) hx hb hvt hS (Int32.ofInt_eq_ofNat).symm d_St_length_4 ?_
  refine lv_aload_n hx hb d_St_length_5 rfl (lv_at hl 0 rfl) ?_
  have hct := c_St_coder l A P hP sk sv bs hPS hbs
  refine z_go (va_runV (As := []) (rest := [.int (iz (bs.length : Int))]) ⟨hx, hb, hml, hown, hts⟩ hct.2 (z_cwV hts w_St_coder tw_181 (by decide)) (z_preV hct.1 (by obtain ⟨cell, h1, h2, h3, -⟩ := hO.kept hS.2.1; exact ⟨cell, h1, h2, h3⟩) hw) rfl rfl hl.1 rfl (lv_room (Nat.le_of_ble_eq_true rfl)) d_St_length_6 ⟨Nat.zero_le _, Nat.zero_le _⟩) hS (fun _ h9 => h9) (fun v9 t9 H locs hv9 hp9 hz9 hk9 hS => ?_)
  obtain ⟨rfl, hw⟩ := hp9
  have hw := hP _ s _ hv9.symm hw
  refine W.eq (g2 := F0 m 9 ls [.int (iz 0), .int (iz (bs.length : Int))]) rfl ?_
  refine lv_ishr hx hb d_St_length_9 ?_
  refine z_topi (y := iz (bs.length : Int)) (by exact sb_shr0 _) ?_
  exact z_iret hx hb hr hlk hS (zR_st (zSt_of hP)) ⟨rfl, hw⟩ d_St_length_10
theorem d_St_check_0 : decode b_St_checkIndex 0 = .ok (.iload_n 0, 1) := by decide +kernel
theorem d_St_check_1 : decode b_St_checkIndex 1 = .ok (.iload_n 1, 1) := by decide +kernel
theorem d_St_check_2 : decode b_St_checkIndex 2 = .ok (.getstatic 1053, 3) := by decide +kernel
theorem d_St_check_5 : decode b_St_checkIndex 5 = .ok (.invokestatic 1059, 3) := by decide +kernel
theorem d_St_check_8 : decode b_St_checkIndex 8 = .ok (.pop, 1) := by decide +kernel
theorem d_St_check_9 : decode b_St_checkIndex 9 = .ok (.return_, 1) := by decide +kernel
set_option maxHeartbeats 4000000 in
set_option maxRecDepth 100000 in
theorem c_St_check (l : Launch) (A : Nat → Prop) (P : State → Heap → Prop) (hP : zSa P) (hPZ : ∀ U H, P U H → va_Zq "jdk/internal/util/Preconditions" "SIOOBE_FORMATTER" "Ljava/util/function/BiFunction;" A U H) (i n : Int) (hi : 0 ≤ i ∧ i < n ∧ n ≤ 2147483647) : Ct l y_St_checkIndex (ws_St_checkIndex) 1 A [.int (iz i), .int (iz n)] (P) (zR none P) := by
  refine z_body (zSt_of hP) (by decide +kernel) rfl (Nat.le_of_ble_eq_true rfl) ?_
  intro p e s m args below meth c ls hx hb hml hr hlk hts0 hown hpre0 H locs hpre hS hl
  have hts : ∀ w ∈ TBL, w.before args s = true := fun w hw => hts0 w (List.mem_cons_of_mem _ hw)
  have hl : lv_has ls 2 [(0, .int (iz i)), (1, .int (iz n))] := hl
  have hw := hpre
  obtain ⟨fv, hfz, hfv⟩ := Zq_val (hPZ s s.heap hpre0)
  refine lv_iload_n hx hb d_St_check_0 rfl (lv_at hl 0 rfl) ?_
  refine lv_iload_n hx hb d_St_check_1 rfl (lv_at hl 1 rfl) ?_
  refine va_gets hx hb hfz hS hown (hts _ tw_201) (fun _ h9 => h9) d_St_check_2 ?_
  have hct := c_Pre_check l A P hP i n fv hfv hi
  refine z_go (va_runS (As := [.int (iz i), .int (iz n), fv]) (rest := []) ⟨hx, hb, hml, hown, hts⟩ hct.2 (z_cwS hts w_jdk_internal_util_Preconditions_checkIndex tw_203 (by decide)) (z_preS hct.1 hw) rfl rfl hl.1 rfl (lv_room (Nat.le_of_ble_eq_true rfl)) d_St_check_5 ⟨Nat.zero_le _, Nat.zero_le _⟩) hS (fun _ h9 => h9) (fun v9 t9 H locs hv9 hp9 hz9 hk9 hS => ?_)
  obtain ⟨rfl, hw⟩ := hp9
  have hw := hP _ s _ hv9.symm hw
  refine W.eq (g2 := F0 m 8 ls [.int (iz i)]) rfl ?_
  refine lv_pop hx hb d_St_check_8 rfl ?_
  exact z_vret hx hb hr hlk hS (zR_st (zSt_of hP)) ⟨rfl, hw⟩ d_St_check_9
theorem d_Sl_charAt_0 : decode b_Sl_charAt 0 = .ok (.iload_n 1, 1) := by decide +kernel
theorem d_Sl_charAt_1 : decode b_Sl_charAt 1 = .ok (.aload_n 0, 1) := by decide +kernel
theorem d_Sl_charAt_2 : decode b_Sl_charAt 2 = .ok (.arraylength, 1) := by decide +kernel
theorem d_Sl_charAt_3 : decode b_Sl_charAt 3 = .ok (.invokestatic 9, 3) := by decide +kernel
theorem d_Sl_charAt_6 : decode b_Sl_charAt 6 = .ok (.aload_n 0, 1) := by decide +kernel
theorem d_Sl_charAt_7 : decode b_Sl_charAt 7 = .ok (.iload_n 1, 1) := by decide +kernel
theorem d_Sl_charAt_8 : decode b_Sl_charAt 8 = .ok (.baload, 1) := by decide +kernel
theorem d_Sl_charAt_9 : decode b_Sl_charAt 9 = .ok (.sipush (255), 3) := by decide +kernel
theorem d_Sl_charAt_12 : decode b_Sl_charAt 12 = .ok (.iand, 1) := by decide +kernel
theorem d_Sl_charAt_13 : decode b_Sl_charAt 13 = .ok (.i2c, 1) := by decide +kernel
theorem d_Sl_charAt_14 : decode b_Sl_charAt 14 = .ok (.ireturn, 1) := by decide +kernel
set_option maxHeartbeats 4000000 in
set_option maxRecDepth 100000 in
theorem c_Sl_charAt (l : Launch) (A : Nat → Prop) (P : State → Heap → Prop) (hP : zSa P) (sk sv : Nat) (bs : List Int) (hPS : ∀ U H, P U H → SStr A sk sv bs U H) (hbs : bs.length ≤ 100 ∧ ∀ ch ∈ bs, 0 ≤ ch ∧ ch < 128) (i : Int) (hi : 0 ≤ i ∧ i < (bs.length : Int)) : Ct l y_Sl_charAt (ws_Sl_charAt) 2 A [.ref sv, .int (iz i)] (P) (zR (some (.int (iz (bs.getD i.toNat 0)))) P) := by
  refine z_body (zSt_of hP) (by decide +kernel) rfl (Nat.le_of_ble_eq_true rfl) ?_
  intro p e s m args below meth c ls hx hb hml hr hlk hts0 hown hpre0 H locs hpre hS hl
  have hts : ∀ w ∈ TBL, w.before args s = true := fun w hw => hts0 w (List.mem_cons_of_mem _ hw)
  have hl : lv_has ls 2 [(0, .ref sv), (1, .int (iz i))] := hl
  have hw := hpre
  have hss := hPS s s.heap hpre0
  obtain ⟨hO, hco, hva, hvt, hcs, hzq⟩ := hss
  have hbl := hbs.1
  refine lv_iload_n hx hb d_Sl_charAt_0 rfl (lv_at hl 1 rfl) ?_
  refine lv_aload_n hx hb d_Sl_charAt_1 rfl (lv_at hl 0 rfl) ?_
  refine va_tlen (v := iz (bs.length : Int)) hx hb hvt hS (Int32.ofInt_eq_ofNat).symm d_Sl_charAt_2 ?_
  have hct := c_St_check l A P hP (fun U H h => (hPS U H h).2.2.2.2.2) i (bs.length : Int) ⟨hi.1, hi.2, by omega⟩
  refine z_go (va_runS (As := [.int (iz i), .int (iz (bs.length : Int))]) (rest := []) ⟨hx, hb, hml, hown, hts⟩ hct.2 (z_cwS hts w_St_checkIndex tw_198 (by decide)) (z_preS hct.1 hw) rfl rfl hl.1 rfl (lv_room (Nat.le_of_ble_eq_true rfl)) d_Sl_charAt_3 ⟨Nat.zero_le _, Nat.zero_le _⟩) hS (fun _ h9 => h9) (fun v9 t9 H locs hv9 hp9 hz9 hk9 hS => ?_)
  obtain ⟨rfl, hw⟩ := hp9
  have hw := hP _ s _ hv9.symm hw
  refine W.eq (g2 := F0 m 6 ls []) rfl ?_
  refine lv_aload_n hx hb d_Sl_charAt_6 rfl (lv_at hl 0 rfl) ?_
  refine lv_iload_n hx hb d_Sl_charAt_7 rfl (lv_at hl 1 rfl) ?_
  have hgr := tx_getD hbs.2 i.toNat
  refine va_tb (v := .int (iz (bs.getD i.toNat 0))) hx hb hvt hS (iz_in (by omega) (by omega) (by omega)) (by rw [iz_cl (by omega) (by omega)]) d_Sl_charAt_8 ?_
  refine lv_sipush (v := iz 255) hx hb d_Sl_charAt_9 (by decide) ?_
  refine lv_iand hx hb d_Sl_charAt_12 ?_
  refine z_topi (y := iz (bs.getD i.toNat 0)) (and255 hgr) ?_
  refine z_i2c hx hb d_Sl_charAt_13 ⟨by omega, by omega⟩ ?_
  exact z_zret hx hb hr (nar_char hgr) hlk hS (zR_st (zSt_of hP)) ⟨rfl, hw⟩ d_Sl_charAt_14
theorem d_St_charAt_0 : decode b_St_charAt 0 = .ok (.aload_n 0, 1) := by decide +kernel
theorem d_St_charAt_1 : decode b_St_charAt 1 = .ok (.invokevirtual 492, 3) := by decide +kernel
theorem d_St_charAt_4 : decode b_St_charAt 4 = .ok (.ifCond .eq (12), 3) := by decide +kernel
theorem d_St_charAt_7 : decode b_St_charAt 7 = .ok (.aload_n 0, 1) := by decide +kernel
theorem d_St_charAt_8 : decode b_St_charAt 8 = .ok (.getfield 9, 3) := by decide +kernel
theorem d_St_charAt_11 : decode b_St_charAt 11 = .ok (.iload_n 1, 1) := by decide +kernel
theorem d_St_charAt_12 : decode b_St_charAt 12 = .ok (.invokestatic 495, 3) := by decide +kernel
theorem d_St_charAt_15 : decode b_St_charAt 15 = .ok (.ireturn, 1) := by decide +kernel
set_option maxHeartbeats 4000000 in
set_option maxRecDepth 100000 in
theorem c_St_charAt (l : Launch) (A : Nat → Prop) (P : State → Heap → Prop) (hP : zSa P) (sk sv : Nat) (bs : List Int) (hPS : ∀ U H, P U H → SStr A sk sv bs U H) (hbs : bs.length ≤ 100 ∧ ∀ ch ∈ bs, 0 ≤ ch ∧ ch < 128) (i : Int) (hi : 0 ≤ i ∧ i < (bs.length : Int)) : Ct l y_St_charAt (ws_St_charAt) 3 A [.ref sk, .int (iz i)] (P) (zR (some (.int (iz (bs.getD i.toNat 0)))) P) := by
  refine z_body (zSt_of hP) (by decide +kernel) rfl (Nat.le_of_ble_eq_true rfl) ?_
  intro p e s m args below meth c ls hx hb hml hr hlk hts0 hown hpre0 H locs hpre hS hl
  have hts : ∀ w ∈ TBL, w.before args s = true := fun w hw => hts0 w (List.mem_cons_of_mem _ hw)
  have hl : lv_has ls 2 [(0, .ref sk), (1, .int (iz i))] := hl
  have hw := hpre
  have hss := hPS s s.heap hpre0
  obtain ⟨hO, hco, hva, hvt, hcs, hzq⟩ := hss
  have hbl := hbs.1
  refine lv_aload_n hx hb d_St_charAt_0 rfl (lv_at hl 0 rfl) ?_
  have hct := c_St_isLatin1 l A P hP sk sv bs hPS hbs
  refine z_go (va_runV (As := []) (rest := []) ⟨hx, hb, hml, hown, hts⟩ hct.2 (z_cwV hts w_St_isLatin1 tw_191 (by decide)) (z_preV hct.1 (by obtain ⟨cell, h1, h2, h3, -⟩ := hO.kept hS.2.1; exact ⟨cell, h1, h2, h3⟩) hw) rfl rfl hl.1 rfl (lv_room (Nat.le_of_ble_eq_true rfl)) d_St_charAt_1 ⟨Nat.zero_le _, Nat.zero_le _⟩) hS (fun _ h9 => h9) (fun v9 t9 H locs hv9 hp9 hz9 hk9 hS => ?_)
  obtain ⟨rfl, hw⟩ := hp9
  have hw := hP _ s _ hv9.symm hw
  refine W.eq (g2 := F0 m 4 ls [.int (iz 1)]) rfl ?_
  refine z_if_eq (tgt := 16) hx hb d_St_charAt_4 rfl ⟨by omega, by omega⟩ (fun hc4 => ?_) (fun hc4 => ?_)
  · exfalso
    omega
  · refine lv_aload_n hx hb d_St_charAt_7 rfl (lv_at hl 0 rfl) ?_
    refine vk_getf hx hb hva hS hown (hts _ tw_534) (fun _ h9 => h9) d_St_charAt_8 ?_
    refine lv_iload_n hx hb d_St_charAt_11 rfl (lv_at hl 1 rfl) ?_
    have hct := c_Sl_charAt l A P hP sk sv bs hPS hbs i hi
    refine z_go (va_runS (As := [.ref sv, .int (iz i)]) (rest := []) ⟨hx, hb, hml, hown, hts⟩ hct.2 (z_cwS hts w_Sl_charAt tw_195 (by decide)) (z_preS hct.1 hw) rfl rfl hl.1 rfl (lv_room (Nat.le_of_ble_eq_true rfl)) d_St_charAt_12 ⟨Nat.zero_le _, Nat.zero_le _⟩) hS (fun _ h9 => h9) (fun v9 t9 H locs hv9 hp9 hz9 hk9 hS => ?_)
    obtain ⟨rfl, hw⟩ := hp9
    have hw := hP _ s _ hv9.symm hw
    refine W.eq (g2 := F0 m 15 ls [.int (iz (bs.getD i.toNat 0))]) rfl ?_
    have hgr := tx_getD hbs.2 i.toNat
    exact z_zret hx hb hr (nar_char hgr) hlk hS (zR_st (zSt_of hP)) ⟨rfl, hw⟩ d_St_charAt_15
end
