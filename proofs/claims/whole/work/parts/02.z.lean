/-! ints and longs by whole numbers -/
def iz (k : Int) : Int32 := Int32.ofInt k
def lz (k : Int) : Int64 := Int64.ofInt k
abbrev iR (k : Int) : Prop := -2147483648 ≤ k ∧ k ≤ 2147483647
abbrev lR (k : Int) : Prop := -9223372036854775808 ≤ k ∧ k ≤ 9223372036854775807
theorem iz_toInt {k : Int} (h : iR k) : (iz k).toInt = k := Int32.toInt_ofInt_of_le (by omega) (by omega)
theorem lz_toInt {k : Int} (h : lR k) : (lz k).toInt = k := Int64.toInt_ofInt_of_le (by omega) (by omega)
theorem iz_of (x : Int32) : iz x.toInt = x := Int32.ofInt_toInt x
theorem lz_of (x : Int64) : lz x.toInt = x := Int64.ofInt_toInt x
theorem iz_R (x : Int32) : iR x.toInt := by
  have h1 := Int32.le_toInt x
  have h2 := Int32.toInt_lt x
  exact ⟨by omega, by omega⟩
theorem lz_R (x : Int64) : lR x.toInt := by
  have h1 := Int64.le_toInt x
  have h2 := Int64.toInt_lt x
  exact ⟨by omega, by omega⟩
theorem iz_add (a b : Int) : iz (a + b) = iz a + iz b := Int32.ofInt_add a b
theorem iz_sub (a b : Int) : iz (a - b) = iz a - iz b := Int32.ofInt_sub a b
theorem iz_mul (a b : Int) : iz (a * b) = iz a * iz b := Int32.ofInt_mul a b
theorem iz_neg (a : Int) : iz (-a) = -iz a := Int32.ofInt_neg a
theorem lz_add (a b : Int) : lz (a + b) = lz a + lz b := Int64.ofInt_add a b
theorem lz_sub (a b : Int) : lz (a - b) = lz a - lz b := Int64.ofInt_sub a b
theorem lz_mul (a b : Int) : lz (a * b) = lz a * lz b := Int64.ofInt_mul a b
theorem lz_neg (a : Int) : lz (-a) = -lz a := Int64.ofInt_neg a
theorem iz_lt {a b : Int} (ha : iR a) (hb : iR b) : iz a < iz b ↔ a < b := by rw [Int32.lt_iff_toInt_lt, iz_toInt ha, iz_toInt hb]
theorem iz_le {a b : Int} (ha : iR a) (hb : iR b) : iz a ≤ iz b ↔ a ≤ b := by rw [Int32.le_iff_toInt_le, iz_toInt ha, iz_toInt hb]
theorem iz_eq {a b : Int} (ha : iR a) (hb : iR b) : iz a = iz b ↔ a = b := ⟨fun h => by
  have h2 := congrArg Int32.toInt h
  rwa [iz_toInt ha, iz_toInt hb] at h2, fun h => by rw [h]⟩
theorem lz_lt {a b : Int} (ha : lR a) (hb : lR b) : lz a < lz b ↔ a < b := by rw [Int64.lt_iff_toInt_lt, lz_toInt ha, lz_toInt hb]
theorem lz_le {a b : Int} (ha : lR a) (hb : lR b) : lz a ≤ lz b ↔ a ≤ b := by rw [Int64.le_iff_toInt_le, lz_toInt ha, lz_toInt hb]
theorem lz_eq {a b : Int} (ha : lR a) (hb : lR b) : lz a = lz b ↔ a = b := ⟨fun h => by
  have h2 := congrArg Int64.toInt h
  rwa [lz_toInt ha, lz_toInt hb] at h2, fun h => by rw [h]⟩
theorem iz_0 : iz 0 = 0 := by decide
theorem lz_0 : lz 0 = 0 := by decide
theorem iz_cl {k : Int} (h0 : 0 ≤ k) (h : k ≤ 2147483647) : (iz k).toNatClampNeg = k.toNat := Int32.toNatClampNeg_ofInt_of_le (by omega) (by omega)
theorem iz_in {k : Int} {n : Nat} (h0 : 0 ≤ k) (h : k < (n : Int)) (hn : (n : Int) ≤ 2147483647) : vp_in (iz k) n := by
  rw [vp_in_iff, iz_toInt ⟨by omega, by omega⟩]
  exact ⟨h0, h⟩
theorem iz_nat (n : Nat) : iz (n : Int) = nI n := Int32.ofInt_eq_ofNat
theorem lz_nat (n : Nat) : lz (n : Int) = lN n := Int64.ofInt_eq_ofNat
theorem iz_div {a b : Int} (ha : 0 ≤ a ∧ a ≤ 2147483647) (hb : 0 < b ∧ b ≤ 2147483647) : iz a / iz b = iz (a / b) := by
  obtain ⟨n, rfl⟩ := Int.eq_ofNat_of_zero_le ha.1
  obtain ⟨k, rfl⟩ := Int.eq_ofNat_of_zero_le (show 0 ≤ b by omega)
  rw [iz_nat, iz_nat, pk_div (by omega) (by omega) (by omega), ← iz_nat]
  rfl
theorem iz_rem {a b : Int} (ha : 0 ≤ a ∧ a ≤ 2147483647) (hb : 0 < b ∧ b ≤ 2147483647) : iz a - iz a / iz b * iz b = iz (a % b) := by
  rw [iz_div ha hb, ← iz_mul, ← iz_sub, Int.emod_def, Int.mul_comm]
theorem lz_div {a b : Int} (ha : 0 ≤ a ∧ a ≤ 9223372036854775807) (hb : 0 < b ∧ b ≤ 9223372036854775807) : lz a / lz b = lz (a / b) := by
  obtain ⟨n, rfl⟩ := Int.eq_ofNat_of_zero_le ha.1
  obtain ⟨k, rfl⟩ := Int.eq_ofNat_of_zero_le (show 0 ≤ b by omega)
  rw [lz_nat, lz_nat, pk_lDiv (by omega) (by omega) (by omega), ← lz_nat]
  rfl
theorem lz_rem {a b : Int} (ha : 0 ≤ a ∧ a ≤ 9223372036854775807) (hb : 0 < b ∧ b ≤ 9223372036854775807) : lz a - lz a / lz b * lz b = lz (a % b) := by
  rw [lz_div ha hb, ← lz_mul, ← lz_sub, Int.emod_def, Int.mul_comm]
theorem iz_i2l {a : Int} (ha : iR a) : (iz a).toInt64 = lz a := Int64.toInt_inj.mp (by rw [Int32.toInt_toInt64, iz_toInt ha, lz_toInt ⟨by omega, by omega⟩])
theorem lz_l2i (a : Int) : (lz a).toInt32 = iz a := Int64.toInt32_ofInt
theorem iz_i2b {a : Int} (ha : -128 ≤ a ∧ a ≤ 127) : (iz a).toInt8.toInt32 = iz a := lg_i2b_small (by rw [iz_toInt ⟨by omega, by omega⟩]; omega) (by rw [iz_toInt ⟨by omega, by omega⟩]; omega)
theorem iz_i2c {a : Int} (ha : 0 ≤ a ∧ a ≤ 65535) : ((iz a).toUInt32 % 65536).toInt32 = iz a := lg_i2c_word (by rw [iz_toInt ⟨by omega, by omega⟩]; omega) (by rw [iz_toInt ⟨by omega, by omega⟩]; omega)
theorem z_sh : ∀ k : Nat, k < 64 → ((nI k).toInt64 &&& 63) = lN k := by decide +kernel
theorem z_shu : ∀ k : Nat, k < 64 → ((nI k).toInt64.toUInt64 &&& Int64.toUInt64 63) = UInt64.ofNat k := by decide +kernel
theorem z_smod : ∀ k : Nat, k < 64 → ((lN k).toBitVec.smod 64).toNat = k := by decide +kernel
theorem z_u64 : ∀ k : Nat, k < 64 → (UInt64.ofNat k).toNat = k := by decide +kernel
theorem lz_shl {a k : Int} (hk : 0 ≤ k ∧ k < 64) (h : -9223372036854775808 ≤ a * 2 ^ k.toNat ∧ a * 2 ^ k.toNat ≤ 9223372036854775807) (ha : lR a) : lz a <<< ((iz k).toInt64 &&& 63) = lz (a * 2 ^ k.toNat) := by
  obtain ⟨n, rfl⟩ := Int.eq_ofNat_of_zero_le hk.1
  have hn : n < 64 := by omega
  rw [Int.toNat_natCast] at h ⊢
  rw [iz_nat, z_sh n hn]
  refine Int64.toInt_inj.mp ?_
  rw [Jvm.Kit.i64_shl (lz a) (lN n) (z_smod n hn) (by rw [lz_toInt ha]; omega) (by rw [lz_toInt ha]; omega), lz_toInt ha, lz_toInt h]
theorem lz_ushr {a k : Int} (hk : 0 ≤ k ∧ k < 64) (ha : 0 ≤ a ∧ a ≤ 9223372036854775807) : ((lz a).toUInt64 >>> ((iz k).toInt64.toUInt64 &&& Int64.toUInt64 63)).toInt64 = lz (a / 2 ^ k.toNat) := by
  obtain ⟨n, rfl⟩ := Int.eq_ofNat_of_zero_le hk.1
  have hn : n < 64 := by omega
  have hr : lR a := ⟨by omega, by omega⟩
  rw [Int.toNat_natCast, iz_nat, z_shu n hn]
  have hp : (0 : Int) < 2 ^ n := Int.pow_pos (by decide)
  have h1 : a / 2 ^ n ≤ a := Int.ediv_le_self _ ha.1
  have h2 : 0 ≤ a / 2 ^ n := Int.ediv_nonneg ha.1 (Int.le_of_lt hp)
  refine Int64.toInt_inj.mp ?_
  rw [Jvm.Kit.i64_lushr (x := lz a) (by rw [Int64.le_iff_toInt_le, Int64.toInt_zero, lz_toInt hr]; exact ha.1) (z_u64 n hn) hn, lz_toInt hr, lz_toInt ⟨by omega, by omega⟩]
theorem lz_mask {a b : Int} (k : Nat) (hk : k < 63) (hb : b = 2 ^ k - 1) (ha : 0 ≤ a ∧ a ≤ 9223372036854775807) : lz a &&& lz b = lz (a % 2 ^ k) := by
  have hr : lR a := ⟨by omega, by omega⟩
  have hp : (0 : Int) < 2 ^ k := Int.pow_pos (by decide)
  have h1 : 0 ≤ a % 2 ^ k := Int.emod_nonneg _ (by omega)
  have h2 : a % 2 ^ k < 2 ^ k := Int.emod_lt_of_pos _ hp
  have h3 : a % 2 ^ k ≤ a := by
    have := Int.emod_add_mul_ediv a (2 ^ k)
    have h4 : 0 ≤ 2 ^ k * (a / 2 ^ k) := Int.mul_nonneg (Int.le_of_lt hp) (Int.ediv_nonneg ha.1 (Int.le_of_lt hp))
    omega
  have hm : (lz b).toBitVec.toNat = 2 ^ k - 1 := by
    have e : b = ((2 ^ k - 1 : Nat) : Int) := by
      rw [hb, Int.natCast_sub (Nat.one_le_two_pow)]
      simp
    rw [e, lz_nat]
    show (BitVec.ofNat 64 (2 ^ k - 1)).toNat = _
    rw [BitVec.toNat_ofNat]
    refine Nat.mod_eq_of_lt ?_
    have : 2 ^ k < 2 ^ 64 := Nat.pow_lt_pow_right (by decide) (by omega)
    omega
  refine Int64.toInt_inj.mp ?_
  rw [Jvm.Kit.i64_mask (lz a) (lz b) (k := k) (by omega) hm, lz_toInt hr, lz_toInt ⟨by omega, by omega⟩]
theorem z_or (k : Nat) {a b : Nat} (hb : b < 2 ^ k) (h : a * 2 ^ k + b < 2 ^ 64) : lN (a * 2 ^ k) ||| lN b = lN (a * 2 ^ k + b) := by
  refine Int64.toBitVec_inj.mp ?_
  show (BitVec.ofNat 64 (a * 2 ^ k) ||| BitVec.ofNat 64 b) = BitVec.ofNat 64 (a * 2 ^ k + b)
  refine BitVec.eq_of_toNat_eq ?_
  rw [BitVec.toNat_or, BitVec.toNat_ofNat, BitVec.toNat_ofNat, BitVec.toNat_ofNat, Nat.mod_eq_of_lt (by omega), Nat.mod_eq_of_lt (by omega), Nat.mod_eq_of_lt (by omega), Nat.mul_comm a, Nat.two_pow_add_eq_or_of_lt hb]
theorem lz_or {a b : Int} (k : Nat) (ha : 0 ≤ a) (hb : 0 ≤ b) (hb2 : b < 2 ^ k) (h : a * 2 ^ k + b < 18446744073709551616) : lz (a * 2 ^ k) ||| lz b = lz (a * 2 ^ k + b) := by
  obtain ⟨x, rfl⟩ := Int.eq_ofNat_of_zero_le ha
  obtain ⟨y, rfl⟩ := Int.eq_ofNat_of_zero_le hb
  have e : (x : Int) * 2 ^ k = ((x * 2 ^ k : Nat) : Int) := by simp
  have e2 : ((2 : Int) ^ k) = ((2 ^ k : Nat) : Int) := by simp
  rw [e2] at hb2
  rw [e] at h
  rw [e, show ((x * 2 ^ k : Nat) : Int) + (y : Int) = ((x * 2 ^ k + y : Nat) : Int) by simp, lz_nat, lz_nat, lz_nat]
  exact z_or k (by omega) (by omega)
/-! arrays by functions of whole numbers -/
def az (f : Int → Int) : Nat → Int32 := fun j => iz (f (j : Int))
def azl (f : Int → Int) : Nat → Int64 := fun j => lz (f (j : Int))
def up (f : Int → Int) (k x : Int) : Int → Int := fun j => if j = k then x else f j
theorem up_s (f : Int → Int) (k x : Int) : up f k x k = x := if_pos rfl
theorem up_n (f : Int → Int) {k j : Int} (x : Int) (h : j ≠ k) : up f k x j = f j := if_neg h
theorem az_up (f : Int → Int) {k : Int} (h : 0 ≤ k) (x : Int) : upd (az f) k.toNat (iz x) = az (up f k x) := by
  funext j
  show (if j = k.toNat then iz x else iz (f j)) = iz (if (j : Int) = k then x else f j)
  by_cases hj : j = k.toNat
  · rw [if_pos hj, if_pos (by omega)]
  · rw [if_neg hj, if_neg (by omega)]
theorem azl_up (f : Int → Int) {k : Int} (h : 0 ≤ k) (x : Int) : vp_updL (azl f) k.toNat (lz x) = azl (up f k x) := by
  funext j
  show (if j = k.toNat then lz x else lz (f j)) = lz (if (j : Int) = k then x else f j)
  by_cases hj : j = k.toNat
  · rw [if_pos hj, if_pos (by omega)]
  · rw [if_neg hj, if_neg (by omega)]
theorem az_at (f : Int → Int) {k : Int} (h : 0 ≤ k) : az f k.toNat = iz (f k) := by
  show iz (f (k.toNat : Int)) = _
  rw [Int.toNat_of_nonneg h]
theorem azl_at (f : Int → Int) {k : Int} (h : 0 ≤ k) : azl f k.toNat = lz (f k) := by
  show lz (f (k.toNat : Int)) = _
  rw [Int.toNat_of_nonneg h]
theorem z_narb {a : Int} (ha : -128 ≤ a ∧ a ≤ 127) : vp_nar .byte (iz a) = iz a := by rw [vp_nar_byte]; exact iz_i2b ha
def zcmp (a b : Int) : Int := if b < a then 1 else if a = b then 0 else -1
theorem zcmp_lg {a b : Int} (ha : lR a) (hb : lR b) : lg_cmp (lz a) (lz b) = iz (zcmp a b) := by
  unfold lg_cmp zcmp
  by_cases h1 : b < a
  · rw [if_pos h1, if_pos ((lz_lt hb ha).mpr h1)]; decide
  · rw [if_neg h1, if_neg (fun h => h1 ((lz_lt hb ha).mp h))]
    by_cases h2 : a = b
    · rw [if_pos h2, if_pos ((lz_eq ha hb).mpr h2)]; decide
    · rw [if_neg h2, if_neg (fun h => h2 ((lz_eq ha hb).mp h))]; decide
theorem zcmp_r (a b : Int) : iR (zcmp a b) := by
  unfold zcmp
  split
  · exact ⟨by omega, by omega⟩
  · split
    · exact ⟨by omega, by omega⟩
    · exact ⟨by omega, by omega⟩
theorem zcmp_i (a b : Int) : (zcmp a b = 0 ↔ a = b) ∧ (zcmp a b < 0 ↔ a < b) ∧ (0 ≤ zcmp a b ↔ b ≤ a) ∧ (0 < zcmp a b ↔ b < a) ∧ (zcmp a b ≤ 0 ↔ a ≤ b) := by
  unfold zcmp
  refine ⟨?_, ?_, ?_, ?_, ?_⟩ <;> split <;> (try split) <;> omega

section ZRows
variable {p : Program} {l : Launch} {e : Env} {R : Room} {s : State} {m : MethodId} {args : Array Value} {below : List Frame} {meth : Method} {c : Code} {H H0 : Heap} {locs : List Loc} {cells slots : Nat} {Q : State → Prop} {cc : ByteArray} {pc : Nat} {ls : Array Slot} {rest : List Value} {A : Nat → Prop} {D : va_G} {cl : List vw_C} {tys : List (ClassId × FieldType)} {ws : va_W}
theorem z_iadd (hx : p.tables.exec = Jvm.exec) (hb : c.code = cc) {a b : Int} (hdg : decode cc pc = .ok (.iadd, 1)) (k : W p l e R s m args below meth c H locs cells slots Q (F0 m (pc + 1) ls (.int (iz (a + b)) :: rest))) : W p l e R s m args below meth c H locs cells slots Q (F0 m pc ls (.int (iz b) :: .int (iz a) :: rest)) := by
  rw [iz_add] at k
  exact lv_iadd hx hb hdg k
theorem z_isub (hx : p.tables.exec = Jvm.exec) (hb : c.code = cc) {a b : Int} (hdg : decode cc pc = .ok (.isub, 1)) (k : W p l e R s m args below meth c H locs cells slots Q (F0 m (pc + 1) ls (.int (iz (a - b)) :: rest))) : W p l e R s m args below meth c H locs cells slots Q (F0 m pc ls (.int (iz b) :: .int (iz a) :: rest)) := by
  rw [iz_sub] at k
  exact lv_isub hx hb hdg k
theorem z_imul (hx : p.tables.exec = Jvm.exec) (hb : c.code = cc) {a b : Int} (hdg : decode cc pc = .ok (.imul, 1)) (k : W p l e R s m args below meth c H locs cells slots Q (F0 m (pc + 1) ls (.int (iz (a * b)) :: rest))) : W p l e R s m args below meth c H locs cells slots Q (F0 m pc ls (.int (iz b) :: .int (iz a) :: rest)) := by
  rw [iz_mul] at k
  exact lv_imul hx hb hdg k
theorem z_ladd (hx : p.tables.exec = Jvm.exec) (hb : c.code = cc) {a b : Int} (hdg : decode cc pc = .ok (.ladd, 1)) (k : W p l e R s m args below meth c H locs cells slots Q (F0 m (pc + 1) ls (.long (lz (a + b)) :: rest))) : W p l e R s m args below meth c H locs cells slots Q (F0 m pc ls (.long (lz b) :: .long (lz a) :: rest)) := by
  rw [lz_add] at k
  exact lv_ladd hx hb hdg k
theorem z_lsub (hx : p.tables.exec = Jvm.exec) (hb : c.code = cc) {a b : Int} (hdg : decode cc pc = .ok (.lsub, 1)) (k : W p l e R s m args below meth c H locs cells slots Q (F0 m (pc + 1) ls (.long (lz (a - b)) :: rest))) : W p l e R s m args below meth c H locs cells slots Q (F0 m pc ls (.long (lz b) :: .long (lz a) :: rest)) := by
  rw [lz_sub] at k
  exact lv_lsub hx hb hdg k
theorem z_lmul (hx : p.tables.exec = Jvm.exec) (hb : c.code = cc) {a b : Int} (hdg : decode cc pc = .ok (.lmul, 1)) (k : W p l e R s m args below meth c H locs cells slots Q (F0 m (pc + 1) ls (.long (lz (a * b)) :: rest))) : W p l e R s m args below meth c H locs cells slots Q (F0 m pc ls (.long (lz b) :: .long (lz a) :: rest)) := by
  rw [lz_mul] at k
  exact lv_lmul hx hb hdg k
theorem z_ineg (hx : p.tables.exec = Jvm.exec) (hb : c.code = cc) {a : Int} (hdg : decode cc pc = .ok (.ineg, 1)) (k : W p l e R s m args below meth c H locs cells slots Q (F0 m (pc + 1) ls (.int (iz (-a)) :: rest))) : W p l e R s m args below meth c H locs cells slots Q (F0 m pc ls (.int (iz a) :: rest)) := by
  rw [iz_neg] at k
  exact lv_ineg hx hb hdg k
theorem z_idiv (hx : p.tables.exec = Jvm.exec) (hb : c.code = cc) {a b : Int} (hdg : decode cc pc = .ok (.idiv, 1)) (ha : 0 ≤ a ∧ a ≤ 2147483647) (hd : 0 < b ∧ b ≤ 2147483647) (k : W p l e R s m args below meth c H locs cells slots Q (F0 m (pc + 1) ls (.int (iz (a / b)) :: rest))) : W p l e R s m args below meth c H locs cells slots Q (F0 m pc ls (.int (iz b) :: .int (iz a) :: rest)) := by
  rw [← iz_div ha hd] at k
  exact lv_idiv hx hb hdg (fun h => by rw [← iz_0, iz_eq ⟨by omega, by omega⟩ ⟨by omega, by omega⟩] at h; omega) k
theorem z_irem (hx : p.tables.exec = Jvm.exec) (hb : c.code = cc) {a b : Int} (hdg : decode cc pc = .ok (.irem, 1)) (ha : 0 ≤ a ∧ a ≤ 2147483647) (hd : 0 < b ∧ b ≤ 2147483647) (k : W p l e R s m args below meth c H locs cells slots Q (F0 m (pc + 1) ls (.int (iz (a % b)) :: rest))) : W p l e R s m args below meth c H locs cells slots Q (F0 m pc ls (.int (iz b) :: .int (iz a) :: rest)) := by
  rw [← iz_rem ha hd] at k
  exact lv_irem hx hb hdg (fun h => by rw [← iz_0, iz_eq ⟨by omega, by omega⟩ ⟨by omega, by omega⟩] at h; omega) k
theorem z_ldiv (hx : p.tables.exec = Jvm.exec) (hb : c.code = cc) {a b : Int} (hdg : decode cc pc = .ok (.ldiv, 1)) (ha : 0 ≤ a ∧ a ≤ 9223372036854775807) (hd : 0 < b ∧ b ≤ 9223372036854775807) (k : W p l e R s m args below meth c H locs cells slots Q (F0 m (pc + 1) ls (.long (lz (a / b)) :: rest))) : W p l e R s m args below meth c H locs cells slots Q (F0 m pc ls (.long (lz b) :: .long (lz a) :: rest)) := by
  rw [← lz_div ha hd] at k
  exact lv_ldiv hx hb hdg (fun h => by rw [← lz_0, lz_eq ⟨by omega, by omega⟩ ⟨by omega, by omega⟩] at h; omega) k
theorem z_lrem (hx : p.tables.exec = Jvm.exec) (hb : c.code = cc) {a b : Int} (hdg : decode cc pc = .ok (.lrem, 1)) (ha : 0 ≤ a ∧ a ≤ 9223372036854775807) (hd : 0 < b ∧ b ≤ 9223372036854775807) (k : W p l e R s m args below meth c H locs cells slots Q (F0 m (pc + 1) ls (.long (lz (a % b)) :: rest))) : W p l e R s m args below meth c H locs cells slots Q (F0 m pc ls (.long (lz b) :: .long (lz a) :: rest)) := by
  rw [← lz_rem ha hd] at k
  exact lv_lrem hx hb hdg (fun h => by rw [← lz_0, lz_eq ⟨by omega, by omega⟩ ⟨by omega, by omega⟩] at h; omega) k
theorem z_i2l (hx : p.tables.exec = Jvm.exec) (hb : c.code = cc) {a : Int} (hdg : decode cc pc = .ok (.i2l, 1)) (ha : iR a) (k : W p l e R s m args below meth c H locs cells slots Q (F0 m (pc + 1) ls (.long (lz a) :: rest))) : W p l e R s m args below meth c H locs cells slots Q (F0 m pc ls (.int (iz a) :: rest)) := lv_i2l hx hb hdg (iz_i2l ha) k
theorem z_l2i (hx : p.tables.exec = Jvm.exec) (hb : c.code = cc) {a : Int} (hdg : decode cc pc = .ok (.l2i, 1)) (k : W p l e R s m args below meth c H locs cells slots Q (F0 m (pc + 1) ls (.int (iz a) :: rest))) : W p l e R s m args below meth c H locs cells slots Q (F0 m pc ls (.long (lz a) :: rest)) := lv_l2i hx hb hdg (lz_l2i a) k
theorem z_i2b (hx : p.tables.exec = Jvm.exec) (hb : c.code = cc) {a : Int} (hdg : decode cc pc = .ok (.i2b, 1)) (ha : -128 ≤ a ∧ a ≤ 127) (k : W p l e R s m args below meth c H locs cells slots Q (F0 m (pc + 1) ls (.int (iz a) :: rest))) : W p l e R s m args below meth c H locs cells slots Q (F0 m pc ls (.int (iz a) :: rest)) := lv_i2b hx hb hdg (iz_i2b ha) k
theorem z_i2c (hx : p.tables.exec = Jvm.exec) (hb : c.code = cc) {a : Int} (hdg : decode cc pc = .ok (.i2c, 1)) (ha : 0 ≤ a ∧ a ≤ 65535) (k : W p l e R s m args below meth c H locs cells slots Q (F0 m (pc + 1) ls (.int (iz a) :: rest))) : W p l e R s m args below meth c H locs cells slots Q (F0 m pc ls (.int (iz a) :: rest)) := lv_i2c hx hb hdg (iz_i2c ha) k
theorem z_lshl (hx : p.tables.exec = Jvm.exec) (hb : c.code = cc) {a b : Int} (j : Nat) (hdg : decode cc pc = .ok (.lshl, 1)) (hj : b = (j : Int)) (h64 : j < 64) (ha : lR a) (h : lR (a * 2 ^ j)) (k : W p l e R s m args below meth c H locs cells slots Q (F0 m (pc + 1) ls (.long (lz (a * 2 ^ j)) :: rest))) : W p l e R s m args below meth c H locs cells slots Q (F0 m pc ls (.int (iz b) :: .long (lz a) :: rest)) := by
  subst hj
  exact lv_lshl hx hb hdg (lz_shl (k := (j : Int)) ⟨by omega, by omega⟩ (by rw [Int.toNat_natCast]; exact h) ha) (by rw [Int.toNat_natCast]; exact k)
theorem z_lushr (hx : p.tables.exec = Jvm.exec) (hb : c.code = cc) {a b : Int} (j : Nat) (hdg : decode cc pc = .ok (.lushr, 1)) (hj : b = (j : Int)) (h64 : j < 64) (ha : 0 ≤ a ∧ a ≤ 9223372036854775807) (k : W p l e R s m args below meth c H locs cells slots Q (F0 m (pc + 1) ls (.long (lz (a / 2 ^ j)) :: rest))) : W p l e R s m args below meth c H locs cells slots Q (F0 m pc ls (.int (iz b) :: .long (lz a) :: rest)) := by
  subst hj
  exact lv_lushr hx hb hdg (lz_ushr (k := (j : Int)) ⟨by omega, by omega⟩ ha) (by rw [Int.toNat_natCast]; exact k)
theorem z_landm (hx : p.tables.exec = Jvm.exec) (hb : c.code = cc) {a b : Int} (j : Nat) (hdg : decode cc pc = .ok (.land, 1)) (hj : j < 63) (hm : b = 2 ^ j - 1) (ha : 0 ≤ a ∧ a ≤ 9223372036854775807) (k : W p l e R s m args below meth c H locs cells slots Q (F0 m (pc + 1) ls (.long (lz (a % 2 ^ j)) :: rest))) : W p l e R s m args below meth c H locs cells slots Q (F0 m pc ls (.long (lz b) :: .long (lz a) :: rest)) := by
  rw [← lz_mask j hj hm ha] at k
  exact lv_land hx hb hdg k
theorem z_lorp (hx : p.tables.exec = Jvm.exec) (hb : c.code = cc) {a b : Int} (j : Nat) (hdg : decode cc pc = .ok (.lor, 1)) (ha : 0 ≤ a) (h0 : 0 ≤ b) (h1 : b < 2 ^ j) (h2 : a * 2 ^ j + b < 18446744073709551616) (k : W p l e R s m args below meth c H locs cells slots Q (F0 m (pc + 1) ls (.long (lz (a * 2 ^ j + b)) :: rest))) : W p l e R s m args below meth c H locs cells slots Q (F0 m pc ls (.long (lz b) :: .long (lz (a * 2 ^ j)) :: rest)) := by
  rw [← lz_or j ha h0 h1 h2] at k
  exact lv_lor hx hb hdg k
theorem z_topi {x y : Int32} (h : x = y) (k : W p l e R s m args below meth c H locs cells slots Q (F0 m pc ls (.int y :: rest))) : W p l e R s m args below meth c H locs cells slots Q (F0 m pc ls (.int x :: rest)) := h ▸ k
theorem z_topl {x y : Int64} (h : x = y) (k : W p l e R s m args below meth c H locs cells slots Q (F0 m pc ls (.long y :: rest))) : W p l e R s m args below meth c H locs cells slots Q (F0 m pc ls (.long x :: rest)) := h ▸ k
theorem z_ri {a b : Int} (h : a = b) (k : W p l e R s m args below meth c H locs cells slots Q (F0 m pc ls (.int (iz b) :: rest))) : W p l e R s m args below meth c H locs cells slots Q (F0 m pc ls (.int (iz a) :: rest)) := h ▸ k
theorem z_rl {a b : Int} (h : a = b) (k : W p l e R s m args below meth c H locs cells slots Q (F0 m pc ls (.long (lz b) :: rest))) : W p l e R s m args below meth c H locs cells slots Q (F0 m pc ls (.long (lz a) :: rest)) := h ▸ k
theorem z_icmp_eq (hx : p.tables.exec = Jvm.exec) (hb : c.code = cc) {a b off : Int} {tgt : Nat} (hdg : decode cc pc = .ok (.if_icmp .eq off, 3)) (ht : (pc : Int) + off = (tgt : Int)) (ha : iR a) (hb2 : iR b) (kt : a = b → W p l e R s m args below meth c H locs cells slots Q (F0 m tgt ls (rest))) (kf : a ≠ b → W p l e R s m args below meth c H locs cells slots Q (F0 m (pc + 3) ls (rest))) : W p l e R s m args below meth c H locs cells slots Q (F0 m pc ls (.int (iz b) :: .int (iz a) :: rest)) :=
  lv_icmp_eq hx hb hdg ht (fun h => kt ((iz_eq ha hb2).mp h)) (fun h => kf (fun h2 => h ((iz_eq ha hb2).mpr h2)))
theorem z_if_eq (hx : p.tables.exec = Jvm.exec) (hb : c.code = cc) {a off : Int} {tgt : Nat} (hdg : decode cc pc = .ok (.ifCond .eq off, 3)) (ht : (pc : Int) + off = (tgt : Int)) (ha : iR a) (kt : a = 0 → W p l e R s m args below meth c H locs cells slots Q (F0 m tgt ls (rest))) (kf : a ≠ 0 → W p l e R s m args below meth c H locs cells slots Q (F0 m (pc + 3) ls (rest))) : W p l e R s m args below meth c H locs cells slots Q (F0 m pc ls (.int (iz a) :: rest)) := by
  have z_R0 : iR 0 := ⟨by omega, by omega⟩
  refine lv_if_eq hx hb hdg ht (fun h => kt ?_) (fun h => kf ?_)
  · rw [← iz_0] at h
    exact (iz_eq ha z_R0).mp h
  · rw [← iz_0] at h
    exact fun h2 => h ((iz_eq ha z_R0).mpr h2)
theorem z_icmp_ne (hx : p.tables.exec = Jvm.exec) (hb : c.code = cc) {a b off : Int} {tgt : Nat} (hdg : decode cc pc = .ok (.if_icmp .ne off, 3)) (ht : (pc : Int) + off = (tgt : Int)) (ha : iR a) (hb2 : iR b) (kt : a ≠ b → W p l e R s m args below meth c H locs cells slots Q (F0 m tgt ls (rest))) (kf : a = b → W p l e R s m args below meth c H locs cells slots Q (F0 m (pc + 3) ls (rest))) : W p l e R s m args below meth c H locs cells slots Q (F0 m pc ls (.int (iz b) :: .int (iz a) :: rest)) :=
  lv_icmp_ne hx hb hdg ht (fun h => kt (fun h2 => h ((iz_eq ha hb2).mpr h2))) (fun h => kf ((iz_eq ha hb2).mp h))
theorem z_if_ne (hx : p.tables.exec = Jvm.exec) (hb : c.code = cc) {a off : Int} {tgt : Nat} (hdg : decode cc pc = .ok (.ifCond .ne off, 3)) (ht : (pc : Int) + off = (tgt : Int)) (ha : iR a) (kt : a ≠ 0 → W p l e R s m args below meth c H locs cells slots Q (F0 m tgt ls (rest))) (kf : a = 0 → W p l e R s m args below meth c H locs cells slots Q (F0 m (pc + 3) ls (rest))) : W p l e R s m args below meth c H locs cells slots Q (F0 m pc ls (.int (iz a) :: rest)) := by
  have z_R0 : iR 0 := ⟨by omega, by omega⟩
  refine lv_if_ne hx hb hdg ht (fun h => kt ?_) (fun h => kf ?_)
  · rw [← iz_0] at h
    exact fun h2 => h ((iz_eq ha z_R0).mpr h2)
  · rw [← iz_0] at h
    exact (iz_eq ha z_R0).mp h
theorem z_icmp_lt (hx : p.tables.exec = Jvm.exec) (hb : c.code = cc) {a b off : Int} {tgt : Nat} (hdg : decode cc pc = .ok (.if_icmp .lt off, 3)) (ht : (pc : Int) + off = (tgt : Int)) (ha : iR a) (hb2 : iR b) (kt : a < b → W p l e R s m args below meth c H locs cells slots Q (F0 m tgt ls (rest))) (kf : b ≤ a → W p l e R s m args below meth c H locs cells slots Q (F0 m (pc + 3) ls (rest))) : W p l e R s m args below meth c H locs cells slots Q (F0 m pc ls (.int (iz b) :: .int (iz a) :: rest)) :=
  lv_icmp_lt hx hb hdg ht (fun h => kt ((iz_lt ha hb2).mp h)) (fun h => kf (Int.not_lt.mp (fun h2 => h ((iz_lt ha hb2).mpr h2))))
theorem z_if_lt (hx : p.tables.exec = Jvm.exec) (hb : c.code = cc) {a off : Int} {tgt : Nat} (hdg : decode cc pc = .ok (.ifCond .lt off, 3)) (ht : (pc : Int) + off = (tgt : Int)) (ha : iR a) (kt : a < 0 → W p l e R s m args below meth c H locs cells slots Q (F0 m tgt ls (rest))) (kf : 0 ≤ a → W p l e R s m args below meth c H locs cells slots Q (F0 m (pc + 3) ls (rest))) : W p l e R s m args below meth c H locs cells slots Q (F0 m pc ls (.int (iz a) :: rest)) := by
  have z_R0 : iR 0 := ⟨by omega, by omega⟩
  refine lv_if_lt hx hb hdg ht (fun h => kt ?_) (fun h => kf ?_)
  · rw [← iz_0] at h
    exact (iz_lt ha z_R0).mp h
  · rw [← iz_0] at h
    exact Int.not_lt.mp (fun h2 => h ((iz_lt ha z_R0).mpr h2))
theorem z_icmp_ge (hx : p.tables.exec = Jvm.exec) (hb : c.code = cc) {a b off : Int} {tgt : Nat} (hdg : decode cc pc = .ok (.if_icmp .ge off, 3)) (ht : (pc : Int) + off = (tgt : Int)) (ha : iR a) (hb2 : iR b) (kt : b ≤ a → W p l e R s m args below meth c H locs cells slots Q (F0 m tgt ls (rest))) (kf : a < b → W p l e R s m args below meth c H locs cells slots Q (F0 m (pc + 3) ls (rest))) : W p l e R s m args below meth c H locs cells slots Q (F0 m pc ls (.int (iz b) :: .int (iz a) :: rest)) :=
  lv_icmp_ge hx hb hdg ht (fun h => kt ((iz_le hb2 ha).mp h)) (fun h => kf (Int.not_le.mp (fun h2 => h ((iz_le hb2 ha).mpr h2))))
theorem z_if_ge (hx : p.tables.exec = Jvm.exec) (hb : c.code = cc) {a off : Int} {tgt : Nat} (hdg : decode cc pc = .ok (.ifCond .ge off, 3)) (ht : (pc : Int) + off = (tgt : Int)) (ha : iR a) (kt : 0 ≤ a → W p l e R s m args below meth c H locs cells slots Q (F0 m tgt ls (rest))) (kf : a < 0 → W p l e R s m args below meth c H locs cells slots Q (F0 m (pc + 3) ls (rest))) : W p l e R s m args below meth c H locs cells slots Q (F0 m pc ls (.int (iz a) :: rest)) := by
  have z_R0 : iR 0 := ⟨by omega, by omega⟩
  refine lv_if_ge hx hb hdg ht (fun h => kt ?_) (fun h => kf ?_)
  · rw [← iz_0] at h
    exact (iz_le z_R0 ha).mp h
  · rw [← iz_0] at h
    exact Int.not_le.mp (fun h2 => h ((iz_le z_R0 ha).mpr h2))
theorem z_icmp_gt (hx : p.tables.exec = Jvm.exec) (hb : c.code = cc) {a b off : Int} {tgt : Nat} (hdg : decode cc pc = .ok (.if_icmp .gt off, 3)) (ht : (pc : Int) + off = (tgt : Int)) (ha : iR a) (hb2 : iR b) (kt : b < a → W p l e R s m args below meth c H locs cells slots Q (F0 m tgt ls (rest))) (kf : a ≤ b → W p l e R s m args below meth c H locs cells slots Q (F0 m (pc + 3) ls (rest))) : W p l e R s m args below meth c H locs cells slots Q (F0 m pc ls (.int (iz b) :: .int (iz a) :: rest)) :=
  lv_icmp_gt hx hb hdg ht (fun h => kt ((iz_lt hb2 ha).mp h)) (fun h => kf (Int.not_lt.mp (fun h2 => h ((iz_lt hb2 ha).mpr h2))))
theorem z_if_gt (hx : p.tables.exec = Jvm.exec) (hb : c.code = cc) {a off : Int} {tgt : Nat} (hdg : decode cc pc = .ok (.ifCond .gt off, 3)) (ht : (pc : Int) + off = (tgt : Int)) (ha : iR a) (kt : 0 < a → W p l e R s m args below meth c H locs cells slots Q (F0 m tgt ls (rest))) (kf : a ≤ 0 → W p l e R s m args below meth c H locs cells slots Q (F0 m (pc + 3) ls (rest))) : W p l e R s m args below meth c H locs cells slots Q (F0 m pc ls (.int (iz a) :: rest)) := by
  have z_R0 : iR 0 := ⟨by omega, by omega⟩
  refine lv_if_gt hx hb hdg ht (fun h => kt ?_) (fun h => kf ?_)
  · rw [← iz_0] at h
    exact (iz_lt z_R0 ha).mp h
  · rw [← iz_0] at h
    exact Int.not_lt.mp (fun h2 => h ((iz_lt z_R0 ha).mpr h2))
theorem z_icmp_le (hx : p.tables.exec = Jvm.exec) (hb : c.code = cc) {a b off : Int} {tgt : Nat} (hdg : decode cc pc = .ok (.if_icmp .le off, 3)) (ht : (pc : Int) + off = (tgt : Int)) (ha : iR a) (hb2 : iR b) (kt : a ≤ b → W p l e R s m args below meth c H locs cells slots Q (F0 m tgt ls (rest))) (kf : b < a → W p l e R s m args below meth c H locs cells slots Q (F0 m (pc + 3) ls (rest))) : W p l e R s m args below meth c H locs cells slots Q (F0 m pc ls (.int (iz b) :: .int (iz a) :: rest)) :=
  lv_icmp_le hx hb hdg ht (fun h => kt ((iz_le ha hb2).mp h)) (fun h => kf (Int.not_le.mp (fun h2 => h ((iz_le ha hb2).mpr h2))))
theorem z_if_le (hx : p.tables.exec = Jvm.exec) (hb : c.code = cc) {a off : Int} {tgt : Nat} (hdg : decode cc pc = .ok (.ifCond .le off, 3)) (ht : (pc : Int) + off = (tgt : Int)) (ha : iR a) (kt : a ≤ 0 → W p l e R s m args below meth c H locs cells slots Q (F0 m tgt ls (rest))) (kf : 0 < a → W p l e R s m args below meth c H locs cells slots Q (F0 m (pc + 3) ls (rest))) : W p l e R s m args below meth c H locs cells slots Q (F0 m pc ls (.int (iz a) :: rest)) := by
  have z_R0 : iR 0 := ⟨by omega, by omega⟩
  refine lv_if_le hx hb hdg ht (fun h => kt ?_) (fun h => kf ?_)
  · rw [← iz_0] at h
    exact (iz_le ha z_R0).mp h
  · rw [← iz_0] at h
    exact Int.not_le.mp (fun h2 => h ((iz_le ha z_R0).mpr h2))
theorem z_lif_eq (hx : p.tables.exec = Jvm.exec) (hb : c.code = cc) {a b off : Int} {tgt : Nat} (hd1 : decode cc pc = .ok (.lcmp, 1)) (hd2 : decode cc (pc + 1) = .ok (.ifCond .eq off, 3)) (ht : ((pc + 1 : Nat) : Int) + off = (tgt : Int)) (ha : lR a) (hb2 : lR b) (kt : a = b → W p l e R s m args below meth c H locs cells slots Q (F0 m tgt ls (rest))) (kf : a ≠ b → W p l e R s m args below meth c H locs cells slots Q (F0 m (pc + 1 + 3) ls (rest))) : W p l e R s m args below meth c H locs cells slots Q (F0 m pc ls (.long (lz b) :: .long (lz a) :: rest)) := by
  refine W.lcmp hx hb hd1 ?_
  rw [zcmp_lg ha hb2]
  have hz := zcmp_i a b
  exact z_if_eq hx hb hd2 ht (zcmp_r a b) (fun h => kt (by omega)) (fun h => kf (by omega))
theorem z_lif_ne (hx : p.tables.exec = Jvm.exec) (hb : c.code = cc) {a b off : Int} {tgt : Nat} (hd1 : decode cc pc = .ok (.lcmp, 1)) (hd2 : decode cc (pc + 1) = .ok (.ifCond .ne off, 3)) (ht : ((pc + 1 : Nat) : Int) + off = (tgt : Int)) (ha : lR a) (hb2 : lR b) (kt : a ≠ b → W p l e R s m args below meth c H locs cells slots Q (F0 m tgt ls (rest))) (kf : a = b → W p l e R s m args below meth c H locs cells slots Q (F0 m (pc + 1 + 3) ls (rest))) : W p l e R s m args below meth c H locs cells slots Q (F0 m pc ls (.long (lz b) :: .long (lz a) :: rest)) := by
  refine W.lcmp hx hb hd1 ?_
  rw [zcmp_lg ha hb2]
  have hz := zcmp_i a b
  exact z_if_ne hx hb hd2 ht (zcmp_r a b) (fun h => kt (by omega)) (fun h => kf (by omega))
theorem z_lif_lt (hx : p.tables.exec = Jvm.exec) (hb : c.code = cc) {a b off : Int} {tgt : Nat} (hd1 : decode cc pc = .ok (.lcmp, 1)) (hd2 : decode cc (pc + 1) = .ok (.ifCond .lt off, 3)) (ht : ((pc + 1 : Nat) : Int) + off = (tgt : Int)) (ha : lR a) (hb2 : lR b) (kt : a < b → W p l e R s m args below meth c H locs cells slots Q (F0 m tgt ls (rest))) (kf : b ≤ a → W p l e R s m args below meth c H locs cells slots Q (F0 m (pc + 1 + 3) ls (rest))) : W p l e R s m args below meth c H locs cells slots Q (F0 m pc ls (.long (lz b) :: .long (lz a) :: rest)) := by
  refine W.lcmp hx hb hd1 ?_
  rw [zcmp_lg ha hb2]
  have hz := zcmp_i a b
  exact z_if_lt hx hb hd2 ht (zcmp_r a b) (fun h => kt (by omega)) (fun h => kf (by omega))
theorem z_lif_ge (hx : p.tables.exec = Jvm.exec) (hb : c.code = cc) {a b off : Int} {tgt : Nat} (hd1 : decode cc pc = .ok (.lcmp, 1)) (hd2 : decode cc (pc + 1) = .ok (.ifCond .ge off, 3)) (ht : ((pc + 1 : Nat) : Int) + off = (tgt : Int)) (ha : lR a) (hb2 : lR b) (kt : b ≤ a → W p l e R s m args below meth c H locs cells slots Q (F0 m tgt ls (rest))) (kf : a < b → W p l e R s m args below meth c H locs cells slots Q (F0 m (pc + 1 + 3) ls (rest))) : W p l e R s m args below meth c H locs cells slots Q (F0 m pc ls (.long (lz b) :: .long (lz a) :: rest)) := by
  refine W.lcmp hx hb hd1 ?_
  rw [zcmp_lg ha hb2]
  have hz := zcmp_i a b
  exact z_if_ge hx hb hd2 ht (zcmp_r a b) (fun h => kt (by omega)) (fun h => kf (by omega))
theorem z_lif_gt (hx : p.tables.exec = Jvm.exec) (hb : c.code = cc) {a b off : Int} {tgt : Nat} (hd1 : decode cc pc = .ok (.lcmp, 1)) (hd2 : decode cc (pc + 1) = .ok (.ifCond .gt off, 3)) (ht : ((pc + 1 : Nat) : Int) + off = (tgt : Int)) (ha : lR a) (hb2 : lR b) (kt : b < a → W p l e R s m args below meth c H locs cells slots Q (F0 m tgt ls (rest))) (kf : a ≤ b → W p l e R s m args below meth c H locs cells slots Q (F0 m (pc + 1 + 3) ls (rest))) : W p l e R s m args below meth c H locs cells slots Q (F0 m pc ls (.long (lz b) :: .long (lz a) :: rest)) := by
  refine W.lcmp hx hb hd1 ?_
  rw [zcmp_lg ha hb2]
  have hz := zcmp_i a b
  exact z_if_gt hx hb hd2 ht (zcmp_r a b) (fun h => kt (by omega)) (fun h => kf (by omega))
theorem z_lif_le (hx : p.tables.exec = Jvm.exec) (hb : c.code = cc) {a b off : Int} {tgt : Nat} (hd1 : decode cc pc = .ok (.lcmp, 1)) (hd2 : decode cc (pc + 1) = .ok (.ifCond .le off, 3)) (ht : ((pc + 1 : Nat) : Int) + off = (tgt : Int)) (ha : lR a) (hb2 : lR b) (kt : a ≤ b → W p l e R s m args below meth c H locs cells slots Q (F0 m tgt ls (rest))) (kf : b < a → W p l e R s m args below meth c H locs cells slots Q (F0 m (pc + 1 + 3) ls (rest))) : W p l e R s m args below meth c H locs cells slots Q (F0 m pc ls (.long (lz b) :: .long (lz a) :: rest)) := by
  refine W.lcmp hx hb hd1 ?_
  rw [zcmp_lg ha hb2]
  have hz := zcmp_i a b
  exact z_if_le hx hb hd2 ht (zcmp_r a b) (fun h => kt (by omega)) (fun h => kf (by omega))
theorem z_iald (hx : p.tables.exec = Jvm.exec) (hb : c.code = cc) (hK : va_K D cl tys s) (hP : va_P D cl ws H) (q0 t0 : Nat) {ad : Nat} {cA : ClassId} {n : Nat} {f : Int → Int} (ha : ws[q0]? = some (ad, .inl (cA, n, .inl (az f)))) (ht : tys[t0]? = some (cA, .int)) {i : Int} (h0 : 0 ≤ i) (h1 : i < (n : Int)) (hn : (n : Int) ≤ 2147483647) (hdg : decode cc pc = .ok (.iaload, 1)) (kk : W p l e R s m args below meth c H locs cells slots Q (F0 m (pc + 1) ls (.int (iz (f i)) :: rest))) : W p l e R s m args below meth c H locs cells slots Q (F0 m pc ls (.int (iz i) :: .ref ad :: rest)) := by
  rw [← az_at f h0, ← iz_cl h0 (by omega)] at kk
  exact va_iald hx hb hK hP q0 t0 ha ht (iz_in h0 h1 hn) hdg kk
theorem z_bald (hx : p.tables.exec = Jvm.exec) (hb : c.code = cc) (hK : va_K D cl tys s) (hP : va_P D cl ws H) (q0 t0 : Nat) {ad : Nat} {cA : ClassId} {n : Nat} {f : Int → Int} (ha : ws[q0]? = some (ad, .inl (cA, n, .inl (az f)))) (ht : tys[t0]? = some (cA, .byte)) {i : Int} (h0 : 0 ≤ i) (h1 : i < (n : Int)) (hn : (n : Int) ≤ 2147483647) (hdg : decode cc pc = .ok (.baload, 1)) (kk : W p l e R s m args below meth c H locs cells slots Q (F0 m (pc + 1) ls (.int (iz (f i)) :: rest))) : W p l e R s m args below meth c H locs cells slots Q (F0 m pc ls (.int (iz i) :: .ref ad :: rest)) := by
  rw [← az_at f h0, ← iz_cl h0 (by omega)] at kk
  exact va_bald hx hb hK hP q0 t0 ha ht (iz_in h0 h1 hn) hdg kk
theorem z_lald (hx : p.tables.exec = Jvm.exec) (hb : c.code = cc) (hK : va_K D cl tys s) (hP : va_P D cl ws H) (q0 t0 : Nat) {ad : Nat} {cA : ClassId} {n : Nat} {f : Int → Int} (ha : ws[q0]? = some (ad, .inl (cA, n, .inr (.inl (azl f))))) (ht : tys[t0]? = some (cA, .long)) {i : Int} (h0 : 0 ≤ i) (h1 : i < (n : Int)) (hn : (n : Int) ≤ 2147483647) (hdg : decode cc pc = .ok (.laload, 1)) (kk : W p l e R s m args below meth c H locs cells slots Q (F0 m (pc + 1) ls (.long (lz (f i)) :: rest))) : W p l e R s m args below meth c H locs cells slots Q (F0 m pc ls (.int (iz i) :: .ref ad :: rest)) := by
  rw [← azl_at f h0, ← iz_cl h0 (by omega)] at kk
  exact va_lald hx hb hK hP q0 t0 ha ht (iz_in h0 h1 hn) hdg kk
theorem z_iast (hx : p.tables.exec = Jvm.exec) (hb : c.code = cc) (hK : va_K D cl tys s) (hP : va_P D cl ws H) (hD : va_D A ws) (hS : va_S A H0 H locs) (q0 t0 : Nat) {ad : Nat} {cA : ClassId} {n : Nat} {f : Int → Int} (ha : ws[q0]? = some (ad, .inl (cA, n, .inl (az f)))) (ht : tys[t0]? = some (cA, .int)) {i x : Int} (h0 : 0 ≤ i) (h1 : i < (n : Int)) (hn : (n : Int) ≤ 2147483647) (hdg : decode cc pc = .ok (.iastore, 1)) (kk : ∀ (H1 : Heap) (locs1 : List Loc), va_P D cl (ws.set q0 (ad, .inl (cA, n, .inl (az (up f i x))))) H1 → va_D A (ws.set q0 (ad, .inl (cA, n, .inl (az (up f i x))))) → va_S A H0 H1 locs1 → W p l e R s m args below meth c H1 locs1 cells slots Q (F0 m (pc + 1) ls (rest))) : W p l e R s m args below meth c H locs cells slots Q (F0 m pc ls (.int (iz x) :: .int (iz i) :: .ref ad :: rest)) := by
  rw [← az_up f h0 x, ← iz_cl h0 (by omega)] at kk
  exact va_iast hx hb hK hP hD hS q0 t0 ha ht (iz_in h0 h1 hn) hdg kk
theorem z_bast (hx : p.tables.exec = Jvm.exec) (hb : c.code = cc) (hK : va_K D cl tys s) (hP : va_P D cl ws H) (hD : va_D A ws) (hS : va_S A H0 H locs) (q0 t0 : Nat) {ad : Nat} {cA : ClassId} {n : Nat} {f : Int → Int} (ha : ws[q0]? = some (ad, .inl (cA, n, .inl (az f)))) (ht : tys[t0]? = some (cA, .byte)) {i x : Int} (h0 : 0 ≤ i) (h1 : i < (n : Int)) (hn : (n : Int) ≤ 2147483647) (hx2 : -128 ≤ x ∧ x ≤ 127) (hdg : decode cc pc = .ok (.bastore, 1)) (kk : ∀ (H1 : Heap) (locs1 : List Loc), va_P D cl (ws.set q0 (ad, .inl (cA, n, .inl (az (up f i x))))) H1 → va_D A (ws.set q0 (ad, .inl (cA, n, .inl (az (up f i x))))) → va_S A H0 H1 locs1 → W p l e R s m args below meth c H1 locs1 cells slots Q (F0 m (pc + 1) ls (rest))) : W p l e R s m args below meth c H locs cells slots Q (F0 m pc ls (.int (iz x) :: .int (iz i) :: .ref ad :: rest)) := by
  rw [← az_up f h0 x, ← iz_cl h0 (by omega), ← z_narb hx2] at kk
  exact va_bast hx hb hK hP hD hS q0 t0 ha ht (iz_in h0 h1 hn) hdg (by rw [z_narb hx2] at kk ⊢; exact kk)
theorem z_last (hx : p.tables.exec = Jvm.exec) (hb : c.code = cc) (hK : va_K D cl tys s) (hP : va_P D cl ws H) (hD : va_D A ws) (hS : va_S A H0 H locs) (q0 t0 : Nat) {ad : Nat} {cA : ClassId} {n : Nat} {f : Int → Int} (ha : ws[q0]? = some (ad, .inl (cA, n, .inr (.inl (azl f))))) (ht : tys[t0]? = some (cA, .long)) {i x : Int} (h0 : 0 ≤ i) (h1 : i < (n : Int)) (hn : (n : Int) ≤ 2147483647) (hdg : decode cc pc = .ok (.lastore, 1)) (kk : ∀ (H1 : Heap) (locs1 : List Loc), va_P D cl (ws.set q0 (ad, .inl (cA, n, .inr (.inl (azl (up f i x)))))) H1 → va_D A (ws.set q0 (ad, .inl (cA, n, .inr (.inl (azl (up f i x)))))) → va_S A H0 H1 locs1 → W p l e R s m args below meth c H1 locs1 cells slots Q (F0 m (pc + 1) ls (rest))) : W p l e R s m args below meth c H locs cells slots Q (F0 m pc ls (.long (lz x) :: .int (iz i) :: .ref ad :: rest)) := by
  rw [← azl_up f h0 x, ← iz_cl h0 (by omega)] at kk
  exact va_last hx hb hK hP hD hS q0 t0 ha ht (iz_in h0 h1 hn) hdg kk
theorem z_alen (hx : p.tables.exec = Jvm.exec) (hb : c.code = cc) (hK : va_K D cl tys s) (hP : va_P D cl ws H) (q0 t0 : Nat) {ad : Nat} {cA : ClassId} {x : vp_A} {ty : FieldType} (v : Int) (ha : ws[q0]? = some (ad, .inl (cA, x))) (ht : tys[t0]? = some (cA, ty)) (hv : (x.1 : Int) = v) (hdg : decode cc pc = .ok (.arraylength, 1)) (kk : W p l e R s m args below meth c H locs cells slots Q (F0 m (pc + 1) ls (.int (iz v) :: rest))) : W p l e R s m args below meth c H locs cells slots Q (F0 m pc ls (.ref ad :: rest)) := va_alen hx hb hK hP q0 t0 ha ht (by rw [← hv]; exact (Int32.ofInt_eq_ofNat).symm) hdg kk
end ZRows
