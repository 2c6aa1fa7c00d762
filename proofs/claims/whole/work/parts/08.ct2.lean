section ZMore
variable {p : Program} {l : Launch} {e : Env} {R : Room} {s : State} {m : MethodId} {args : Array Value} {below : List Frame} {meth : Method} {c : Code} {H H0 : Heap} {locs : List Loc} {cells slots : Nat} {Q : State → Prop} {cc : ByteArray} {pc : Nat} {ls : Array Slot} {rest st0 : List Value} {A : Nat → Prop}
theorem z_mmin (hx : p.tables.exec = Jvm.exec) (hb : c.code = cc) (hml : c.maxLocals = ls.size) {own : String} {index : Nat} (hown : s.vm.findClass own = some m.cls) (hlink : (Cond.methodLink own index Lib.Math.min.name).before args s = true) (hstat : (Cond.static Lib.Math.min.name).before args s = true) (hini : (Cond.initialized "java/lang/Math").before args s = true) (hcode : (Cond.code Lib.Math.min.name Lib.Math.min.code 2 (some .int)).before args s = true)
    (hframes : 1 ≤ R.frames) (hlocals : (rest.map fun v => v.category).sum + 13 ≤ R.locals) (hc : cells ≤ R.cells) (hs : slots ≤ R.slots) {a b : Int} (ha : iR a) (hb2 : iR b) (hdg : decode cc pc = .ok (.invokestatic index, 3))
    (kk : W p l e R s m args below meth c H locs cells slots Q (F0 m (pc + 3) ls (.int (iz (min a b)) :: rest))) : W p l e R s m args below meth c H locs cells slots Q (F0 m pc ls (.int (iz b) :: .int (iz a) :: rest)) := by
  refine va_mmin hx hb hml hown hlink hstat hini hcode hframes hlocals hc hs hdg ?_
  rw [show (if iz b < iz a then iz b else iz a) = iz (min a b) by
    by_cases h : b < a
    · rw [if_pos ((iz_lt hb2 ha).mpr h), show min a b = b by omega]
    · rw [if_neg (fun h2 => h ((iz_lt hb2 ha).mp h2)), show min a b = a by omega]]
  exact kk
theorem z_mmax (hx : p.tables.exec = Jvm.exec) (hb : c.code = cc) (hml : c.maxLocals = ls.size) {own : String} {index : Nat} (hown : s.vm.findClass own = some m.cls) (hlink : (Cond.methodLink own index Lib.Math.max.name).before args s = true) (hstat : (Cond.static Lib.Math.max.name).before args s = true) (hini : (Cond.initialized "java/lang/Math").before args s = true) (hcode : (Cond.code Lib.Math.max.name Lib.Math.max.code 2 (some .int)).before args s = true)
    (hframes : 1 ≤ R.frames) (hlocals : (rest.map fun v => v.category).sum + 13 ≤ R.locals) (hc : cells ≤ R.cells) (hs : slots ≤ R.slots) {a b : Int} (ha : iR a) (hb2 : iR b) (hdg : decode cc pc = .ok (.invokestatic index, 3))
    (kk : W p l e R s m args below meth c H locs cells slots Q (F0 m (pc + 3) ls (.int (iz (max a b)) :: rest))) : W p l e R s m args below meth c H locs cells slots Q (F0 m pc ls (.int (iz b) :: .int (iz a) :: rest)) := by
  refine va_mmax hx hb hml hown hlink hstat hini hcode hframes hlocals hc hs hdg ?_
  rw [show (if iz a < iz b then iz b else iz a) = iz (max a b) by
    by_cases h : a < b
    · rw [if_pos ((iz_lt ha hb2).mpr h), show max a b = b by omega]
    · rw [if_neg (fun h2 => h ((iz_lt ha hb2).mp h2)), show max a b = a by omega]]
  exact kk
theorem z_mabs (hx : p.tables.exec = Jvm.exec) (hb : c.code = cc) (hml : c.maxLocals = ls.size) {own : String} {index : Nat} (hown : s.vm.findClass own = some m.cls) (hlink : (Cond.methodLink own index Lib.Math.abs.name).before args s = true) (hstat : (Cond.static Lib.Math.abs.name).before args s = true) (hini : (Cond.initialized "java/lang/Math").before args s = true) (hcode : (Cond.code Lib.Math.abs.name Lib.Math.abs.code 1 (some .int)).before args s = true)
    (hframes : 1 ≤ R.frames) (hlocals : (rest.map fun v => v.category).sum + 13 ≤ R.locals) (hc : cells ≤ R.cells) (hs : slots ≤ R.slots) {a : Int} (ha : iR a) (hdg : decode cc pc = .ok (.invokestatic index, 3))
    (kk : W p l e R s m args below meth c H locs cells slots Q (F0 m (pc + 3) ls (.int (iz (max a (-a))) :: rest))) : W p l e R s m args below meth c H locs cells slots Q (F0 m pc ls (.int (iz a) :: rest)) := by
  refine va_mabs hx hb hml hown hlink hstat hini hcode hframes hlocals hc hs hdg ?_
  rw [show (if 0 ≤ iz a then iz a else 0 - iz a) = iz (max a (-a)) by
    by_cases h : 0 ≤ a
    · rw [if_pos (by rw [← iz_0]; exact (iz_le ⟨by omega, by omega⟩ ha).mpr h), show max a (-a) = a by omega]
    · rw [if_neg (fun h2 => h (by rw [← iz_0] at h2; exact (iz_le ⟨by omega, by omega⟩ ha).mp h2)), show max a (-a) = 0 - a by omega, iz_sub, iz_0]]
  exact kk
theorem z_ten {tt : Nat} (hx : p.tables.exec = Jvm.exec) (hb : c.code = cc) (hT : va_T .int tt 9 tenTo A s s.heap) (hS : va_S A s.heap H locs) {i : Int} (h0 : 0 ≤ i) (h1 : i < 9) (hdg : decode cc pc = .ok (.iaload, 1))
    (kk : W p l e R s m args below meth c H locs cells slots Q (F0 m (pc + 1) ls (.int (iz (10 ^ i.toNat)) :: rest))) : W p l e R s m args below meth c H locs cells slots Q (F0 m pc ls (.int (iz i) :: .ref tt :: rest)) :=
  va_ti hx hb hT hS (iz_in h0 (by omega) (by decide)) (by rw [iz_cl h0 (by omega)]; rfl) hdg kk
end ZMore
/-- a result, and what holds behind the call -/
def zR (r : Option Value) (P : State → Heap → Prop) : Option Value → State → Heap → Prop := fun v U H => v = r ∧ P U H
theorem zR_st {r v : Option Value} {P : State → Heap → Prop} (h : zSt P) : zSt (zR r P v) := fun u U H hv q => ⟨q.1, h u U H hv q.2⟩
/-! the text -/
theorem TxOK_add {g : Int → Int} {n : Int} {tx : List Int} {ch : Int} (h : TxOK g n tx) (hl : tx.length < 1612) (hc : 0 ≤ ch ∧ ch < 128) : TxOK (up g n ch) (n + 1) (tx ++ [ch]) := by
  obtain ⟨h1, h2, h3, h4⟩ := h
  refine ⟨by rw [List.length_append, h1]; rfl, by rw [List.length_append]; show tx.length + 1 ≤ 1612; omega, fun i hi => ?_, fun c hm => ?_⟩
  · rw [List.length_append] at hi
    have hi : i < tx.length + 1 := hi
    by_cases hq : i = tx.length
    · subst hq
      rw [h1, up_s]
      simp [List.getD]
    · rw [up_n g ch (by omega), h3 i (by omega)]
      simp only [List.getD]
      rw [List.getElem?_append_left (by omega)]
  · rcases List.mem_append.mp hm with q | q
    · exact h4 c q
    · rw [List.mem_singleton] at q
      subst q
      exact hc
theorem TxOK_nil {g : Int → Int} : TxOK g 0 [] := ⟨rfl, by decide, fun i h => absurd h (Nat.not_lt_zero _), fun c h => by cases h⟩
/-- eight bytes -/
def w8 (tx : List Int) (st : Nat) : Nat → Int
  | 0 => 0
  | j + 1 => w8 tx st j * 2 ^ 8 + tx.getD (st + j) 0
theorem tx_getD {tx : List Int} (h : ∀ ch ∈ tx, 0 ≤ ch ∧ ch < 128) (i : Nat) : 0 ≤ tx.getD i 0 ∧ tx.getD i 0 < 128 := by
  simp only [List.getD]
  cases hq : tx[i]? with
  | none => exact ⟨by decide, by decide⟩
  | some y => exact h y (List.mem_of_getElem? hq)
theorem w8_b {tx : List Int} (h : ∀ ch ∈ tx, 0 ≤ ch ∧ ch < 128) (st : Nat) : ∀ j : Nat, 0 ≤ w8 tx st j ∧ (w8 tx st j = 0 ∨ 2 * w8 tx st j < 256 ^ j)
  | 0 => ⟨Int.le_refl 0, Or.inl rfl⟩
  | j + 1 => by
    show 0 ≤ w8 tx st j * 2 ^ 8 + tx.getD (st + j) 0 ∧ (_ ∨ 2 * (w8 tx st j * 2 ^ 8 + tx.getD (st + j) 0) < 256 ^ (j + 1))
    have h1 := w8_b h st j
    have h2 := tx_getD h (st + j)
    rw [Int.pow_succ 256 j]
    have h3 : (0 : Int) < 256 ^ j := Int.pow_pos (by decide)
    generalize (256 : Int) ^ j = z at h1 h3 ⊢
    refine ⟨by omega, Or.inr ?_⟩
    rcases h1.2 with h4 | h4
    · rw [h4]; omega
    · omega
theorem w8_le {tx : List Int} (h : ∀ ch ∈ tx, 0 ≤ ch ∧ ch < 128) (st : Nat) {j : Nat} (hj : j ≤ 7) : 0 ≤ w8 tx st j ∧ w8 tx st j < 36028797018963968 := by
  have h1 := w8_b h st j
  have h2 : (256 : Int) ^ j ≤ 256 ^ 7 := by
    have hj' : j = 0 ∨ j = 1 ∨ j = 2 ∨ j = 3 ∨ j = 4 ∨ j = 5 ∨ j = 6 ∨ j = 7 := by omega
    rcases hj' with h | h | h | h | h | h | h | h <;> subst h <;> decide
  have h3 : (256 : Int) ^ 7 = 72057594037927936 := by decide
  omega
/-! digits of the limbs -/
theorem dgt_pv {f : Int → Int} (hf : ∀ j, 0 ≤ f j ∧ f j < 1000000000) {pl : Int} (h0 : 0 ≤ 34 - pl / 9) (h1 : 34 - pl / 9 ≤ 154) : dgt (pv f 155) pl = f (34 - pl / 9) / 10 ^ (pl % 9).toNat % 10 := by
  obtain ⟨k, hk⟩ := Int.eq_ofNat_of_zero_le h0
  have h := dgt_limb hf (k := k) (w := (pl % 9).toNat) (by omega) (by omega)
  rw [hk, ← h]
  unfold dgt
  rw [if_neg (by omega), show (pl + 1080).toNat = 9 * (154 - k) + (pl % 9).toNat by omega]
theorem pow10_lt {a b : Nat} (h : a < b) : (10 : Int) ^ a < 10 ^ b := by
  have h1 := pow10_le (a := a + 1) (b := b) h
  have h2 := pow_pos10 a
  rw [Int.pow_succ] at h1
  omega
theorem dgt_hi {V pl : Int} {n : Nat} (h0 : 0 ≤ V) (hV : V < 10 ^ n) (hn : (n : Int) ≤ pl + 1080) : dgt V pl = 0 := by
  unfold dgt
  rw [if_neg (by omega)]
  have h1 := pow10_le (a := n) (b := (pl + 1080).toNat) (by omega)
  rw [Int.ediv_eq_zero_of_lt h0 (by omega)]
  rfl
theorem pv_lt155 {f : Int → Int} (hf : ∀ j, 0 ≤ f j ∧ f j < 1000000000) : 0 ≤ pv f 155 ∧ pv f 155 < 10 ^ 1395 := by
  have h := pv_nn hf 155
  rw [powB] at h
  exact h
theorem dgt_out {f : Int → Int} (hf : ∀ j, 0 ≤ f j ∧ f j < 1000000000) {fi lt pl : Int} (hz : ∀ j, j < fi ∨ lt < j → f j = 0) (h : 34 - pl / 9 < fi ∨ lt < 34 - pl / 9) : dgt (pv f 155) pl = 0 := by
  by_cases h0 : 34 - pl / 9 < 0
  · exact dgt_hi (n := 1395) (pv_lt155 hf).1 (pv_lt155 hf).2 (by omega)
  · by_cases h1 : 154 < 34 - pl / 9
    · unfold dgt
      rw [if_pos (by omega)]
    · rw [dgt_pv hf (by omega) (by omega), hz _ h, Int.zero_ediv]
      rfl
theorem lead_at {f : Int → Int} (hf : ∀ j, 0 ≤ f j ∧ f j < 1000000000) {i w : Int} (hi : 0 ≤ i ∧ i ≤ 154) (hw : 0 ≤ w ∧ w ≤ 8) (hz : ∀ j, j < i → f j = 0) (h1 : 10 ^ w.toNat ≤ f i) (h2 : f i < 10 ^ (w + 1).toNat) : IsLead (pv f 155) ((34 - i) * 9 + w) := by
  obtain ⟨k, rfl⟩ := Int.eq_ofNat_of_zero_le hi.1
  obtain ⟨u, rfl⟩ := Int.eq_ofNat_of_zero_le hw.1
  obtain ⟨r, e1, e2, e3⟩ := pv_split hf (k := k + 1) (154 - k)
  rw [show k + 1 + (154 - k) = 155 by omega] at e1
  have e4 : pv f (k + 1) = f (k : Int) := by
    show pv f k * 1000000000 + f (k : Int) = _
    rw [pv_zero (fun j _ hj => hz j hj)]
    omega
  rw [e4] at e1
  refine Or.inr ⟨by omega, ?_, ?_⟩
  · rw [show ((34 - (k : Int)) * 9 + (u : Int) + 1080).toNat = 9 * (154 - k) + u by omega, Int.pow_add, ← powB, e1]
    have hp : (0 : Int) < 1000000000 ^ (154 - k) := Int.pow_pos (by decide)
    rw [Int.toNat_natCast] at h1
    have := Int.mul_le_mul_of_nonneg_left h1 (Int.le_of_lt hp)
    rw [Int.mul_comm (f (k : Int))]
    omega
  · rw [show ((34 - (k : Int)) * 9 + (u : Int) + 1080).toNat + 1 = 9 * (154 - k) + (u + 1) by omega, Int.pow_add, ← powB, e1]
    have hp : (0 : Int) < 1000000000 ^ (154 - k) := Int.pow_pos (by decide)
    rw [show ((u : Int) + 1).toNat = u + 1 by omega] at h2
    have := Int.mul_le_mul_of_nonneg_left (show f (k : Int) + 1 ≤ 10 ^ (u + 1) by omega) (Int.le_of_lt hp)
    rw [Int.mul_comm (f (k : Int))]
    rw [Int.mul_add, Int.mul_one] at this
    omega
theorem lead_none {f : Int → Int} {fi lt : Int} (hlt : lt ≤ 154) (hz : ∀ j, j < fi ∨ lt < j → f j = 0) (h : ∀ j, fi ≤ j → j ≤ lt → f j = 0) : IsLead (pv f 155) 0 := Or.inl ⟨pv_zero (fun j _ _ => by
  by_cases h1 : j < fi
  · exact hz j (Or.inl h1)
  · by_cases h2 : lt < j
    · exact hz j (Or.inr h2)
    · exact h j (by omega) (by omega)), rfl⟩
