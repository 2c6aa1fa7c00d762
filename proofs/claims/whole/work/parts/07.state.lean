/-! what a state of the class is: the value (scaled by 10^1080) and the text -/
/-- the value of the first n limbs, the highest first -/
def pv (f : Int → Int) : Nat → Int
  | 0 => 0
  | n + 1 => pv f n * 1000000000 + f (n : Int)
def DecOK (f : Int → Int) (fi lt V : Int) : Prop := (0 ≤ fi ∧ fi ≤ lt ∧ lt ≤ 154) ∧ (∀ j, 0 ≤ f j ∧ f j < 1000000000) ∧ (∀ j, j < fi ∨ lt < j → f j = 0) ∧ pv f 155 = V
def TxOK (g : Int → Int) (n : Int) (tx : List Int) : Prop := n = (tx.length : Int) ∧ tx.length ≤ 1612 ∧ (∀ i : Nat, i < tx.length → g (i : Int) = tx.getD i 0) ∧ ∀ ch ∈ tx, 0 ≤ ch ∧ ch < 128
def AX (x d la t ba : Nat) : Nat → Prop := fun q => q = x ∨ q = d ∨ q = la ∨ q = t ∨ q = ba
abbrev tysX (cI cB : ClassId) : List (ClassId × FieldType) := [(cI, .int), (cB, .byte)]
/-- the table of powers of ten, the constants of the enum -/
def nmF : List String := ["DOUBLE", "FLOAT"]
def flF : List (String × String × String × List Int32) := [("ExactNotation$Format", "fractionBits", "I", [52, 23]), ("ExactNotation$Format", "exponentOnes", "I", [2047, 255]), ("ExactNotation$Format", "leastPower", "I", [-1074, -149])]
def tenTo : Nat → Value := fun j => .int (iz (10 ^ j))
def STX (A : Nat → Prop) (tt : Nat) (ad : Nat → Nat) (U : State) (H : Heap) : Prop := va_Z "ExactNotation$Decimal" "TEN_TO" "[I" (.ref tt) A U H ∧ va_T .int tt 9 tenTo A U H ∧ va_En "ExactNotation$Format" "LExactNotation$Format;" nmF flF ad A U H
theorem STX.moved {A : Nat → Prop} {tt : Nat} {ad : Nat → Nat} {u U : State} {H : Heap} (hv : u.vm.Alike U.vm) (h : STX A tt ad u H) : STX A tt ad U H := ⟨va_Z.moved hv h.1, va_T.moved hv h.2.1, va_En.moved hv h.2.2⟩
theorem STX.kept {A : Nat → Prop} {tt : Nat} {ad : Nat → Nat} {U : State} {H H1 : Heap} (h : STX A tt ad U H) (hq : ∀ a : Nat, a < H.size → ¬ A a → H1[a]? = H[a]?) : STX A tt ad U H1 := ⟨h.1.kept hq, h.2.1.kept hq, h.2.2.kept hq⟩
def XL (D : va_G) (cI cB : ClassId) (x d la t ba tt : Nat) (ad : Nat → Nat) (V lt : Int) (tx : List Int) (U : State) (H : Heap) : Prop :=
  ∃ (f : Int → Int) (fi : Int) (g : Int → Int) (n : Int), Wl D vwCl (tysX cI cB) (AX x d la t ba) [(x, .inr (0, [.ref d, .ref t])), (d, .inr (1, [.ref la, .int (iz fi), .int (iz lt)])), (la, .inl (cI, 155, .inl (az f))), (t, .inr (2, [.ref ba, .int (iz n)])), (ba, .inl (cB, 1612, .inl (az g)))] U H ∧ DecOK f fi lt V ∧ TxOK g n tx ∧ STX (AX x d la t ba) tt ad U H
theorem XL.moved {D : va_G} {cI cB : ClassId} {x d la t ba tt : Nat} {ad : Nat → Nat} {V lt : Int} {tx : List Int} {u U : State} {H : Heap} (hv : u.vm.Alike U.vm) (h : XL D cI cB x d la t ba tt ad V lt tx u H) : XL D cI cB x d la t ba tt ad V lt tx U H := by
  obtain ⟨f, fi, g, n, h1, h2, h3, h4⟩ := h
  exact ⟨f, fi, g, n, Wl.moved hv h1, h2, h3, STX.moved hv h4⟩
theorem XL.st {D : va_G} {cI cB : ClassId} {x d la t ba tt : Nat} {ad : Nat → Nat} {V lt : Int} {tx : List Int} {U : State} {H : Heap} (h : XL D cI cB x d la t ba tt ad V lt tx U H) : STX (AX x d la t ba) tt ad U H := by
  obtain ⟨f, fi, g, n, h1, h2, h3, h4⟩ := h
  exact h4
theorem zSa_XL {D : va_G} {cI cB : ClassId} {x d la t ba tt : Nat} {ad : Nat → Nat} {V lt : Int} {tx : List Int} : zSa (XL D cI cB x d la t ba tt ad V lt tx) := fun _ _ _ hv h => XL.moved hv h
theorem zSt_XL {D : va_G} {cI cB : ClassId} {x d la t ba tt : Nat} {ad : Nat → Nat} {V lt : Int} {tx : List Int} : zSt (XL D cI cB x d la t ba tt ad V lt tx) := zSt_of zSa_XL
def XW (D : va_G) (cI cB : ClassId) (x d la t ba tt : Nat) (ad : Nat → Nat) (V : Int) (tx : List Int) (U : State) (H : Heap) : Prop := ∃ lt : Int, XL D cI cB x d la t ba tt ad V lt tx U H
theorem XW.moved {D : va_G} {cI cB : ClassId} {x d la t ba tt : Nat} {ad : Nat → Nat} {V : Int} {tx : List Int} {u U : State} {H : Heap} (hv : u.vm.Alike U.vm) (h : XW D cI cB x d la t ba tt ad V tx u H) : XW D cI cB x d la t ba tt ad V tx U H := ⟨h.choose, XL.moved hv h.choose_spec⟩
theorem XW.st {D : va_G} {cI cB : ClassId} {x d la t ba tt : Nat} {ad : Nat → Nat} {V : Int} {tx : List Int} {U : State} {H : Heap} (h : XW D cI cB x d la t ba tt ad V tx U H) : STX (AX x d la t ba) tt ad U H := h.choose_spec.st
theorem zSa_XW {D : va_G} {cI cB : ClassId} {x d la t ba tt : Nat} {ad : Nat → Nat} {V : Int} {tx : List Int} : zSa (XW D cI cB x d la t ba tt ad V tx) := fun _ _ _ hv h => XW.moved hv h
theorem zSt_XW {D : va_G} {cI cB : ClassId} {x d la t ba tt : Nat} {ad : Nat → Nat} {V : Int} {tx : List Int} : zSt (XW D cI cB x d la t ba tt ad V tx) := zSt_of zSa_XW
theorem XL.recv {D : va_G} {cI cB : ClassId} {x d la t ba tt : Nat} {ad : Nat → Nat} {V lt : Int} {tx : List Int} {U : State} {H : Heap} (h : XL D cI cB x d la t ba tt ad V lt tx U H) : ∃ cell : Cell, H[d]? = some cell ∧ cell.vm.isStatics = false ∧ U.vm.findClass "ExactNotation$Decimal" = some cell.cls := by
  obtain ⟨f, fi, g, n, ⟨hK, hP, hD⟩, h2, h3, h4⟩ := h
  exact va_recv hK hP (ci := 1) (q0 := 1) rfl rfl
/-! limbs -/
theorem pv_congr {f g : Int → Int} : ∀ {n : Nat}, (∀ j : Int, 0 ≤ j → j < (n : Int) → f j = g j) → pv f n = pv g n
  | 0, _ => rfl
  | n + 1, h => by
    show pv f n * 1000000000 + f (n : Int) = pv g n * 1000000000 + g (n : Int)
    rw [pv_congr (n := n) (fun j h0 h1 => h j h0 (by omega)), h (n : Int) (by omega) (by omega)]
theorem pv_up {f : Int → Int} {k : Nat} {x : Int} : ∀ (i : Nat), pv (up f (k : Int) x) (k + 1 + i) = pv f (k + 1 + i) + (x - f (k : Int)) * 1000000000 ^ i
  | 0 => by
    show pv (up f (k : Int) x) k * 1000000000 + up f (k : Int) x (k : Int) = pv f k * 1000000000 + f (k : Int) + (x - f (k : Int)) * 1000000000 ^ 0
    rw [up_s, pv_congr (f := up f (k : Int) x) (g := f) (fun j h0 h1 => up_n f x (by omega)), Int.pow_zero]
    omega
  | i + 1 => by
    show pv (up f (k : Int) x) (k + 1 + i) * 1000000000 + up f (k : Int) x ((k + 1 + i : Nat) : Int) = pv f (k + 1 + i) * 1000000000 + f ((k + 1 + i : Nat) : Int) + (x - f (k : Int)) * 1000000000 ^ (i + 1)
    rw [pv_up i, up_n f x (by omega), Int.pow_succ]
    generalize pv f (k + 1 + i) = a
    generalize f ((k + 1 + i : Nat) : Int) = b
    generalize (1000000000 : Int) ^ i = z
    generalize x - f (k : Int) = y
    rw [Int.add_mul, Int.mul_assoc]
    omega
/-- one limb of the 155 changed -/
theorem pv_up155 {f : Int → Int} {k : Nat} {x : Int} (hk : k < 155) : pv (up f (k : Int) x) 155 = pv f 155 + (x - f (k : Int)) * 1000000000 ^ (154 - k) := by
  have h := pv_up (f := f) (k := k) (x := x) (154 - k)
  rwa [show k + 1 + (154 - k) = 155 by omega] at h
theorem pv_nn {f : Int → Int} (h : ∀ j, 0 ≤ f j ∧ f j < 1000000000) : ∀ n, 0 ≤ pv f n ∧ pv f n < 1000000000 ^ n
  | 0 => ⟨Int.le_refl 0, by show (0 : Int) < 1; decide⟩
  | n + 1 => by
    show 0 ≤ pv f n * 1000000000 + f (n : Int) ∧ pv f n * 1000000000 + f (n : Int) < 1000000000 ^ (n + 1)
    have h1 := pv_nn h n
    have h2 := h (n : Int)
    rw [Int.pow_succ]
    generalize (1000000000 : Int) ^ n = z at h1 ⊢
    omega
theorem pv_zero {f : Int → Int} : ∀ {n : Nat}, (∀ j : Int, 0 ≤ j → j < (n : Int) → f j = 0) → pv f n = 0
  | 0, _ => rfl
  | n + 1, h => by
    show pv f n * 1000000000 + f (n : Int) = 0
    rw [pv_zero (n := n) (fun j h0 h1 => h j h0 (by omega)), h (n : Int) (by omega) (by omega)]
    rfl
theorem pv_tail {f : Int → Int} {k : Nat} : ∀ (i : Nat), (∀ j : Int, (k : Int) ≤ j → j < ((k + i : Nat) : Int) → f j = 0) → pv f (k + i) = pv f k * 1000000000 ^ i
  | 0, _ => by rw [Int.pow_zero, Int.mul_one]; rfl
  | i + 1, h => by
    show pv f (k + i) * 1000000000 + f ((k + i : Nat) : Int) = _
    rw [pv_tail i (fun j h0 h1 => h j h0 (by omega)), h _ (by omega) (by omega), Int.pow_succ, Int.add_zero, Int.mul_assoc]
/-- the first k limbs and the rest -/
theorem pv_split {f : Int → Int} (hf : ∀ j, 0 ≤ f j ∧ f j < 1000000000) {k : Nat} : ∀ (i : Nat), ∃ r, pv f (k + i) = pv f k * 1000000000 ^ i + r ∧ 0 ≤ r ∧ r < 1000000000 ^ i
  | 0 => ⟨0, by rw [Int.pow_zero, Int.mul_one, Int.add_zero]; rfl, Int.le_refl 0, by decide⟩
  | i + 1 => by
    obtain ⟨r, h1, h2, h3⟩ := pv_split hf (k := k) i
    have h4 := hf ((k + i : Nat) : Int)
    refine ⟨r * 1000000000 + f ((k + i : Nat) : Int), ?_, ?_, ?_⟩
    · show pv f (k + i) * 1000000000 + f ((k + i : Nat) : Int) = _
      rw [h1, Int.pow_succ, Int.add_mul, Int.mul_assoc, Int.add_assoc]
    · omega
    · rw [Int.pow_succ]
      generalize (1000000000 : Int) ^ i = z at h3 ⊢
      omega
theorem pow_pos10 (n : Nat) : (0 : Int) < 10 ^ n := Int.pow_pos (by decide)
theorem powB (n : Nat) : (1000000000 : Int) ^ n = 10 ^ (9 * n) := by
  rw [Int.pow_mul]
  rfl
/-! digits: the place k of V, that is scaled by 10^1080 -/
def dgt (V k : Int) : Int := if k < -1080 then 0 else V / 10 ^ (k + 1080).toNat % 10
def IsLead (V r : Int) : Prop := (V = 0 ∧ r = 0) ∨ (-1080 ≤ r ∧ 10 ^ (r + 1080).toNat ≤ V ∧ V < 10 ^ ((r + 1080).toNat + 1))
theorem dgt_r (V k : Int) : 0 ≤ dgt V k ∧ dgt V k ≤ 9 := by
  unfold dgt
  split
  · omega
  · omega
theorem pow10_le {a b : Nat} (h : a ≤ b) : (10 : Int) ^ a ≤ 10 ^ b := by
  have e : b = a + (b - a) := by omega
  rw [e, Int.pow_add]
  have h1 := pow_pos10 a
  have h2 := pow_pos10 (b - a)
  generalize (10 : Int) ^ a = u at *
  generalize (10 : Int) ^ (b - a) = w at *
  calc u = u * 1 := (Int.mul_one u).symm
    _ ≤ u * w := Int.mul_le_mul_of_nonneg_left h2 (Int.le_of_lt h1)
theorem IsLead.uniq {V r q : Int} (h1 : IsLead V r) (h2 : IsLead V q) : r = q := by
  rcases h1 with ⟨a, b⟩ | ⟨a, b, c⟩
  · rcases h2 with ⟨a2, b2⟩ | ⟨a2, b2, c2⟩
    · omega
    · have := pow_pos10 (q + 1080).toNat
      omega
  · rcases h2 with ⟨a2, b2⟩ | ⟨a2, b2, c2⟩
    · have := pow_pos10 (r + 1080).toNat
      omega
    · by_cases hlt : r < q
      · have := pow10_le (a := (r + 1080).toNat + 1) (b := (q + 1080).toNat) (by omega)
        omega
      · by_cases hgt : q < r
        · have := pow10_le (a := (q + 1080).toNat + 1) (b := (r + 1080).toNat) (by omega)
          omega
        · omega
theorem div_pow_lt {V : Int} {n : Nat} (h0 : 0 ≤ V) (h : V < 10 ^ n) : V / 10 ^ n = 0 := Int.ediv_eq_zero_of_lt h0 h
/-- a digit of a limb -/
theorem dgt_limb {f : Int → Int} (hf : ∀ j, 0 ≤ f j ∧ f j < 1000000000) {k w : Nat} (hk : k < 155) (hw : w < 9) : pv f 155 / 10 ^ (9 * (154 - k) + w) % 10 = f (k : Int) / 10 ^ w % 10 := by
  obtain ⟨r, h1, h2, h3⟩ := pv_split hf (k := k + 1) (154 - k)
  rw [show k + 1 + (154 - k) = 155 by omega] at h1
  rw [h1, Int.pow_add, ← powB]
  have h4 : (pv f (k + 1) * 1000000000 ^ (154 - k) + r) / (1000000000 ^ (154 - k) * 10 ^ w) = pv f (k + 1) / 10 ^ w := by
    have hp : (0 : Int) < 1000000000 ^ (154 - k) := Int.pow_pos (by decide)
    rw [← Int.ediv_ediv_of_nonneg (Int.le_of_lt hp), Int.add_comm, Int.add_mul_ediv_right _ _ (by omega), Int.ediv_eq_zero_of_lt h2 h3, Int.zero_add]
  rw [h4]
  show (pv f k * 1000000000 + f (k : Int)) / 10 ^ w % 10 = _
  have hw' : w = 0 ∨ w = 1 ∨ w = 2 ∨ w = 3 ∨ w = 4 ∨ w = 5 ∨ w = 6 ∨ w = 7 ∨ w = 8 := by omega
  generalize pv f k = a
  generalize f (k : Int) = b
  rcases hw' with h | h | h | h | h | h | h | h | h <;> subst h <;> omega
