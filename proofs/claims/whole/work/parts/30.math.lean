/-! the reference's limbs, the lowest first -/
def le9 (f : Int → Int) : Nat → Int
  | 0 => 0
  | n + 1 => le9 f n + f (n : Int) * 1000000000 ^ n
def LmOK (f : Int → Int) (used L : Int) : Prop := (0 ≤ used ∧ used ≤ 160) ∧ (∀ j, 0 ≤ f j ∧ f j < 1000000000) ∧ le9 f used.toNat = L
theorem le9_congr {f g : Int → Int} : ∀ {n : Nat}, (∀ j : Int, 0 ≤ j → j < (n : Int) → f j = g j) → le9 f n = le9 g n
  | 0, _ => rfl
  | n + 1, h => by
    show le9 f n + f (n : Int) * _ = le9 g n + g (n : Int) * _
    rw [le9_congr (n := n) (fun j h0 h1 => h j h0 (by omega)), h (n : Int) (by omega) (by omega)]
theorem le9_nn {f : Int → Int} (h : ∀ j, 0 ≤ f j ∧ f j < 1000000000) : ∀ n, 0 ≤ le9 f n ∧ le9 f n < 1000000000 ^ n
  | 0 => ⟨Int.le_refl 0, by show (0 : Int) < 1; decide⟩
  | n + 1 => by
    show 0 ≤ le9 f n + f (n : Int) * 1000000000 ^ n ∧ le9 f n + f (n : Int) * 1000000000 ^ n < 1000000000 ^ (n + 1)
    have h1 := le9_nn h n
    have h2 := h (n : Int)
    have hp : (0 : Int) < 1000000000 ^ n := Int.pow_pos (by decide)
    rw [Int.pow_succ]
    generalize (1000000000 : Int) ^ n = z at h1 hp ⊢
    have h3 : 0 ≤ f (n : Int) * z := Int.mul_nonneg h2.1 (Int.le_of_lt hp)
    have h4 : f (n : Int) * z ≤ 999999999 * z := Int.mul_le_mul_of_nonneg_right (by omega) (Int.le_of_lt hp)
    omega
/-- times a number, limb by limb -/
def TimI (f h : Int → Int) (by_ i cy : Int) : Prop := 0 ≤ i ∧ (0 ≤ cy ∧ cy < by_) ∧ (∀ j, 0 ≤ h j ∧ h j < 1000000000) ∧ (∀ j, i ≤ j → h j = f j) ∧ le9 h i.toNat + cy * 1000000000 ^ i.toNat = by_ * le9 f i.toNat
theorem TimI.start {f : Int → Int} {by_ : Int} (hf : ∀ j, 0 ≤ f j ∧ f j < 1000000000) (h : 0 < by_) : TimI f f by_ 0 0 := ⟨Int.le_refl 0, ⟨by omega, h⟩, hf, fun _ _ => rfl, by show 0 + 0 * _ = by_ * 0; omega⟩
theorem TimI.b {f h : Int → Int} {by_ i cy : Int} (ht : TimI f h by_ i cy) (hb : by_ ≤ 536870912) : 0 ≤ h i * by_ ∧ h i * by_ ≤ 536870912000000000 := mul_b (ht.2.2.1 i) ⟨by have := ht.2.1; omega, hb⟩
theorem TimI.step {f h : Int → Int} {by_ i cy : Int} (ht : TimI f h by_ i cy) : TimI f (up h i ((cy + h i * by_) % 1000000000)) by_ (i + 1) ((cy + h i * by_) / 1000000000) := by
  obtain ⟨h1, h2, h3, h4, h5⟩ := ht
  have hc := mul_c (h3 i) (show 0 < by_ by omega) h2
  rw [Int.add_comm] at hc
  refine ⟨by omega, hc, fun j => ?_, fun j hj => by rw [up_n _ _ (by omega)]; exact h4 j (by omega), ?_⟩
  · by_cases hq : j = i
    · rw [hq, up_s]; omega
    · rw [up_n _ _ hq]; exact h3 j
  · obtain ⟨k, rfl⟩ := Int.eq_ofNat_of_zero_le h1
    rw [show ((k : Int) + 1).toNat = k + 1 by omega]
    rw [Int.toNat_natCast] at h5
    show le9 (up h (k : Int) _) k + up h (k : Int) _ (k : Int) * 1000000000 ^ k + _ * 1000000000 ^ (k + 1) = by_ * (le9 f k + f (k : Int) * 1000000000 ^ k)
    rw [up_s, le9_congr (f := up h (k : Int) _) (g := h) (fun j _ hj => up_n h _ (by omega)), ← h4 (k : Int) (by omega), Int.pow_succ]
    have e := Int.emod_add_mul_ediv (cy + h (k : Int) * by_) 1000000000
    generalize (cy + h (k : Int) * by_) / 1000000000 = q at *
    generalize (cy + h (k : Int) * by_) % 1000000000 = r at *
    generalize (1000000000 : Int) ^ k = z at *
    generalize le9 h k = a at *
    generalize le9 f k = b at *
    generalize h (k : Int) = y at *
    grind
theorem TimI.stop0 {f h : Int → Int} {by_ used L : Int} (hl : LmOK f used L) (ht : TimI f h by_ used 0) : LmOK h used (by_ * L) := by
  obtain ⟨l1, l2, l3⟩ := hl
  obtain ⟨h1, h2, h3, h4, h5⟩ := ht
  refine ⟨l1, h3, ?_⟩
  rw [← l3, ← h5]
  omega
theorem TimI.lt {f h : Int → Int} {by_ used cy L : Int} (hl : LmOK f used L) (ht : TimI f h by_ used cy) (hc : 0 < cy) (hL : by_ * L < 1000000000 ^ 160) : used < 160 := by
  obtain ⟨l1, l2, l3⟩ := hl
  obtain ⟨h1, h2, h3, h4, h5⟩ := ht
  by_cases hq : used < 160
  · exact hq
  · exfalso
    have e : used.toNat = 160 := by omega
    rw [l3] at h5
    rw [e] at h5
    have h6 := (le9_nn h3 160).1
    have hp : (0 : Int) < 1000000000 ^ 160 := Int.pow_pos (by decide)
    have h7 := Int.mul_le_mul_of_nonneg_right (show 1 ≤ cy by omega) (Int.le_of_lt hp)
    generalize (1000000000 : Int) ^ 160 = z at *
    omega
theorem TimI.stop1 {f h : Int → Int} {by_ used cy L : Int} (hl : LmOK f used L) (ht : TimI f h by_ used cy) (hc : cy < 1000000000) (hu : used < 160) : LmOK (up h used cy) (used + 1) (by_ * L) := by
  obtain ⟨l1, l2, l3⟩ := hl
  obtain ⟨h1, h2, h3, h4, h5⟩ := ht
  refine ⟨by omega, fun j => ?_, ?_⟩
  · by_cases hq : j = used
    · rw [hq, up_s]; omega
    · rw [up_n _ _ hq]; exact h3 j
  · obtain ⟨k, rfl⟩ := Int.eq_ofNat_of_zero_le h1
    rw [show ((k : Int) + 1).toNat = k + 1 by omega, ← l3]
    rw [Int.toNat_natCast] at h5 ⊢
    show le9 (up h (k : Int) cy) k + up h (k : Int) cy (k : Int) * _ = _
    rw [up_s, le9_congr (f := up h (k : Int) cy) (g := h) (fun j _ hj => up_n h _ (by omega)), h5]
/-- the reference's state, its limbs holding L -/
def MWL (D : va_G) (cB cL : ClassId) (mo rs ex xd li bo cu cd : Nat) (code bits least : Int) (rt bt : List Int) (V C L : Int) (U : State) (H : Heap) : Prop :=
  ∃ (len used bl : Int) (fr fb lm fe : Int → Int) (ne pe : Int) (fc : Int → Int) (nc pp : Int), Wl D vwCl (tysM cB cL) (AM mo rs ex xd li bo cu cd) [(mo, .inr (3, [.ref rs, .int (iz len), .int (iz code), .ref ex, .int (iz bits), .int (iz least), .ref li, .int (iz used), .ref bo, .int (iz bl), .ref cu])), (rs, .inl (cB, 4096, .inl (az fr))), (ex, .inr (4, [.ref xd, .int (iz ne), .int (iz pe)])), (xd, .inl (cB, 1300, .inl (az fe))), (li, .inl (cL, 160, .inr (.inl (azl lm)))), (bo, .inl (cB, 4096, .inl (az fb))), (cu, .inr (4, [.ref cd, .int (iz nc), .int (iz pp)])), (cd, .inl (cB, 1300, .inl (az fc)))] U H ∧ TxM fr len rt ∧ TxM fb bl bt ∧ RowOK fe ne pe V ∧ (-1400 ≤ pe ∧ pe ≤ 1400) ∧ RowOK fc nc pp C ∧ LmOK lm used L
theorem MWL.moved {D : va_G} {cB cL : ClassId} {mo rs ex xd li bo cu cd : Nat} {code bits least : Int} {rt bt : List Int} {V C L : Int} {u U : State} {H : Heap} (hv : u.vm.Alike U.vm) (h : MWL D cB cL mo rs ex xd li bo cu cd code bits least rt bt V C L u H) : MWL D cB cL mo rs ex xd li bo cu cd code bits least rt bt V C L U H := by
  obtain ⟨len, used, bl, fr, fb, lm, fe, ne, pe, fc, nc, pp, h1, h2⟩ := h
  exact ⟨len, used, bl, fr, fb, lm, fe, ne, pe, fc, nc, pp, Wl.moved hv h1, h2⟩
theorem zSa_MWL {D : va_G} {cB cL : ClassId} {mo rs ex xd li bo cu cd : Nat} {code bits least : Int} {rt bt : List Int} {V C L : Int} : zSa (MWL D cB cL mo rs ex xd li bo cu cd code bits least rt bt V C L) := fun _ _ _ hv h => MWL.moved hv h
theorem zSt_MWL {D : va_G} {cB cL : ClassId} {mo rs ex xd li bo cu cd : Nat} {code bits least : Int} {rt bt : List Int} {V C L : Int} : zSt (MWL D cB cL mo rs ex xd li bo cu cd code bits least rt bt V C L) := zSt_of zSa_MWL
theorem MWL.recv {D : va_G} {cB cL : ClassId} {mo rs ex xd li bo cu cd : Nat} {code bits least : Int} {rt bt : List Int} {V C L : Int} {U : State} {H : Heap} (h : MWL D cB cL mo rs ex xd li bo cu cd code bits least rt bt V C L U H) : ∃ cell : Cell, H[mo]? = some cell ∧ cell.vm.isStatics = false ∧ U.vm.findClass "ExactNotationModel" = some cell.cls := by
  obtain ⟨len, used, bl, fr, fb, lm, fe, ne, pe, fc, nc, pp, ⟨hK, hP, hD⟩, -⟩ := h
  exact va_recv hK hP (ci := 3) (q0 := 0) rfl rfl
/-! the limbs of a whole number -/
def WhoI (h : Int → Int) (u x cf : Int) : Prop := 0 ≤ x ∧ ((u = 0 ∧ x < 1000000000000000000) ∨ (u = 1 ∧ x < 1000000000) ∨ (u = 2 ∧ x = 0)) ∧ (∀ j, 0 ≤ h j ∧ h j < 1000000000) ∧ le9 h u.toNat + x * 1000000000 ^ u.toNat = cf
theorem WhoI.step {h : Int → Int} {u x cf : Int} (hw : WhoI h u x cf) (hx : 0 < x) : WhoI (up h u (x % 1000000000)) (u + 1) (x / 1000000000) cf := by
  obtain ⟨h1, h2, h3, h4⟩ := hw
  refine ⟨by omega, by omega, fun j => ?_, ?_⟩
  · by_cases hq : j = u
    · rw [hq, up_s]; omega
    · rw [up_n _ _ hq]; exact h3 j
  · obtain ⟨k, rfl⟩ := Int.eq_ofNat_of_zero_le (show 0 ≤ u by omega)
    rw [show ((k : Int) + 1).toNat = k + 1 by omega, ← h4]
    rw [Int.toNat_natCast]
    show le9 (up h (k : Int) _) k + up h (k : Int) _ (k : Int) * _ + _ = _
    rw [up_s, le9_congr (f := up h (k : Int) _) (g := h) (fun j _ hj => up_n h _ (by omega)), Int.pow_succ]
    have e := Int.emod_add_mul_ediv x 1000000000
    generalize x / 1000000000 = q at *
    generalize x % 1000000000 = r at *
    generalize (1000000000 : Int) ^ k = z at *
    generalize le9 h k = a at *
    grind
theorem WhoI.stop {h : Int → Int} {u cf : Int} (hw : WhoI h u 0 cf) : LmOK h u cf := by
  obtain ⟨h1, h2, h3, h4⟩ := hw
  refine ⟨by omega, h3, ?_⟩
  rw [← h4]
  omega
/-! the digits of the limbs, the highest first -/
theorem le9_split {f : Int → Int} (hf : ∀ j, 0 ≤ f j ∧ f j < 1000000000) {k : Nat} : ∀ (i : Nat), ∃ r, le9 f (k + 1 + i) = le9 f k + (f (k : Int) + 1000000000 * r) * 1000000000 ^ k ∧ 0 ≤ r
  | 0 => ⟨0, by show le9 f k + f (k : Int) * _ = _; rw [Int.mul_zero, Int.add_zero], Int.le_refl 0⟩
  | i + 1 => by
    obtain ⟨r, h1, h2⟩ := le9_split hf (k := k) i
    have h3 := (hf ((k + 1 + i : Nat) : Int)).1
    refine ⟨r + f ((k + 1 + i : Nat) : Int) * 1000000000 ^ i, ?_, ?_⟩
    · show le9 f (k + 1 + i) + f ((k + 1 + i : Nat) : Int) * 1000000000 ^ (k + 1 + i) = _
      rw [h1, Int.pow_add, Int.pow_succ]
      generalize (1000000000 : Int) ^ k = a
      generalize (1000000000 : Int) ^ i = b
      generalize f ((k + 1 + i : Nat) : Int) = y
      generalize f (k : Int) = x
      grind
    · have := Int.mul_nonneg h3 (Int.le_of_lt (show (0 : Int) < 1000000000 ^ i from Int.pow_pos (by decide)))
      omega
theorem le9_digit {f : Int → Int} {used L : Int} (hl : LmOK f used L) {k w : Nat} (hk : (k : Int) < used) (hw : w < 9) : L / (1000000000 ^ k * 10 ^ w) % 10 = f (k : Int) / 10 ^ w % 10 := by
  obtain ⟨l1, l2, l3⟩ := hl
  obtain ⟨m, hm⟩ : ∃ m : Nat, used = (k : Int) + 1 + (m : Int) := ⟨(used - k - 1).toNat, by omega⟩
  rw [hm, show ((k : Int) + 1 + (m : Int)).toNat = k + 1 + m by omega] at l3
  obtain ⟨r, e1, e2⟩ := le9_split l2 (k := k) m
  have h5 := le9_nn l2 k
  have hp : (0 : Int) < 1000000000 ^ k := Int.pow_pos (by decide)
  rw [← l3, e1, ← Int.ediv_ediv_of_nonneg (Int.le_of_lt hp), Int.add_mul_ediv_right _ _ (by omega), Int.ediv_eq_zero_of_lt h5.1 h5.2, Int.zero_add]
  have hw' : w = 0 ∨ w = 1 ∨ w = 2 ∨ w = 3 ∨ w = 4 ∨ w = 5 ∨ w = 6 ∨ w = 7 ∨ w = 8 := by omega
  generalize f (k : Int) = b
  rcases hw' with h | h | h | h | h | h | h | h | h <;> subst h <;> omega
def DigI (h : Int → Int) (n Q : Int) : Prop := 0 ≤ n ∧ (∀ j, 0 ≤ j → j < n → 0 ≤ h j ∧ h j ≤ 9) ∧ (0 < n → 1 ≤ h 0) ∧ dv h n.toNat = Q
theorem DigI.len {h : Int → Int} {n Q : Int} {b : Nat} (hd : DigI h n Q) (hQ : Q < 10 ^ b) : n ≤ (b : Int) := by
  obtain ⟨h1, h2, h3, h4⟩ := hd
  by_cases hn : n ≤ (b : Int)
  · exact hn
  · exfalso
    obtain ⟨k, hk⟩ : ∃ k : Nat, n = (k : Int) + 1 := ⟨(n - 1).toNat, by omega⟩
    subst hk
    have h5 := dv_ge (h3 (by omega)) (n := k) (fun j q1 q2 => h2 j q1 (by omega))
    rw [show ((k : Int) + 1).toNat = k + 1 by omega] at h4
    have h6 := pow10_le (a := b) (b := k) (by omega)
    omega
theorem DigI.z {h : Int → Int} {n Q : Int} (hd : DigI h n Q) (hn : n = 0) : Q = 0 := by
  rw [← hd.2.2.2, hn]
  rfl
theorem DigI.put {h : Int → Int} {n Q d : Int} (hd : DigI h n Q) (h9 : 0 ≤ d ∧ d ≤ 9) (h0 : n = 0 → d ≠ 0) : DigI (up h n d) (n + 1) (Q * 10 + d) := by
  obtain ⟨h1, h2, h3, h4⟩ := hd
  refine ⟨by omega, fun j q1 q2 => ?_, fun _ => ?_, ?_⟩
  · by_cases hq : j = n
    · rw [hq, up_s]; exact h9
    · rw [up_n _ _ hq]; exact h2 j q1 (by omega)
  · by_cases hq : (0 : Int) = n
    · rw [← hq, up_s]
      have := h0 hq.symm
      omega
    · rw [up_n _ _ hq]; exact h3 (by omega)
  · obtain ⟨k, rfl⟩ := Int.eq_ofNat_of_zero_le h1
    rw [show ((k : Int) + 1).toNat = k + 1 by omega]
    show dv (up h (k : Int) d) k * 10 + up h (k : Int) d (k : Int) = _
    rw [up_s, dv_congr (f := up h (k : Int) d) (g := h) (fun j _ hj => up_n h _ (by omega)), ← h4, Int.toNat_natCast]
def tenW (w : Nat) : Int := if w = 0 then 0 else 10 ^ (w - 1)
theorem tenW_r (w : Nat) (h : w ≤ 9) : 0 ≤ tenW w ∧ tenW w ≤ 100000000 ∧ (0 < tenW w ↔ 0 < w) := by
  have h1 : ∀ w : Nat, w < 10 → 0 ≤ tenW w ∧ tenW w ≤ 100000000 ∧ (0 < tenW w ↔ 0 < w) := by decide +kernel
  exact h1 w (by omega)
theorem tenW_d (w : Nat) (h : w ≤ 9) (h0 : 0 < w) : tenW w / 10 = tenW (w - 1) := by
  have h1 : ∀ w : Nat, w < 10 → 0 < w → tenW w / 10 = tenW (w - 1) := by decide +kernel
  exact h1 w (by omega) h0
theorem tenW_p (w : Nat) (h0 : 0 < w) : tenW w = 10 ^ (w - 1) := if_neg (by omega)
/-- the next digit of the quotient -/
theorem quo_step {f : Int → Int} {used L : Int} (hl : LmOK f used L) {k w : Nat} (hk : (k : Int) < used) (hw : w ≤ 9) (h0 : 0 < w) : L / (1000000000 ^ k * 10 ^ (w - 1)) = L / (1000000000 ^ k * 10 ^ w) * 10 + f (k : Int) / tenW w % 10 := by
  rw [tenW_p w h0, ← le9_digit hl hk (show w - 1 < 9 by omega)]
  have e : (1000000000 : Int) ^ k * 10 ^ w = 1000000000 ^ k * 10 ^ (w - 1) * 10 := by
    rw [Int.mul_assoc, ← Int.pow_succ, show (w - 1).succ = w by omega]
  have hp : (0 : Int) < 1000000000 ^ k * 10 ^ (w - 1) := Int.mul_pos (Int.pow_pos (by decide)) (pow_pos10 _)
  rw [e, ← Int.ediv_ediv_of_nonneg (Int.le_of_lt hp)]
  omega
theorem quo_next (L : Int) (k : Nat) : L / (1000000000 ^ (k + 1)) = L / (1000000000 ^ k * 10 ^ 9) := by
  rw [Int.pow_succ]
  rfl
theorem LmOK.quo {f : Int → Int} {used L : Int} (hl : LmOK f used L) : L / 1000000000 ^ used.toNat = 0 := by
  have h := le9_nn hl.2.1 used.toNat
  rw [hl.2.2] at h
  exact Int.ediv_eq_zero_of_lt h.1 h.2
theorem LmOK.nn {f : Int → Int} {used L : Int} (hl : LmOK f used L) : 0 ≤ L := by
  have h := le9_nn hl.2.1 used.toNat
  rw [hl.2.2] at h
  exact h.1
theorem quo_le {L : Int} (h : 0 ≤ L) (a : Int) (ha : 0 < a) : L / a ≤ L := Int.ediv_le_self _ h
theorem RowOK.strip {h : Int → Int} {n p V : Int} (hr : RowOK h n p V) (hn : 0 < n) (hz : h (n - 1) = 0) : RowOK h (n - 1) p V := by
  obtain ⟨r1, r2, r3, r4⟩ := hr
  obtain ⟨k, hk⟩ : ∃ k : Nat, n = (k : Int) + 1 := ⟨(n - 1).toNat, by omega⟩
  subst hk
  have e : (k : Int) + 1 - 1 = (k : Int) := by omega
  rw [e] at hz ⊢
  refine ⟨by omega, fun j q1 q2 => r2 j q1 (by omega), fun q => ⟨(r3 hn).1, by have := (r3 hn).2; omega⟩, ?_⟩
  have h5 := (r3 hn).2
  rw [r4, show ((k : Int) + 1).toNat = k + 1 by omega, Int.toNat_natCast, show (p - (k : Int) + 1080).toNat = (p - ((k : Int) + 1) + 1080).toNat + 1 by omega, Int.pow_succ]
  show (dv h k * 10 + h (k : Int)) * _ = _
  rw [hz, Int.add_zero]
  generalize (10 : Int) ^ (p - ((k : Int) + 1) + 1080).toNat = z
  grind
theorem DigI.row {h : Int → Int} {n L V z : Int} (hd : DigI h n L) (hn : n ≤ 1200) (hz : -1080 ≤ z ∧ z ≤ 0) (hV : V = L * 10 ^ (z + 1080).toNat) : RowOK h n (n + z) V := by
  obtain ⟨h1, h2, h3, h4⟩ := hd
  refine ⟨by omega, h2, fun q => ⟨h3 q, by omega⟩, ?_⟩
  rw [hV, h4, show n + z - n + 1080 = z + 1080 by omega]
theorem row_2 {k : Int} (cf : Int) (h : 0 ≤ k) : 536870912 * (cf * 2 ^ k.toNat) = cf * 2 ^ (k + 29).toNat := by
  rw [show (k + 29).toNat = k.toNat + 29 by omega, Int.pow_add, show (2 : Int) ^ 29 = 536870912 by decide]
  generalize (2 : Int) ^ k.toNat = z
  grind
theorem row_2b {k q : Int} (cf : Int) (h : 0 ≤ k) (hq : q = k + q % 29) : 2 ^ (q % 29).toNat * (cf * 2 ^ k.toNat) = cf * 2 ^ q.toNat := by
  rw [show q.toNat = k.toNat + (q % 29).toNat by omega, Int.pow_add]
  generalize (2 : Int) ^ k.toNat = z
  generalize (2 : Int) ^ (q % 29).toNat = y
  grind
theorem row_5 {k : Int} (X : Int) (h : 0 ≤ k) : 244140625 * (X * 5 ^ k.toNat) = X * 5 ^ (k + 12).toNat := by
  rw [show (k + 12).toNat = k.toNat + 12 by omega, Int.pow_add, show (5 : Int) ^ 12 = 244140625 by decide]
  generalize (5 : Int) ^ k.toNat = z
  grind
theorem row_1 {k : Int} (X : Int) (j : Nat) (h : 0 ≤ k) : 5 * (X * 5 ^ (j + k.toNat)) = X * 5 ^ (j + (k + 1).toNat) := by
  rw [show j + (k + 1).toNat = j + k.toNat + 1 by omega, Int.pow_succ]
  generalize (5 : Int) ^ (j + k.toNat) = z
  grind
theorem powB_800 : (10 : Int) ^ 800 ≤ 1000000000 ^ 160 := by
  rw [powB]
  exact pow10_le (by decide)
theorem row_lt {X Y Z W : Int} (hZ : Z < 10 ^ 800) (h : Y ≤ Z) (e : W * X = Y) : W * X < 1000000000 ^ 160 := by
  have := powB_800
  rw [e]
  generalize (10 : Int) ^ 800 = a at *
  generalize (1000000000 : Int) ^ 160 = b at *
  omega
theorem mono_pow {a b : Nat} {c : Int} (hc : 1 ≤ c) (h : a ≤ b) : c ^ a ≤ c ^ b := by
  have e : b = a + (b - a) := by omega
  have h1 : ∀ n : Nat, 1 ≤ c ^ n := by
    intro n
    induction n with
    | zero => rw [Int.pow_zero]; omega
    | succ n ih =>
      rw [Int.pow_succ]
      calc (1 : Int) = 1 * 1 := rfl
        _ ≤ c ^ n * c := Int.mul_le_mul ih hc (by decide) (by omega)
  rw [e, Int.pow_add]
  calc c ^ a = c ^ a * 1 := (Int.mul_one _).symm
    _ ≤ c ^ a * c ^ (b - a) := Int.mul_le_mul_of_nonneg_left (h1 _) (by have := h1 a; omega)
theorem le_fac {x y z : Int} (hx : 0 ≤ x) (h : y ≤ z) : x * y ≤ x * z := Int.mul_le_mul_of_nonneg_left h hx
theorem row_le2 {cf k q : Int} (hc : 0 ≤ cf) (hk : k + 29 ≤ q) (h0 : 0 ≤ k) : cf * 2 ^ (k + 29).toNat ≤ cf * 2 ^ q.toNat * 5 ^ (-q).toNat := by
  rw [show (-q).toNat = 0 by omega, Int.pow_zero, Int.mul_one]
  exact le_fac hc (mono_pow (by decide) (by omega))
theorem row_le2b {cf q : Int} (hc : 0 ≤ cf) (hq : 0 < q) : cf * 2 ^ q.toNat ≤ cf * 2 ^ q.toNat * 5 ^ (-q).toNat := by
  rw [show (-q).toNat = 0 by omega, Int.pow_zero, Int.mul_one]
  exact Int.le_refl _
theorem row_le5 {cf k q : Int} (hc : 0 ≤ cf) (hk : k + 12 ≤ -q) (h0 : 0 ≤ k) : cf * 2 ^ q.toNat * 5 ^ (k + 12).toNat ≤ cf * 2 ^ q.toNat * 5 ^ (-q).toNat :=
  le_fac (Int.mul_nonneg hc (Int.le_of_lt (pow2_pos _))) (mono_pow (by decide) (by omega))
theorem row_le1 {cf k q : Int} (hc : 0 ≤ cf) (hq : q < 0) (hk : k < (-q) % 12 ∧ 0 ≤ k) : cf * 2 ^ q.toNat * 5 ^ ((-q).toNat - (-q).toNat % 12 + (k + 1).toNat) ≤ cf * 2 ^ q.toNat * 5 ^ (-q).toNat :=
  le_fac (Int.mul_nonneg hc (Int.le_of_lt (pow2_pos _))) (mono_pow (by decide) (by omega))
