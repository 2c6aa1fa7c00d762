/-! what a state of the reference is -/
def TxM (g : Int → Int) (n : Int) (tx : List Int) : Prop := n = (tx.length : Int) ∧ tx.length ≤ 4096 ∧ (∀ i : Nat, i < tx.length → g (i : Int) = tx.getD i 0) ∧ ∀ ch ∈ tx, 0 ≤ ch ∧ ch < 128
/-- the number that n digits make -/
def dv (f : Int → Int) : Nat → Int
  | 0 => 0
  | n + 1 => dv f n * 10 + f (n : Int)
/-- a row of n digits, the first at the place p - 1, of a value V that has no other digits -/
def RowOK (f : Int → Int) (n p V : Int) : Prop := (0 ≤ n ∧ n ≤ 1250 ∧ -1500 ≤ p ∧ p ≤ 1500) ∧ (∀ i, 0 ≤ i → i < n → 0 ≤ f i ∧ f i ≤ 9) ∧ (0 < n → 1 ≤ f 0 ∧ 0 ≤ p - n + 1080) ∧ V = dv f n.toNat * 10 ^ (p - n + 1080).toNat
abbrev tysM (cB cL : ClassId) : List (ClassId × FieldType) := [(cB, .byte), (cL, .long)]
def AM (mo rs ex xd li bo cu cd : Nat) : Nat → Prop := fun q => q = mo ∨ q = rs ∨ q = ex ∨ q = xd ∨ q = li ∨ q = bo ∨ q = cu ∨ q = cd
def MWc (D : va_G) (cB cL : ClassId) (mo rs ex xd li bo cu cd : Nat) (code bits least : Int) (rt bt : List Int) (V : Int) (fc : Int → Int) (nc pp : Int) (U : State) (H : Heap) : Prop :=
  ∃ (len used bl : Int) (fr fb lm fe : Int → Int) (ne pe : Int), Wl D vwCl (tysM cB cL) (AM mo rs ex xd li bo cu cd) [(mo, .inr (3, [.ref rs, .int (iz len), .int (iz code), .ref ex, .int (iz bits), .int (iz least), .ref li, .int (iz used), .ref bo, .int (iz bl), .ref cu])), (rs, .inl (cB, 4096, .inl (az fr))), (ex, .inr (4, [.ref xd, .int (iz ne), .int (iz pe)])), (xd, .inl (cB, 1300, .inl (az fe))), (li, .inl (cL, 160, .inr (.inl (azl lm)))), (bo, .inl (cB, 4096, .inl (az fb))), (cu, .inr (4, [.ref cd, .int (iz nc), .int (iz pp)])), (cd, .inl (cB, 1300, .inl (az fc)))] U H ∧ TxM fr len rt ∧ TxM fb bl bt ∧ RowOK fe ne pe V ∧ (-1400 ≤ pe ∧ pe ≤ 1400) ∧ ∀ j, 0 ≤ lm j ∧ lm j < 1000000000
theorem MWc.moved {D : va_G} {cB cL : ClassId} {mo rs ex xd li bo cu cd : Nat} {code bits least : Int} {rt bt : List Int} {V : Int} {fc : Int → Int} {nc pp : Int} {u U : State} {H : Heap} (hv : u.vm.Alike U.vm) (h : MWc D cB cL mo rs ex xd li bo cu cd code bits least rt bt V fc nc pp u H) : MWc D cB cL mo rs ex xd li bo cu cd code bits least rt bt V fc nc pp U H := by
  obtain ⟨len, used, bl, fr, fb, lm, fe, ne, pe, h1, h2⟩ := h
  exact ⟨len, used, bl, fr, fb, lm, fe, ne, pe, Wl.moved hv h1, h2⟩
theorem zSa_MWc {D : va_G} {cB cL : ClassId} {mo rs ex xd li bo cu cd : Nat} {code bits least : Int} {rt bt : List Int} {V : Int} {fc : Int → Int} {nc pp : Int} : zSa (MWc D cB cL mo rs ex xd li bo cu cd code bits least rt bt V fc nc pp) := fun _ _ _ hv h => MWc.moved hv h
theorem zSt_MWc {D : va_G} {cB cL : ClassId} {mo rs ex xd li bo cu cd : Nat} {code bits least : Int} {rt bt : List Int} {V : Int} {fc : Int → Int} {nc pp : Int} : zSt (MWc D cB cL mo rs ex xd li bo cu cd code bits least rt bt V fc nc pp) := zSt_of zSa_MWc
def MW (D : va_G) (cB cL : ClassId) (mo rs ex xd li bo cu cd : Nat) (code bits least : Int) (rt bt : List Int) (V C : Int) (U : State) (H : Heap) : Prop :=
  ∃ (fc : Int → Int) (nc pp : Int), MWc D cB cL mo rs ex xd li bo cu cd code bits least rt bt V fc nc pp U H ∧ RowOK fc nc pp C
theorem MW.moved {D : va_G} {cB cL : ClassId} {mo rs ex xd li bo cu cd : Nat} {code bits least : Int} {rt bt : List Int} {V C : Int} {u U : State} {H : Heap} (hv : u.vm.Alike U.vm) (h : MW D cB cL mo rs ex xd li bo cu cd code bits least rt bt V C u H) : MW D cB cL mo rs ex xd li bo cu cd code bits least rt bt V C U H := by
  obtain ⟨fc, nc, pp, h1, h2⟩ := h
  exact ⟨fc, nc, pp, MWc.moved hv h1, h2⟩
theorem zSa_MW {D : va_G} {cB cL : ClassId} {mo rs ex xd li bo cu cd : Nat} {code bits least : Int} {rt bt : List Int} {V C : Int} : zSa (MW D cB cL mo rs ex xd li bo cu cd code bits least rt bt V C) := fun _ _ _ hv h => MW.moved hv h
theorem zSt_MW {D : va_G} {cB cL : ClassId} {mo rs ex xd li bo cu cd : Nat} {code bits least : Int} {rt bt : List Int} {V C : Int} : zSt (MW D cB cL mo rs ex xd li bo cu cd code bits least rt bt V C) := zSt_of zSa_MW
/-! rows of digits -/
theorem dv_congr {f g : Int → Int} : ∀ {n : Nat}, (∀ j : Int, 0 ≤ j → j < (n : Int) → f j = g j) → dv f n = dv g n
  | 0, _ => rfl
  | n + 1, h => by
    show dv f n * 10 + f (n : Int) = dv g n * 10 + g (n : Int)
    rw [dv_congr (n := n) (fun j h0 h1 => h j h0 (by omega)), h (n : Int) (by omega) (by omega)]
theorem dv_nn {f : Int → Int} : ∀ {n : Nat}, (∀ j : Int, 0 ≤ j → j < (n : Int) → 0 ≤ f j ∧ f j ≤ 9) → 0 ≤ dv f n ∧ dv f n < 10 ^ n
  | 0, _ => ⟨Int.le_refl 0, by show (0 : Int) < 1; decide⟩
  | n + 1, h => by
    show 0 ≤ dv f n * 10 + f (n : Int) ∧ dv f n * 10 + f (n : Int) < 10 ^ (n + 1)
    have h1 := dv_nn (n := n) (fun j h0 h1 => h j h0 (by omega))
    have h2 := h (n : Int) (by omega) (by omega)
    rw [Int.pow_succ]
    generalize (10 : Int) ^ n = z at h1 ⊢
    omega
theorem dv_ge {f : Int → Int} (h0 : 1 ≤ f 0) : ∀ {n : Nat}, (∀ j : Int, 0 ≤ j → j < ((n + 1 : Nat) : Int) → 0 ≤ f j ∧ f j ≤ 9) → 10 ^ n ≤ dv f (n + 1)
  | 0, _ => by
    show 10 ^ 0 ≤ dv f 0 * 10 + f 0
    show (1 : Int) ≤ 0 * 10 + f 0
    omega
  | n + 1, h => by
    show 10 ^ (n + 1) ≤ dv f (n + 1) * 10 + f ((n + 1 : Nat) : Int)
    have h1 := dv_ge h0 (n := n) (fun j h0 h1 => h j h0 (by omega))
    have h2 := h ((n + 1 : Nat) : Int) (by omega) (by omega)
    rw [Int.pow_succ]
    generalize (10 : Int) ^ n = z at h1 ⊢
    omega
theorem dv_split {f : Int → Int} {k : Nat} : ∀ (i : Nat), (∀ j : Int, 0 ≤ j → j < ((k + i : Nat) : Int) → 0 ≤ f j ∧ f j ≤ 9) → ∃ r, dv f (k + i) = dv f k * 10 ^ i + r ∧ 0 ≤ r ∧ r < 10 ^ i
  | 0, _ => ⟨0, by rw [Int.pow_zero, Int.mul_one, Int.add_zero]; rfl, Int.le_refl 0, by decide⟩
  | i + 1, h => by
    obtain ⟨r, h1, h2, h3⟩ := dv_split (f := f) (k := k) i (fun j h0 h1 => h j h0 (by omega))
    have h4 := h ((k + i : Nat) : Int) (by omega) (by omega)
    refine ⟨r * 10 + f ((k + i : Nat) : Int), ?_, ?_, ?_⟩
    · show dv f (k + i) * 10 + f ((k + i : Nat) : Int) = _
      rw [h1, Int.pow_succ, Int.add_mul, Int.mul_assoc, Int.add_assoc]
    · omega
    · rw [Int.pow_succ]
      generalize (10 : Int) ^ i = z at h3 ⊢
      omega
theorem RowOK.nn {f : Int → Int} {n p V : Int} (h : RowOK f n p V) : 0 ≤ V := by
  obtain ⟨h1, h2, h3, h4⟩ := h
  rw [h4]
  exact Int.mul_nonneg (dv_nn (fun j q1 q2 => h2 j q1 (by omega))).1 (Int.le_of_lt (pow_pos10 _))
theorem RowOK.zero {f : Int → Int} {n p V : Int} (h : RowOK f n p V) (h0 : n = 0) : V = 0 := by
  obtain ⟨h1, h2, h3, h4⟩ := h
  rw [h4, h0]
  show 0 * _ = 0
  omega
theorem RowOK.ld {f : Int → Int} {n p V : Int} (h : RowOK f n p V) (h0 : 0 < n) : IsLead V (p - 1) ∧ 0 < V := by
  obtain ⟨h1, h2, h3, h4⟩ := h
  have h5 := h3 h0
  obtain ⟨k, hk⟩ : ∃ k : Nat, n = (k : Int) + 1 := ⟨(n - 1).toNat, by omega⟩
  subst hk
  rw [show ((k : Int) + 1).toNat = k + 1 by omega] at h4
  have h6 := dv_ge h5.1 (n := k) (fun j q1 q2 => h2 j q1 (by omega))
  have h7 := (dv_nn (f := f) (n := k + 1) (fun j q1 q2 => h2 j q1 (by omega))).2
  have hp := pow_pos10 (p - ((k : Int) + 1) + 1080).toNat
  have e1 : (p - 1 + 1080).toNat = k + (p - ((k : Int) + 1) + 1080).toNat := by omega
  have a1 : 10 ^ (p - 1 + 1080).toNat ≤ V := by
    rw [h4, e1, Int.pow_add]
    exact Int.mul_le_mul_of_nonneg_right h6 (Int.le_of_lt hp)
  refine ⟨Or.inr ⟨by omega, a1, ?_⟩, ?_⟩
  · rw [h4, show (p - 1 + 1080).toNat + 1 = (k + 1) + (p - ((k : Int) + 1) + 1080).toNat by omega, Int.pow_add]
    exact Int.mul_lt_mul_of_pos_right h7 hp
  · have := pow_pos10 (p - 1 + 1080).toNat
    omega
/-- a digit of the row -/
theorem RowOK.dig {f : Int → Int} {n p V : Int} (h : RowOK f n p V) {i : Int} (h0 : 0 ≤ i) (hi : i < n) : dgt V (p - 1 - i) = f i := by
  obtain ⟨h1, h2, h3, h4⟩ := h
  have h5 := h3 (by omega)
  obtain ⟨k, rfl⟩ := Int.eq_ofNat_of_zero_le h0
  obtain ⟨j, hj⟩ : ∃ j : Nat, n = (k : Int) + 1 + (j : Int) := ⟨(n - k - 1).toNat, by omega⟩
  subst hj
  rw [show ((k : Int) + 1 + (j : Int)).toNat = k + 1 + j by omega] at h4
  obtain ⟨r, e1, e2, e3⟩ := dv_split (f := f) (k := k + 1) j (fun q q1 q2 => h2 q q1 (by omega))
  unfold dgt
  rw [if_neg (by omega), h4, show (p - 1 - (k : Int) + 1080).toNat = j + (p - ((k : Int) + 1 + (j : Int)) + 1080).toNat by omega, Int.pow_add]
  have hp := pow_pos10 (p - ((k : Int) + 1 + (j : Int)) + 1080).toNat
  have hq := pow_pos10 j
  rw [Int.mul_ediv_mul_of_pos_left _ _ hp, e1, Int.add_comm, Int.add_mul_ediv_right _ _ (by omega), Int.ediv_eq_zero_of_lt e2 e3, Int.zero_add]
  show (dv f k * 10 + f (k : Int)) % 10 = _
  have := h2 (k : Int) (by omega) (by omega)
  omega
/-- below the row there is nothing -/
theorem RowOK.low {f : Int → Int} {n p V : Int} (h : RowOK f n p V) {k : Int} (hk : k < p - n) : dgt V k = 0 := by
  obtain ⟨h1, h2, h3, h4⟩ := h
  unfold dgt
  by_cases hq : k < -1080
  · rw [if_pos hq]
  · rw [if_neg hq, h4, show (p - n + 1080).toNat = (p - n - k - 1).toNat + 1 + (k + 1080).toNat by omega, Int.pow_add, ← Int.mul_assoc, Int.mul_ediv_cancel _ (by have := pow_pos10 (k + 1080).toNat; omega), Int.pow_succ, ← Int.mul_assoc, Int.mul_emod_left]
theorem dgt_zero (k : Int) : dgt 0 k = 0 := by
  unfold dgt
  split
  · rfl
  · rw [Int.zero_ediv]; rfl
/-- a digit of the row at any place -/
theorem RowOK.any {f : Int → Int} {n p V : Int} (h : RowOK f n p V) (i : Int) : (if 0 ≤ i ∧ i < n then f i else 0) = dgt V (lead V - i) := by
  by_cases h0 : n = 0
  · rw [if_neg (by omega), h.zero h0, dgt_zero]
  · have h1 := h.ld (by have := h.1; omega)
    rw [lead_eq h.nn h1.1]
    by_cases h2 : 0 ≤ i ∧ i < n
    · rw [if_pos h2, h.dig h2.1 h2.2]
    · rw [if_neg h2]
      by_cases h3 : i < 0
      · rcases h1.1 with ⟨a, b⟩ | ⟨a, b, c⟩
        · omega
        · exact (dgt_hi (n := (p - 1 + 1080).toNat + 1) h.nn c (by omega)).symm
      · exact (h.low (by omega)).symm
theorem TxM_add {g : Int → Int} {n : Int} {tx : List Int} {ch : Int} (h : TxM g n tx) (hl : tx.length < 4096) (hc : 0 ≤ ch ∧ ch < 128) : TxM (up g n ch) (n + 1) (tx ++ [ch]) := by
  obtain ⟨h1, h2, h3, h4⟩ := h
  refine ⟨by rw [List.length_append, h1]; rfl, by rw [List.length_append]; show tx.length + 1 ≤ 4096; omega, fun i hi => ?_, fun c hm => ?_⟩
  · rw [List.length_append] at hi
    have hi : i < tx.length + 1 := hi
    by_cases hq : i = tx.length
    · subst hq
      rw [h1, up_s]
      simp [List.getD]
    · rw [up_n g ch (by omega), h3 i (by omega)]
      simp only [List.getD]
      rw [List.getElem?_append_left (by omega)]
  · rcases List.mem_append.mp hm with q | q
    · exact h4 c q
    · rw [List.mem_singleton] at q
      subst q
      exact hc
theorem lor_c (fb : Nat) (h : fb ≤ 52) (sz : Int) : lz (sz % 2 ^ fb) ||| lz ((2 ^ fb - 1) + 1) = lz (2 ^ fb + sz % 2 ^ fb) := by
  have hp := pow2_pos fb
  have h1 := Int.emod_nonneg sz (show (2 : Int) ^ fb ≠ 0 by omega)
  have h2 := Int.emod_lt_of_pos sz hp
  have h3 := lz_or (a := 1) (b := sz % 2 ^ fb) fb (by decide) h1 h2 (by
    have h4 : (2 : Int) ^ fb ≤ 2 ^ 52 := by
      have e : (52 : Nat) = fb + (52 - fb) := by omega
      rw [e, Int.pow_add]
      exact le_mul_pow2 _ (Int.le_of_lt hp)
    have h5 : (2 : Int) ^ 52 = 4503599627370496 := by decide
    omega)
  rw [Int.one_mul] at h3
  rw [← h3, show (2 : Int) ^ fb - 1 + 1 = 2 ^ fb by omega]
  refine uN_inj ?_
  rw [uN_or2, uN_or2, Nat.or_comm]
