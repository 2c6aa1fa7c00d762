/-! multiplication by a power of two, limb by limb from the last -/
def MulI (f g : Int → Int) (P V fi lt i cy : Int) : Prop := (fi - 1 ≤ i ∧ i ≤ lt) ∧ (0 ≤ cy ∧ cy < P) ∧ (∀ j, 0 ≤ g j ∧ g j < 1000000000) ∧ (∀ j, j ≤ i ∨ lt < j → g j = f j) ∧ pv g 155 + (cy + (P - 1) * pv f (i + 1).toNat) * 1000000000 ^ (154 - i).toNat = P * V
theorem MulI.start {f : Int → Int} {P V fi lt : Int} (h : DecOK f fi lt V) (hP : 0 < P) : MulI f f P V fi lt lt 0 := by
  obtain ⟨h1, h2, h3, h4⟩ := h
  refine ⟨⟨by omega, by omega⟩, ⟨by omega, hP⟩, h2, fun _ _ => rfl, ?_⟩
  obtain ⟨k, rfl⟩ := Int.eq_ofNat_of_zero_le (show 0 ≤ lt by omega)
  have h5 := pv_tail (f := f) (k := k + 1) (154 - k) (fun j hj _ => h3 j (Or.inr (by omega)))
  rw [show k + 1 + (154 - k) = 155 by omega, h4] at h5
  rw [show ((k : Int) + 1).toNat = k + 1 by omega, show (154 - (k : Int)).toNat = 154 - k by omega, h4, Int.zero_add, Int.mul_assoc, ← h5, Int.sub_mul, Int.one_mul]
  omega
theorem mul_b {a P : Int} (ha : 0 ≤ a ∧ a < 1000000000) (hP : 0 < P ∧ P ≤ 536870912) : 0 ≤ a * P ∧ a * P ≤ 536870912000000000 := by
  refine ⟨Int.mul_nonneg ha.1 (by omega), ?_⟩
  have := Int.mul_le_mul (show a ≤ 1000000000 by omega) hP.2 (by omega) (by decide)
  omega
theorem mul_c {a P cy : Int} (ha : 0 ≤ a ∧ a < 1000000000) (hP : 0 < P) (hc : 0 ≤ cy ∧ cy < P) : 0 ≤ (a * P + cy) / 1000000000 ∧ (a * P + cy) / 1000000000 < P := by
  have h1 : 0 ≤ a * P := Int.mul_nonneg ha.1 (by omega)
  have h2 : a * P ≤ 999999999 * P := Int.mul_le_mul_of_nonneg_right (by omega) (by omega)
  omega
theorem MulI.step {f g : Int → Int} {P V fi lt i cy : Int} (h : MulI f g P V fi lt i cy) (hP : 0 < P) (h0 : fi ≤ i) (hf : 0 ≤ fi) (hl : lt ≤ 154) : MulI f (up g i (g i * P + cy - (g i * P + cy) / 1000000000 * 1000000000)) P V fi lt (i - 1) ((g i * P + cy) / 1000000000) := by
  obtain ⟨h1, h2, h3, h4, h5⟩ := h
  refine ⟨⟨by omega, by omega⟩, mul_c (h3 i) hP h2, fun j => ?_, fun j hj => ?_, ?_⟩
  · by_cases hq : j = i
    · subst hq
      rw [up_s]
      generalize g j * P + cy = z
      omega
    · rw [up_n _ _ hq]
      exact h3 j
  · rw [up_n _ _ (by omega)]
    exact h4 j (by omega)
  · obtain ⟨k, rfl⟩ := Int.eq_ofNat_of_zero_le (show 0 ≤ i by omega)
    rw [pv_up155 (by omega), show ((k : Int) - 1 + 1).toNat = k by omega, show (154 - ((k : Int) - 1)).toNat = 154 - k + 1 by omega]
    rw [show ((k : Int) + 1).toNat = k + 1 by omega, show (154 - (k : Int)).toNat = 154 - k by omega, ← show pv f k * 1000000000 + f (k : Int) = pv f (k + 1) from rfl] at h5
    rw [Int.pow_succ, ← h5, h4 (k : Int) (by omega)]
    generalize (f (k : Int) * P + cy) / 1000000000 = q
    generalize (1000000000 : Int) ^ (154 - k) = z
    generalize pv f k = a
    generalize f (k : Int) = b
    generalize pv g 155 = y
    grind
theorem MulI.stop0 {f g : Int → Int} {P V fi lt : Int} (h : MulI f g P V fi lt (fi - 1) 0) (hd : DecOK f fi lt V) : DecOK g fi lt (P * V) := by
  obtain ⟨h1, h2, h3, h4, h5⟩ := h
  obtain ⟨d1, d2, d3, d4⟩ := hd
  refine ⟨d1, h3, fun j hj => by rw [h4 j (by omega)]; exact d3 j hj, ?_⟩
  rw [← h5, pv_zero (f := f) (n := (fi - 1 + 1).toNat) (fun j _ hj => d3 j (Or.inl (by omega)))]
  simp
theorem MulI.stop1 {f g : Int → Int} {P V fi lt cy : Int} (h : MulI f g P V fi lt (fi - 1) cy) (hd : DecOK f fi lt V) (hf : 0 < fi) (hc : cy < 1000000000) : DecOK (up g (fi - 1) cy) (fi - 1) lt (P * V) := by
  obtain ⟨h1, h2, h3, h4, h5⟩ := h
  obtain ⟨d1, d2, d3, d4⟩ := hd
  refine ⟨⟨by omega, by omega, by omega⟩, fun j => ?_, fun j hj => ?_, ?_⟩
  · by_cases hq : j = fi - 1
    · rw [hq, up_s]; omega
    · rw [up_n _ _ hq]; exact h3 j
  · rw [up_n _ _ (by omega), h4 j (by omega)]
    exact d3 j (by omega)
  · obtain ⟨k, hk⟩ := Int.eq_ofNat_of_zero_le (show 0 ≤ fi - 1 by omega)
    rw [hk] at h5 ⊢
    rw [pv_up155 (by omega), ← h5, pv_zero (f := f) (n := ((k : Int) + 1).toNat) (fun j _ hj => d3 j (Or.inl (by omega))), show (154 - (k : Int)).toNat = 154 - k by omega, h4 (k : Int) (by omega), d3 (k : Int) (by omega)]
    simp
theorem MulI.top {f g : Int → Int} {P V lt cy : Int} (h : MulI f g P V 0 lt (-1) cy) (hV : P * V < 1000000000 ^ 155) : cy = 0 := by
  obtain ⟨h1, h2, h3, h4, h5⟩ := h
  have h6 := (pv_nn h3 155).1
  by_cases hc : cy = 0
  · exact hc
  · exfalso
    rw [show ((-1 : Int) + 1).toNat = 0 by decide, show (154 - (-1 : Int)).toNat = 155 by decide] at h5
    have h7 : (cy + (P - 1) * pv f 0) = cy := by
      show cy + (P - 1) * 0 = cy
      omega
    rw [h7] at h5
    have hp : (0 : Int) < 1000000000 ^ 155 := Int.pow_pos (by decide)
    have h8 := Int.mul_le_mul_of_nonneg_right (show 1 ≤ cy by omega) (Int.le_of_lt hp)
    generalize (1000000000 : Int) ^ 155 = z at h5 hV h8
    omega
/-! division by a power of two, limb by limb from the first -/
def DivI (f g : Int → Int) (P fi i r : Int) : Prop := fi ≤ i ∧ (0 ≤ r ∧ r < P) ∧ (∀ j, 0 ≤ g j ∧ g j < 1000000000) ∧ (∀ j, j < fi ∨ i ≤ j → g j = f j) ∧ pv f i.toNat = P * pv g i.toNat + r
theorem DivI.start {f : Int → Int} {P V fi lt : Int} (h : DecOK f fi lt V) (hP : 0 < P) : DivI f f P fi fi 0 := by
  obtain ⟨h1, h2, h3, h4⟩ := h
  refine ⟨by omega, ⟨by omega, hP⟩, h2, fun _ _ => rfl, ?_⟩
  rw [pv_zero (fun j _ hj => h3 j (Or.inl (by omega)))]
  simp
theorem div_b {r P a : Int} (hr : 0 ≤ r ∧ r < P) (hP : P ≤ 134217728) (ha : 0 ≤ a ∧ a < 1000000000) : 0 ≤ r * 1000000000 + a ∧ r * 1000000000 + a ≤ 134217728000000000 := by omega
theorem DivI.step {f g : Int → Int} {P fi i r : Int} (h : DivI f g P fi i r) (hP : 0 < P) (h0 : 0 ≤ fi) : DivI f (up g i ((r * 1000000000 + g i) / P)) P fi (i + 1) ((r * 1000000000 + g i) % P) := by
  obtain ⟨h1, h2, h3, h4, h5⟩ := h
  have hb : r * 1000000000 + g i < P * 1000000000 := by
    have := h3 i
    have h6 : (r + 1) * 1000000000 ≤ P * 1000000000 := Int.mul_le_mul_of_nonneg_right (by omega) (by decide)
    omega
  have ha : 0 ≤ r * 1000000000 + g i := by have := h3 i; omega
  refine ⟨by omega, ⟨Int.emod_nonneg _ (by omega), Int.emod_lt_of_pos _ hP⟩, fun j => ?_, fun j hj => ?_, ?_⟩
  · by_cases hq : j = i
    · rw [hq, up_s]
      refine ⟨Int.ediv_nonneg ha (by omega), Int.ediv_lt_of_lt_mul hP ?_⟩
      rw [Int.mul_comm 1000000000 P]; exact hb
    · rw [up_n _ _ hq]; exact h3 j
  · rw [up_n _ _ (by omega)]
    exact h4 j (by omega)
  · obtain ⟨k, rfl⟩ := Int.eq_ofNat_of_zero_le (show 0 ≤ i by omega)
    rw [show ((k : Int) + 1).toNat = k + 1 by omega]
    rw [Int.toNat_natCast] at h5
    show pv f k * 1000000000 + f (k : Int) = P * (pv (up g (k : Int) _) k * 1000000000 + up g (k : Int) _ (k : Int)) + _
    rw [up_s, pv_congr (f := up g (k : Int) _) (g := g) (fun j _ hj => up_n g _ (by omega)), h5, ← h4 (k : Int) (by omega)]
    have e := Int.mul_ediv_add_emod (r * 1000000000 + g (k : Int)) P
    generalize (r * 1000000000 + g (k : Int)) / P = q at e ⊢
    generalize (r * 1000000000 + g (k : Int)) % P = u at e ⊢
    generalize pv g k = a at e ⊢
    generalize g (k : Int) = b at e ⊢
    grind
theorem pow2_dvd : ∀ b : Nat, b < 28 → (1000000000 : Int) ^ ((b + 8) / 9) % 2 ^ b = 0 := by decide +kernel
theorem DivI.stop {f g : Int → Int} {P V fi lt r : Int} {b : Nat} (hd : DecOK f fi lt V) (hb : b < 28) (hP : P = 2 ^ b) (hl : lt + ((b + 8) / 9 : Nat) ≤ 154) (h : DivI f g P fi (lt + ((b + 8) / 9 : Nat) + 1) r) : ∃ V', P * V' = V ∧ DecOK g fi (lt + ((b + 8) / 9 : Nat)) V' := by
  obtain ⟨h1, h2, h3, h4, h5⟩ := h
  obtain ⟨d1, d2, d3, d4⟩ := hd
  have hPp : 0 < P := by omega
  obtain ⟨k, rfl⟩ := Int.eq_ofNat_of_zero_le (show 0 ≤ lt by omega)
  have hm := pow2_dvd b hb
  rw [← hP] at hm
  generalize (b + 8) / 9 = w at *
  rw [show ((k : Int) + (w : Int) + 1).toNat = k + 1 + w by omega] at h5
  have e1 := pv_tail (f := f) (k := k + 1) w (fun j hj _ => d3 j (Or.inr (by omega)))
  have hr : r = 0 := by
    have e2 : (P * pv g (k + 1 + w) + r) % P = r := by
      rw [Int.add_comm, Int.add_mul_emod_self_left]
      exact Int.emod_eq_of_lt h2.1 h2.2
    rw [← h5, e1, Int.mul_emod, hm, Int.mul_zero, Int.zero_emod] at e2
    exact e2.symm
  have gz : ∀ j, j < fi ∨ (k : Int) + (w : Int) < j → g j = 0 := fun j hj => by
    rw [h4 j (by omega)]
    exact d3 j (by omega)
  refine ⟨pv g 155, ?_, ⟨by omega, by omega, by omega⟩, h3, gz, rfl⟩
  have e3 := pv_tail (f := g) (k := k + 1 + w) (154 - k - w) (fun j hj _ => gz j (Or.inr (by omega)))
  have e4 := pv_tail (f := f) (k := k + 1 + w) (154 - k - w) (fun j hj _ => d3 j (Or.inr (by omega)))
  rw [show k + 1 + w + (154 - k - w) = 155 by omega] at e3 e4
  rw [e3, ← d4, e4, h5, hr, Int.add_zero, Int.mul_assoc]
theorem DecOK.next {f : Int → Int} {fi lt V : Int} (h : DecOK f fi lt V) (hz : f fi = 0) (hl : fi < lt) : DecOK f (fi + 1) lt V := by
  obtain ⟨h1, h2, h3, h4⟩ := h
  refine ⟨⟨by omega, by omega, by omega⟩, h2, fun j hj => ?_, h4⟩
  by_cases hq : j = fi
  · rw [hq]; exact hz
  · exact h3 j (by omega)
/-! one more at a place -/
def AddI (g : Int → Int) (fi lt V i mo : Int) : Prop := (0 ≤ mo ∧ mo ≤ 100000000) ∧ (-1 ≤ i ∧ i ≤ lt) ∧ (0 ≤ fi ∧ fi ≤ lt ∧ lt ≤ 154) ∧ (∀ j, 0 ≤ g j ∧ g j < 1000000000) ∧ (∀ j, j < fi ∨ lt < j → g j = 0) ∧ pv g 155 + mo * 1000000000 ^ (154 - i).toNat = V
theorem AddI.start {f : Int → Int} {fi lt V pl : Int} (h : DecOK f fi lt V) (h1 : 34 - pl / 9 ≤ lt) (h0 : 0 ≤ 34 - pl / 9) : AddI f fi lt (V + 10 ^ (pl + 1080).toNat) (34 - pl / 9) (10 ^ (pl % 9).toNat) := by
  obtain ⟨d1, d2, d3, d4⟩ := h
  have hw : (10 : Int) ^ (pl % 9).toNat ≤ 10 ^ 8 := pow10_le (by omega)
  have hw2 := pow_pos10 (pl % 9).toNat
  have hw3 : (10 : Int) ^ 8 = 100000000 := by decide
  refine ⟨⟨by omega, by omega⟩, ⟨by omega, by omega⟩, d1, d2, d3, ?_⟩
  rw [d4, powB, ← Int.pow_add, show (pl + 1080).toNat = (pl % 9).toNat + 9 * (154 - (34 - pl / 9)).toNat by omega]
theorem AddI.step {g : Int → Int} {fi lt V i mo y m2 : Int} (h : AddI g fi lt V i mo) (h0 : 0 ≤ i) (hy : 0 ≤ y ∧ y < 1000000000) (hm : 0 ≤ m2 ∧ m2 ≤ 100000000) (he : y + m2 * 1000000000 = g i + mo) : AddI (up g i y) (min fi i) lt V (i - 1) m2 := by
  obtain ⟨h1, h2, h3, h4, h5, h6⟩ := h
  refine ⟨hm, ⟨by omega, by omega⟩, ⟨by omega, by omega, by omega⟩, fun j => ?_, fun j hj => ?_, ?_⟩
  · by_cases hq : j = i
    · rw [hq, up_s]; exact hy
    · rw [up_n _ _ hq]; exact h4 j
  · rw [up_n _ _ (by omega)]
    exact h5 j (by omega)
  · obtain ⟨k, rfl⟩ := Int.eq_ofNat_of_zero_le h0
    rw [pv_up155 (by omega), ← h6, show (154 - ((k : Int) - 1)).toNat = 154 - k + 1 by omega, show (154 - (k : Int)).toNat = 154 - k by omega, Int.pow_succ]
    generalize (1000000000 : Int) ^ (154 - k) = z
    generalize pv g 155 = u
    generalize g (k : Int) = b at he ⊢
    have e : y = b + mo - m2 * 1000000000 := by omega
    subst e
    grind
theorem AddI.stop {g : Int → Int} {fi lt V i : Int} (h : AddI g fi lt V i 0) : DecOK g fi lt V := by
  obtain ⟨h1, h2, h3, h4, h5, h6⟩ := h
  refine ⟨h3, h4, h5, ?_⟩
  rw [← h6]
  simp
theorem AddI.top {g : Int → Int} {fi lt V mo : Int} (h : AddI g fi lt V (-1) mo) (hV : V < 1000000000 ^ 155) : mo = 0 := by
  obtain ⟨h1, h2, h3, h4, h5, h6⟩ := h
  by_cases hc : mo = 0
  · exact hc
  · exfalso
    have h7 := (pv_nn h4 155).1
    rw [show (154 - (-1 : Int)).toNat = 155 by decide] at h6
    have hp : (0 : Int) < 1000000000 ^ 155 := Int.pow_pos (by decide)
    have h8 := Int.mul_le_mul_of_nonneg_right (show 1 ≤ mo by omega) (Int.le_of_lt hp)
    generalize (1000000000 : Int) ^ 155 = z at h6 hV h8
    omega
theorem pow10_8 {w : Int} (h : w ≤ 8) : 0 < (10 : Int) ^ w.toNat ∧ (10 : Int) ^ w.toNat ≤ 100000000 := by
  have h1 := pow10_le (a := w.toNat) (b := 8) (by omega)
  have h2 : (10 : Int) ^ 8 = 100000000 := by decide
  exact ⟨pow_pos10 _, by omega⟩
theorem pow2_29 {b : Nat} (h : b ≤ 29) : 0 < (2 : Int) ^ b ∧ (2 : Int) ^ b ≤ 536870912 := by
  have h1 : ∀ b : Nat, b < 30 → 0 < (2 : Int) ^ b ∧ (2 : Int) ^ b ≤ 536870912 := by decide +kernel
  exact h1 b (by omega)
theorem pow2_27 {b : Nat} (h : b ≤ 27) : 0 < (2 : Int) ^ b ∧ (2 : Int) ^ b ≤ 134217728 := by
  have h1 : ∀ b : Nat, b < 28 → 0 < (2 : Int) ^ b ∧ (2 : Int) ^ b ≤ 134217728 := by decide +kernel
  exact h1 b (by omega)
/-- what rounding at a place makes of the value: the digits below stay -/
def rup (V pl : Int) : Int := if 5 ≤ dgt V (pl - 1) then V + 10 ^ (pl + 1080).toNat else V
theorem rup_pl {V pl : Int} (h0 : 0 ≤ V) (hV : V < 10 ^ 1389) (h : 5 ≤ dgt V (pl - 1)) : -1079 ≤ pl ∧ pl ≤ 314 := by
  constructor
  · by_cases hq : -1079 ≤ pl
    · exact hq
    · exfalso
      unfold dgt at h
      rw [if_pos (by omega)] at h
      omega
  · by_cases hq : pl ≤ 309
    · omega
    · exfalso
      rw [dgt_hi (n := 1389) h0 hV (by omega)] at h
      omega
theorem rup_lt {V pl : Int} (h0 : 0 ≤ V) (hV : V < 10 ^ 1389) (h : 5 ≤ dgt V (pl - 1)) : V + 10 ^ (pl + 1080).toNat < 1000000000 ^ 155 := by
  have h1 := rup_pl h0 hV h
  have h2 := pow10_le (a := (pl + 1080).toNat) (b := 1394) (by omega)
  have h3 := pow10_le (a := 1389) (b := 1394) (by omega)
  have h4 : (1000000000 : Int) ^ 155 = 10 ^ 1394 * 10 := by rw [powB, ← Int.pow_succ]
  have h5 := pow_pos10 1394
  rw [h4]
  generalize (10 : Int) ^ 1394 = z at *
  generalize (10 : Int) ^ 1389 = y at *
  omega
theorem pow2_pos (n : Nat) : (0 : Int) < 2 ^ n := Int.pow_pos (by decide)
theorem scale_up {left V2 Y : Int} (h : 0 < left) (hv : V2 * 2 ^ left.toNat = Y) : 2 ^ (min left 29).toNat * V2 * 2 ^ (left - 29).toNat = Y := by
  rw [← hv, show left.toNat = (min left 29).toNat + (left - 29).toNat by omega, Int.pow_add]
  generalize (2 : Int) ^ (min left 29).toNat = a
  generalize (2 : Int) ^ (left - 29).toNat = b
  grind
theorem le_mul_pow2 {a : Int} (n : Nat) (h : 0 ≤ a) : a ≤ a * 2 ^ n := by
  have h1 := pow2_pos n
  calc a = a * 1 := (Int.mul_one a).symm
    _ ≤ a * 2 ^ n := Int.mul_le_mul_of_nonneg_left h1 h
theorem scale_lt {left V2 W q : Int} (h : 0 < left) (hl : q ≤ 0 → left = q) (hv : V2 * 2 ^ left.toNat = W * 2 ^ (-q).toNat) (hWb : 0 ≤ q → W < 1000000000 ^ 155) (hW0 : 0 ≤ W) : 2 ^ (min left 29).toNat * V2 < 1000000000 ^ 155 := by
  have hq : 0 < q := by
    by_cases h1 : 0 < q
    · exact h1
    · have := hl (by omega)
      omega
  have h1 := scale_up h hv
  rw [show (-q).toNat = 0 by omega, Int.pow_zero, Int.mul_one] at h1
  have h2 := hWb (by omega)
  by_cases h3 : 0 ≤ 2 ^ (min left 29).toNat * V2
  · have h4 := le_mul_pow2 (left - 29).toNat h3
    rw [h1] at h4
    exact Int.lt_of_le_of_lt h4 h2
  · have h5 : (0 : Int) < 1000000000 ^ 155 := Int.pow_pos (by decide)
    generalize (1000000000 : Int) ^ 155 = z at *
    omega
theorem scale_dn {left V2 W : Int} (h : 0 < left) (hv : V2 = W * 2 ^ left.toNat) : 2 ^ (min left 27).toNat * (W * 2 ^ (left - 27).toNat) = V2 := by
  rw [hv, show left.toNat = (min left 27).toNat + (left - 27).toNat by omega, Int.pow_add]
  generalize (2 : Int) ^ (min left 27).toNat = a
  generalize (2 : Int) ^ (left - 27).toNat = b
  grind
theorem assign_0 {wc W q : Int} (h : wc = 0) (hv : wc * 10 ^ 1080 * 2 ^ q.toNat = W * 2 ^ (-q).toNat) : W = 0 := by
  rw [h, Int.zero_mul, Int.zero_mul] at hv
  have h1 := pow2_pos (-q).toNat
  rcases Int.mul_eq_zero.mp hv.symm with h2 | h2
  · exact h2
  · omega
theorem whole_ok {wc : Int} (h : 0 ≤ wc ∧ wc ≤ 18014398509481983) : DecOK (up (up (fun _ => 0) 34 (wc % 1000000000)) 33 (wc / 1000000000)) 33 34 (wc * 10 ^ 1080) := by
  refine ⟨⟨by omega, by omega, by omega⟩, fun j => ?_, fun j hj => ?_, ?_⟩
  · by_cases h1 : j = 33
    · rw [h1, up_s]; omega
    · rw [up_n _ _ h1]
      by_cases h2 : j = 34
      · rw [h2, up_s]; omega
      · rw [up_n _ _ h2]; omega
  · rw [up_n _ _ (by omega), up_n _ _ (by omega)]
  · have e1 := pv_up155 (f := up (fun _ => 0) 34 (wc % 1000000000)) (k := 33) (x := wc / 1000000000) (by decide)
    have e2 := pv_up155 (f := fun _ => 0) (k := 34) (x := wc % 1000000000) (by decide)
    have e3 : pv (fun _ => 0) 155 = 0 := pv_zero (fun _ _ _ => rfl)
    rw [e3] at e2
    have e4 : up (fun _ => (0 : Int)) 34 (wc % 1000000000) ((33 : Nat) : Int) = 0 := up_n _ _ (by decide)
    rw [e4] at e1
    have e5 : pv (up (up (fun _ => 0) 34 (wc % 1000000000)) 33 (wc / 1000000000)) 155 = pv (up (up (fun _ => 0) ((34 : Nat) : Int) (wc % 1000000000)) ((33 : Nat) : Int) (wc / 1000000000)) 155 := rfl
    rw [e5]
    have e6 : pv (up (up (fun _ => 0) ((34 : Nat) : Int) (wc % 1000000000)) ((33 : Nat) : Int) (wc / 1000000000)) 155 = 0 + (wc % 1000000000 - 0) * 1000000000 ^ (154 - 34) + (wc / 1000000000 - 0) * 1000000000 ^ (154 - 33) := by
      rw [← e2]; exact e1
    rw [e6]
    have e7 : (1000000000 : Int) ^ (154 - 33) = 1000000000 ^ (154 - 34) * 1000000000 := by rw [← Int.pow_succ]
    have e8 : (10 : Int) ^ 1080 = 1000000000 ^ (154 - 34) := by rw [powB]
    rw [e7, e8]
    generalize (1000000000 : Int) ^ (154 - 34) = z
    have e9 := Int.emod_add_mul_ediv wc 1000000000
    generalize wc % 1000000000 = a at *
    generalize wc / 1000000000 = b at *
    rw [← e9]
    grind
/-! what is written -/
def dl (V fp : Int) : Nat → List Int
  | 0 => []
  | i + 1 => dl V fp i ++ [48 + dgt V (fp - (i : Int))]
def dotL (cn : Nat) (pt : Int) : List Int := if 0 < cn ∨ pt ≠ 0 then [46] else []
def behL (V fp : Int) (cn : Nat) (pt : Int) : List Int := dotL cn pt ++ dl V fp cn
def expL (r : Int) : List Int := [101] ++ ([if r < 0 then 45 else 43] ++ ((if 100 ≤ max r (-r) then [48 + max r (-r) / 100] else []) ++ ([48 + max r (-r) / 10 % 10] ++ [48 + max r (-r) % 10])))
def ipC (V gr : Int) : Nat → List Int
  | 0 => [48 + dgt V 0]
  | k + 1 => [48 + dgt V ((k : Int) + 1)] ++ ((if gr ≠ 0 ∧ (k + 1) % 3 = 0 then [44] else []) ++ ipC V gr k)
def ipR (V gr k : Int) : List Int := if k < 0 then [] else ipC V gr k.toNat
def sciL (V r : Int) (cn : Nat) (pt : Int) : List Int := [48 + dgt V r] ++ (behL V (r - 1) cn pt ++ expL r)
def fixL (V r : Int) (cn : Nat) (gr pt : Int) : List Int := ipR V gr (max r 0) ++ behL V (-1) cn pt
theorem dl_len (V fp : Int) : ∀ n : Nat, (dl V fp n).length = n
  | 0 => rfl
  | n + 1 => by
    show (dl V fp n ++ [_]).length = n + 1
    rw [List.length_append, dl_len V fp n]
    rfl
theorem dotL_len (cn : Nat) (pt : Int) : (dotL cn pt).length ≤ 1 := by
  unfold dotL
  split
  · exact Nat.le_refl 1
  · exact Nat.zero_le _
theorem behL_len (V fp : Int) (cn : Nat) (pt : Int) : (behL V fp cn pt).length ≤ cn + 1 := by
  unfold behL
  rw [List.length_append, dl_len]
  have := dotL_len cn pt
  omega
theorem expL_len (r : Int) : (expL r).length ≤ 5 := by
  unfold expL
  simp only [List.length_append, List.length_cons, List.length_nil]
  split <;> simp
theorem ipR_neg (V gr k : Int) (h : k < 0) : ipR V gr k = [] := if_pos h
theorem ipR_step (V gr k : Int) (h : 0 ≤ k) : ipR V gr k = [48 + dgt V k] ++ ((if gr ≠ 0 ∧ 0 < k ∧ k % 3 = 0 then [44] else []) ++ ipR V gr (k - 1)) := by
  unfold ipR
  rw [if_neg (by omega)]
  by_cases h0 : k = 0
  · subst h0
    rw [if_neg (by omega), if_pos (by omega)]
    rfl
  · obtain ⟨j, hj⟩ : ∃ j : Nat, k = (j : Int) + 1 := ⟨(k - 1).toNat, by omega⟩
    subst hj
    rw [show ((j : Int) + 1).toNat = j + 1 by omega, if_neg (show ¬ (j : Int) + 1 - 1 < 0 by omega), show ((j : Int) + 1 - 1).toNat = j by omega]
    show [48 + dgt V ((j : Int) + 1)] ++ ((if gr ≠ 0 ∧ (j + 1) % 3 = 0 then [44] else []) ++ ipC V gr j) = _
    by_cases h1 : gr ≠ 0 ∧ (j + 1) % 3 = 0
    · rw [if_pos h1, if_pos ⟨h1.1, by omega, by omega⟩]
    · rw [if_neg h1, if_neg (fun h2 => h1 ⟨h2.1, by omega⟩)]
