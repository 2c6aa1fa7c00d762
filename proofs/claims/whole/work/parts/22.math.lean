/-! one more in the last place of a row -/
def MoreI (f h : Int → Int) (n i : Int) : Prop := (-1 ≤ i ∧ i < n) ∧ (∀ j, j ≤ i → h j = f j) ∧ ∀ j, i < j → j < n → h j = 0 ∧ f j = 9
theorem MoreI.start (f : Int → Int) {n : Int} (h : 0 < n) : MoreI f f n (n - 1) := ⟨⟨by omega, by omega⟩, fun _ _ => rfl, fun j h1 h2 => absurd h1 (by omega)⟩
theorem MoreI.step {f h : Int → Int} {n i : Int} (hm : MoreI f h n i) (h0 : 0 ≤ i) (h9 : h i = 9) : MoreI f (up h i 0) n (i - 1) := by
  obtain ⟨h1, h2, h3⟩ := hm
  refine ⟨⟨by omega, by omega⟩, fun j hj => by rw [up_n _ _ (by omega)]; exact h2 j (by omega), fun j q1 q2 => ?_⟩
  by_cases hq : j = i
  · subst hq
    rw [up_s]
    exact ⟨rfl, by rw [← h2 j (Int.le_refl _)]; exact h9⟩
  · rw [up_n _ _ hq]
    exact h3 j (by omega) q2
theorem dv_nines {f : Int → Int} {k : Nat} : ∀ (m : Nat), (∀ j : Int, (k : Int) ≤ j → j < ((k + m : Nat) : Int) → f j = 9) → dv f (k + m) + 1 = (dv f k + 1) * 10 ^ m
  | 0, _ => by rw [Int.pow_zero, Int.mul_one]; rfl
  | m + 1, h => by
    have h1 := dv_nines (f := f) (k := k) m (fun j q1 q2 => h j q1 (by omega))
    have h2 := h ((k + m : Nat) : Int) (by omega) (by omega)
    show dv f (k + m) * 10 + f ((k + m : Nat) : Int) + 1 = _
    rw [h2, Int.pow_succ, ← Int.mul_assoc, ← h1]
    omega
theorem dv_zeros {f : Int → Int} {k : Nat} : ∀ (m : Nat), (∀ j : Int, (k : Int) ≤ j → j < ((k + m : Nat) : Int) → f j = 0) → dv f (k + m) = dv f k * 10 ^ m
  | 0, _ => by rw [Int.pow_zero, Int.mul_one]; rfl
  | m + 1, h => by
    have h1 := dv_zeros (f := f) (k := k) m (fun j q1 q2 => h j q1 (by omega))
    have h2 := h ((k + m : Nat) : Int) (by omega) (by omega)
    show dv f (k + m) * 10 + f ((k + m : Nat) : Int) = _
    rw [h2, Int.pow_succ, ← Int.mul_assoc, ← h1]
    omega
/-- no carry over the first digit -/
theorem more_inc {f h : Int → Int} {n p C i : Int} (hr : RowOK f n p C) (hm : MoreI f h n i) (h0 : 0 ≤ i) (h9 : h i ≠ 9) : RowOK (up h i (h i + 1)) n p (C + 10 ^ (p - n + 1080).toNat) := by
  obtain ⟨r1, r2, r3, r4⟩ := hr
  obtain ⟨m1, m2, m3⟩ := hm
  have hfi := r2 i h0 m1.2
  have hhi : h i = f i := m2 i (Int.le_refl _)
  refine ⟨r1, fun j q1 q2 => ?_, fun q => ⟨?_, (r3 q).2⟩, ?_⟩
  · by_cases hq : j = i
    · rw [hq, up_s]; omega
    · rw [up_n _ _ hq]
      by_cases hq2 : j < i
      · rw [m2 j (by omega)]; exact r2 j q1 q2
      · rw [(m3 j (by omega) q2).1]; omega
  · have := (r3 q).1
    by_cases hq : (0 : Int) = i
    · rw [hq, up_s]
      rw [hq] at this
      omega
    · rw [up_n _ _ hq, m2 0 (by omega)]; exact this
  · obtain ⟨k, rfl⟩ := Int.eq_ofNat_of_zero_le h0
    obtain ⟨w, hw⟩ : ∃ w : Nat, n = (k : Int) + 1 + (w : Int) := ⟨(n - k - 1).toNat, by omega⟩
    subst hw
    rw [show ((k : Int) + 1 + (w : Int)).toNat = k + 1 + w by omega] at r4 ⊢
    have e1 := dv_nines (f := f) (k := k + 1) w (fun j q1 q2 => (m3 j (by omega) (by omega)).2)
    have e2 := dv_zeros (f := up h (k : Int) (h (k : Int) + 1)) (k := k + 1) w (fun j q1 q2 => by rw [up_n _ _ (by omega)]; exact (m3 j (by omega) (by omega)).1)
    have e3 : dv (up h (k : Int) (h (k : Int) + 1)) (k + 1) = dv f (k + 1) + 1 := by
      show dv (up h (k : Int) (h (k : Int) + 1)) k * 10 + up h (k : Int) (h (k : Int) + 1) (k : Int) = dv f k * 10 + f (k : Int) + 1
      rw [up_s, dv_congr (f := up h (k : Int) (h (k : Int) + 1)) (g := f) (fun j q1 q2 => by rw [up_n _ _ (by omega)]; exact m2 j (by omega)), hhi]
      omega
    rw [e2, e3, ← e1, r4, Int.add_mul, Int.one_mul]
/-- all were nines -/
theorem more_all {f h : Int → Int} {n p C : Int} (hr : RowOK f n p C) (hn : 0 < n) (hn2 : n ≤ 1249) (hp : p ≤ 1499) (hm : MoreI f h n (-1)) {g : Int → Int} (hg : ∀ j, 0 ≤ j → j ≤ n → g j = 0) : RowOK (up g 0 1) (n + 1) (p + 1) (C + 10 ^ (p - n + 1080).toNat) := by
  obtain ⟨r1, r2, r3, r4⟩ := hr
  obtain ⟨m1, m2, m3⟩ := hm
  refine ⟨by omega, fun j q1 q2 => ?_, fun q => ⟨by rw [up_s]; omega, by have := (r3 hn).2; omega⟩, ?_⟩
  · by_cases hq : j = 0
    · rw [hq, up_s]; omega
    · rw [up_n _ _ hq, hg j q1 (by omega)]; omega
  · obtain ⟨k, rfl⟩ := Int.eq_ofNat_of_zero_le (show 0 ≤ n by omega)
    have e1 := dv_nines (f := f) (k := 0) k (fun j q1 q2 => (m3 j (by omega) (by omega)).2)
    have e2 := dv_zeros (f := up g 0 1) (k := 1) k (fun j q1 q2 => by rw [up_n _ _ (by omega)]; exact hg j (by omega) (by omega))
    have e3 : dv (up g 0 1) 1 = 1 := by
      show 0 * 10 + up g 0 1 0 = 1
      rw [up_s]; rfl
    rw [Nat.zero_add] at e1
    have e4 : dv f 0 = 0 := rfl
    rw [e4] at e1
    rw [show ((k : Int) + 1).toNat = 1 + k by omega, show (p + 1 - ((k : Int) + 1) + 1080).toNat = (p - (k : Int) + 1080).toNat by omega, e2, e3, r4, Int.toNat_natCast, Int.one_mul]
    have e5 : dv f k = 10 ^ k - 1 := by omega
    rw [e5, Int.sub_mul, Int.one_mul]
    omega
/-! what rounding makes of a row -/
theorem rnd_0 (t : Int) : rnd 0 t = 0 := by
  unfold rnd
  split
  · rfl
  · rw [dgt_zero, Int.zero_ediv, if_neg (by decide)]
    omega
theorem RowOK.leadv {f : Int → Int} {n p V : Int} (h : RowOK f n p V) (h0 : 0 < n) : lead V = p - 1 := lead_eq h.nn (h.ld h0).1
theorem cut_neg {f : Int → Int} {n p V k : Int} (h : RowOK f n p V) (hk : k < 0) : rnd V (lead V + 1 - k) = 0 := by
  by_cases h0 : n = 0
  · rw [h.zero h0, rnd_0]
  · have hn : 0 < n := by have := h.1; omega
    rw [h.leadv hn]
    have h1 := h.ld hn
    rcases h1.1 with ⟨a, b⟩ | ⟨a, b, c⟩
    · omega
    · unfold rnd
      rw [if_neg (by omega), dgt_hi (n := (p - 1 + 1080).toNat + 1) h.nn c (by omega), if_neg (by decide), Int.ediv_eq_zero_of_lt h.nn]
      · omega
      · have := pow10_le (a := (p - 1 + 1080).toNat + 1) (b := (p - 1 + 1 - k + 1080).toNat) (by omega)
        omega
theorem cut_all {f : Int → Int} {n p V k : Int} (h : RowOK f n p V) (hk : n ≤ k) : rnd V (lead V + 1 - k) = V := by
  by_cases h0 : n = 0
  · rw [h.zero h0, rnd_0]
  · have hn : 0 < n := by have := h.1; omega
    rw [h.leadv hn]
    unfold rnd
    by_cases hq : p - 1 + 1 - k < -1080
    · rw [if_pos hq]
    · rw [if_neg hq, h.low (by omega), if_neg (by decide)]
      obtain ⟨r1, r2, r3, r4⟩ := h
      have hp := pow_pos10 (p - 1 + 1 - k + 1080).toNat
      rw [r4, show (p - n + 1080).toNat = (k - n).toNat + (p - 1 + 1 - k + 1080).toNat by omega, Int.pow_add, ← Int.mul_assoc, Int.mul_ediv_cancel _ (by omega), Int.add_zero]
theorem cut_at {f : Int → Int} {n p V k : Int} (h : RowOK f n p V) (h0 : 0 ≤ k) (hk : k < n) : rnd V (lead V + 1 - k) = dv f k.toNat * 10 ^ (p - k + 1080).toNat + (if 5 ≤ f k then 10 ^ (p - k + 1080).toNat else 0) := by
  have hn : 0 < n := by omega
  rw [h.leadv hn]
  have hd := h.dig h0 hk
  unfold rnd
  rw [show p - 1 + 1 - k - 1 = p - 1 - k by omega, hd, show p - 1 + 1 - k = p - k by omega]
  obtain ⟨r1, r2, r3, r4⟩ := h
  have h5 := (r3 hn).2
  rw [if_neg (by omega)]
  obtain ⟨j, rfl⟩ := Int.eq_ofNat_of_zero_le h0
  obtain ⟨w, hw⟩ : ∃ w : Nat, n = (j : Int) + (w : Int) := ⟨(n - j).toNat, by omega⟩
  subst hw
  obtain ⟨r, e1, e2, e3⟩ := dv_split (f := f) (k := j) w (fun q q1 q2 => r2 q q1 (by omega))
  rw [show ((j : Int) + (w : Int)).toNat = j + w by omega] at r4
  have hp := pow_pos10 (p - ((j : Int) + (w : Int)) + 1080).toNat
  have hq : V / 10 ^ (p - (j : Int) + 1080).toNat = dv f j := by
    rw [r4, show (p - (j : Int) + 1080).toNat = w + (p - ((j : Int) + (w : Int)) + 1080).toNat by omega, Int.pow_add, Int.mul_ediv_mul_of_pos_left _ _ hp, e1, Int.add_comm, Int.add_mul_ediv_right _ _ (by have := pow_pos10 w; omega), Int.ediv_eq_zero_of_lt e2 e3, Int.zero_add]
  rw [hq, Int.toNat_natCast]
theorem row_cut {f h : Int → Int} {n p V k : Int} (hr : RowOK f n p V) (h0 : 0 ≤ k) (hk : k < n) (hh : ∀ j, 0 ≤ j → j < k → h j = f j) : RowOK h k p (dv f k.toNat * 10 ^ (p - k + 1080).toNat) := by
  obtain ⟨r1, r2, r3, r4⟩ := hr
  refine ⟨by omega, fun j q1 q2 => by rw [hh j q1 q2]; exact r2 j q1 (by omega), fun q => ⟨by rw [hh 0 (by omega) q]; exact (r3 (by omega)).1, by have := (r3 (by omega)).2; omega⟩, ?_⟩
  rw [dv_congr (f := h) (g := f) (fun j q1 q2 => hh j q1 (by omega))]
theorem row_same {f h : Int → Int} {n p V : Int} (hr : RowOK f n p V) (hh : ∀ j, 0 ≤ j → j < n → h j = f j) : RowOK h n p V := by
  obtain ⟨r1, r2, r3, r4⟩ := hr
  refine ⟨r1, fun j q1 q2 => by rw [hh j q1 q2]; exact r2 j q1 q2, fun q => ⟨by rw [hh 0 (by omega) q]; exact (r3 q).1, (r3 q).2⟩, ?_⟩
  rw [r4, dv_congr (f := h) (g := f) (fun j q1 q2 => hh j q1 (by omega))]
theorem row_none {h : Int → Int} {p : Int} (hp : -1500 ≤ p ∧ p ≤ 1500) : RowOK h 0 p 0 := ⟨by omega, fun i q1 q2 => absurd q1 (by omega), fun q => absurd q (by omega), by show 0 = 0 * _; omega⟩
theorem row_one {h : Int → Int} {p : Int} (hp : -1080 ≤ p ∧ p ≤ 1499) : RowOK (up h 0 1) 1 (p + 1) (10 ^ (p + 1080).toNat) := by
  refine ⟨by omega, fun i q1 q2 => ?_, fun _ => ⟨by rw [up_s]; omega, by omega⟩, ?_⟩
  · rw [show i = 0 by omega, up_s]; omega
  · rw [show (p + 1 - 1 + 1080).toNat = (p + 1080).toNat by omega]
    show _ = (0 * 10 + up h 0 1 0) * _
    rw [up_s]
    omega
theorem more_A {f h : Int → Int} {n i : Int} (hm : MoreI f h n i) (hi : i < 0) : MoreI f (fun j => if 0 ≤ j ∧ j < n then 0 else f j) n (-1) := by
  obtain ⟨m1, m2, m3⟩ := hm
  refine ⟨⟨by omega, by omega⟩, fun j hj => if_neg (by omega), fun j q1 q2 => ⟨if_pos ⟨by omega, q2⟩, (m3 j (by omega) q2).2⟩⟩
theorem lead_0 : lead 0 = 0 := lead_eq (Int.le_refl 0) (Or.inl ⟨rfl, rfl⟩)
theorem rnd_pos {f : Int → Int} {n p V k : Int} (h : RowOK f n p V) (h0 : 0 < n) (hk : 1 ≤ k) : 0 < rnd V (lead V + 1 - k) := by
  by_cases h1 : n ≤ k
  · rw [cut_all h h1]
    exact (h.ld h0).2
  · rw [cut_at h (by omega) (by omega)]
    have h2 := (row_cut h (k := k) (h := f) (by omega) (by omega) (fun _ _ _ => rfl)).ld (by omega)
    have h3 := pow_pos10 (p - k + 1080).toNat
    split <;> omega
theorem rnd_nn {V t : Int} (h : 0 ≤ V) : 0 ≤ rnd V t := by
  by_cases ht : t < -1080
  · rw [(rup_low ht).2]; exact h
  · obtain ⟨z, h1, h2, h3, h4, h5⟩ := rup_rnd (V := V) (t := t) (by omega)
    rw [h2]
    exact Int.mul_nonneg (h5 h) (Int.le_of_lt (pow_pos10 _))
theorem dgt_above {V k : Int} (h : 0 ≤ V) (hk : lead V < k) : dgt V k = 0 := by
  rcases lead_is h with ⟨a, b⟩ | ⟨a, b, c⟩
  · rw [a, dgt_zero]
  · exact dgt_hi (n := (lead V + 1080).toNat + 1) h c (by omega)
/-- what of the digits before the point is still to be written when i of the bf are -/
def pend (C gr bf i : Int) : List Int := if bf ≤ i then [] else (if gr ≠ 0 ∧ 0 < i ∧ (bf - i) % 3 = 0 then [44] else []) ++ ipR C gr (bf - 1 - i)
theorem pend_step {C gr bf i : Int} (h : i < bf) (h0 : 0 ≤ i) : pend C gr bf i = (if gr ≠ 0 ∧ 0 < i ∧ (bf - i) % 3 = 0 then [44] else []) ++ ([48 + dgt C (bf - 1 - i)] ++ pend C gr bf (i + 1)) := by
  unfold pend
  rw [if_neg (by omega), ipR_step C gr (bf - 1 - i) (by omega)]
  by_cases h1 : bf ≤ i + 1
  · rw [if_pos h1, if_neg (show ¬ (gr ≠ 0 ∧ 0 < bf - 1 - i ∧ (bf - 1 - i) % 3 = 0) by omega), ipR_neg C gr (bf - 1 - i - 1) (by omega)]
    rfl
  · rw [if_neg h1, show bf - 1 - i - 1 = bf - 1 - (i + 1) by omega]
    by_cases h2 : gr ≠ 0 ∧ 0 < bf - 1 - i ∧ (bf - 1 - i) % 3 = 0
    · rw [if_pos h2, if_pos (show gr ≠ 0 ∧ 0 < i + 1 ∧ (bf - (i + 1)) % 3 = 0 from ⟨h2.1, by omega, by omega⟩)]
    · rw [if_neg h2, if_neg (show ¬ (gr ≠ 0 ∧ 0 < i + 1 ∧ (bf - (i + 1)) % 3 = 0) from fun h3 => h2 ⟨h3.1, by omega, by omega⟩)]
theorem pend_0 {C gr bf : Int} (h : 0 < bf) : pend C gr bf 0 = ipR C gr (bf - 1) := by
  unfold pend
  rw [if_neg (by omega), if_neg (by omega), Int.sub_zero]
  rfl
theorem pend_end {C gr bf i : Int} (h : bf ≤ i) : pend C gr bf i = [] := if_pos h
theorem ipR_0 (C gr : Int) (h : dgt C 0 = 0) : ipR C gr 0 = [48] := by
  unfold ipR
  rw [if_neg (by omega)]
  show [48 + dgt C 0] = [48]
  rw [h]
  rfl
theorem dg48 (C k : Int) : 0 ≤ 48 + dgt C k ∧ 48 + dgt C k < 128 := by
  have := dgt_r C k
  omega
/-- rounded to k digits; where that carries, to k - 1 digits is the same -/
theorem rnd_carry {V : Int} {k : Nat} (hV : 0 < V) (hk : 1 ≤ k) (h : lead (rnd V (lead V + 1 - (k : Int))) ≠ lead V) : lead (rnd V (lead V + 1 - (k : Int))) = lead V + 1 ∧ rnd V (lead V + 1 - (k : Int) + 1) = rnd V (lead V + 1 - (k : Int)) := by
  have hl := lead_is (Int.le_of_lt hV)
  rcases hl with ⟨a, b⟩ | ⟨a, b, c⟩
  · omega
  · by_cases ht : lead V + 1 - (k : Int) < -1080
    · exfalso
      rw [(rup_low ht).2] at h
      exact h rfl
    · generalize hr : lead V = r at *
      obtain ⟨u, hu⟩ : ∃ u : Nat, r + 1 - (k : Int) + 1080 = (u : Int) := ⟨(r + 1 - (k : Int) + 1080).toNat, by omega⟩
      have e1 : (r + 1 - (k : Int) + 1080).toNat = u := by omega
      have e2 : (r + 1 - (k : Int) + 1 + 1080).toNat = u + 1 := by omega
      have e3 : (r + 1080).toNat = u + (k - 1) := by omega
      have e4 : (r + 1080).toNat + 1 = u + k := by omega
      rw [e3, Int.pow_add] at b
      rw [e4, Int.pow_add] at c
      have hT := pow_pos10 u
      have hz1 : 10 ^ (k - 1) ≤ V / 10 ^ u := (Int.le_ediv_iff_mul_le hT).mpr (by rw [Int.mul_comm]; exact b)
      have hz2 : V / 10 ^ u < 10 ^ k := Int.ediv_lt_of_lt_mul hT (by rw [Int.mul_comm]; exact c)
      have hC : rnd V (r + 1 - (k : Int)) = (V / 10 ^ u + (if 5 ≤ dgt V (r + 1 - (k : Int) - 1) then 1 else 0)) * 10 ^ u := by
        unfold rnd
        rw [if_neg (by omega), e1]
        split
        · rw [Int.add_mul, Int.one_mul]
        · rw [Int.add_zero, Int.add_zero]
      by_cases hlt : V / 10 ^ u + (if 5 ≤ dgt V (r + 1 - (k : Int) - 1) then 1 else 0) < 10 ^ k
      · exfalso
        refine h (lead_eq (rnd_nn (Int.le_of_lt hV)) (Or.inr ⟨a, ?_, ?_⟩))
        · rw [hC, e3, Int.pow_add, Int.mul_comm]
          exact Int.mul_le_mul_of_nonneg_right (by split <;> omega) (Int.le_of_lt hT)
        · rw [hC, e4, Int.pow_add, Int.mul_comm (10 ^ u)]
          exact Int.mul_lt_mul_of_pos_right hlt hT
      · have h5 : 5 ≤ dgt V (r + 1 - (k : Int) - 1) := by
          by_cases h6 : 5 ≤ dgt V (r + 1 - (k : Int) - 1)
          · exact h6
          · exfalso
            rw [if_neg h6] at hlt
            omega
        rw [if_pos h5] at hlt hC
        have hz : V / 10 ^ u = 10 ^ k - 1 := by omega
        have hCe : rnd V (r + 1 - (k : Int)) = 10 ^ k * 10 ^ u := by rw [hC, hz]; congr 1; omega
        refine ⟨lead_eq (rnd_nn (Int.le_of_lt hV)) (Or.inr ⟨by omega, ?_, ?_⟩), ?_⟩
        · rw [hCe, show (r + 1 + 1080).toNat = u + k by omega, Int.pow_add, Int.mul_comm]
          exact Int.le_refl _
        · rw [hCe, show (r + 1 + 1080).toNat + 1 = u + k + 1 by omega, Int.pow_succ, Int.pow_add, Int.mul_comm (10 ^ u)]
          have := Int.mul_pos (pow_pos10 k) hT
          omega
        · rw [hCe]
          unfold rnd
          obtain ⟨j, rfl⟩ : ∃ j : Nat, k = j + 1 := ⟨k - 1, by omega⟩
          have hq : V / 10 ^ (u + 1) = 10 ^ j - 1 := by
            rw [Int.pow_succ, ← Int.ediv_ediv_of_nonneg (Int.le_of_lt hT), hz, Int.pow_succ]
            omega
          have hd : dgt V (r + 1 - ((j + 1 : Nat) : Int) + 1 - 1) = 9 := by
            unfold dgt
            rw [if_neg (by omega), show (r + 1 - ((j + 1 : Nat) : Int) + 1 - 1 + 1080).toNat = u by omega, hz, Int.pow_succ]
            omega
          rw [if_neg (by omega), e2, hd, if_pos (by decide), hq, Int.pow_succ 10 u, Int.pow_succ 10 j]
          generalize (10 : Int) ^ u = A
          generalize (10 : Int) ^ j = B
          grind
theorem gen_same {V : Int} {k : Nat} (hV : 0 < V) (hk : 1 ≤ k) : rnd V (lead (rnd V (lead V + 1 - (k : Int))) + 1 - (k : Int)) = rnd V (lead V + 1 - (k : Int)) := by
  by_cases h : lead (rnd V (lead V + 1 - (k : Int))) = lead V
  · rw [h]
  · obtain ⟨h1, h2⟩ := rnd_carry hV hk h
    rw [h1, ← h2]
    congr 1
    omega
noncomputable def genL (C : Int) (k : Nat) (gr : Int) : List Int := if -4 ≤ lead C ∧ lead C < (k : Int) then fixL C (lead C) ((k : Int) - 1 - lead C).toNat gr 0 else sciL C (lead C) (k - 1) 0
