/-! a number by its bits: c 2^q, scaled by 10^1080 -/
def Wd (c q : Int) : Int := c * 10 ^ 1080 * 2 ^ q.toNat / 2 ^ (-q).toNat
theorem pow10_2 (k : Nat) (h : k ≤ 1080) : (10 : Int) ^ 1080 = 2 ^ k * (5 ^ k * 10 ^ (1080 - k)) := by
  have e : (10 : Int) ^ 1080 = 10 ^ k * 10 ^ (1080 - k) := by rw [← Int.pow_add, show k + (1080 - k) = 1080 by omega]
  rw [e, ← Int.mul_assoc, ← Int.mul_pow]
  rfl
theorem Wd_eq {c q : Int} (h : -1080 ≤ q) : c * 10 ^ 1080 * 2 ^ q.toNat = Wd c q * 2 ^ (-q).toNat := by
  unfold Wd
  by_cases hq : 0 ≤ q
  · rw [show (-q).toNat = 0 by omega, Int.pow_zero, Int.ediv_one, Int.mul_one]
  · rw [show q.toNat = 0 by omega, Int.pow_zero, Int.mul_one, pow10_2 (-q).toNat (by omega), ← Int.mul_assoc, Int.mul_comm c, Int.mul_assoc, Int.mul_ediv_cancel_left _ (by have := pow2_pos (-q).toNat; omega), Int.mul_comm]
theorem Wd_neg {c q : Int} (h : -1080 ≤ q) (hq : q < 0) : Wd c q = c * (5 ^ (-q).toNat * 10 ^ (1080 - (-q).toNat)) := by
  unfold Wd
  rw [show q.toNat = 0 by omega, Int.pow_zero, Int.mul_one, pow10_2 (-q).toNat (by omega), ← Int.mul_assoc, Int.mul_comm c, Int.mul_assoc, Int.mul_ediv_cancel_left _ (by have := pow2_pos (-q).toNat; omega)]
theorem Wd_pos {c q : Int} (hq : 0 ≤ q) : Wd c q = c * 10 ^ 1080 * 2 ^ q.toNat := by
  unfold Wd
  rw [show (-q).toNat = 0 by omega, Int.pow_zero, Int.ediv_one]
theorem Wd_row {c q : Int} (h : -1080 ≤ q) : Wd c q = c * 2 ^ q.toNat * 5 ^ (-q).toNat * 10 ^ (min q 0 + 1080).toNat := by
  by_cases hq : 0 ≤ q
  · rw [Wd_pos hq, show (-q).toNat = 0 by omega, show (min q 0 + 1080).toNat = 1080 by omega, Int.pow_zero, Int.mul_one]
    generalize (10 : Int) ^ 1080 = a
    generalize (2 : Int) ^ q.toNat = b
    grind
  · rw [Wd_neg h (by omega), show q.toNat = 0 by omega, show (min q 0 + 1080).toNat = 1080 - (-q).toNat by omega, Int.pow_zero, Int.mul_one, Int.mul_assoc]
theorem Wd_nn {c q : Int} (hc : 0 ≤ c) : 0 ≤ Wd c q := by
  unfold Wd
  exact Int.ediv_nonneg (Int.mul_nonneg (Int.mul_nonneg hc (Int.le_of_lt (pow_pos10 _))) (Int.le_of_lt (pow2_pos _))) (Int.le_of_lt (pow2_pos _))
theorem pow2_1024 : (2 : Int) ^ 53 * 2 ^ 971 < 10 ^ 309 := by decide +kernel
theorem mul_lt_of {a b c d : Int} (ha : 0 ≤ a) (h1 : a < b) (h2 : c ≤ d) (hd : 0 < d) : a * c < b * d := by
  calc a * c ≤ a * d := Int.mul_le_mul_of_nonneg_left h2 ha
    _ < b * d := Int.mul_lt_mul_of_pos_right h1 hd
theorem Wd_big {c q : Int} (hc : 0 ≤ c ∧ c < 9007199254740992) (hq : 0 ≤ q ∧ q ≤ 971) : c * 2 ^ q.toNat < 10 ^ 309 := by
  have h1 : (2 : Int) ^ q.toNat ≤ 2 ^ 971 := mono_pow (by decide) (by omega)
  have h2 := mul_lt_of hc.1 hc.2 h1 (pow2_pos 971)
  have h3 := pow2_1024
  rw [show (2 : Int) ^ 53 = 9007199254740992 by decide] at h3
  exact Int.lt_trans h2 h3
theorem Wd_lt {c q : Int} (hc : 0 ≤ c ∧ c < 9007199254740992) (hq : -1074 ≤ q ∧ q ≤ 971) : Wd c q < 10 ^ 1389 := by
  by_cases h : 0 ≤ q
  · rw [Wd_pos h, Int.mul_assoc, Int.mul_comm (10 ^ 1080), ← Int.mul_assoc, show (1389 : Nat) = 309 + 1080 by decide, Int.pow_add]
    exact Int.mul_lt_mul_of_pos_right (Wd_big hc ⟨h, hq.2⟩) (pow_pos10 1080)
  · have h1 := Wd_eq (c := c) (q := q) (by omega)
    rw [show q.toNat = 0 by omega, Int.pow_zero, Int.mul_one] at h1
    have h2 := le_mul_pow2 (-q).toNat (Wd_nn (q := q) hc.1)
    rw [← h1] at h2
    have h3 : c * 10 ^ 1080 < 10 ^ 16 * 10 ^ 1080 := Int.mul_lt_mul_of_pos_right (by rw [show (10 : Int) ^ 16 = 10000000000000000 by decide]; omega) (pow_pos10 1080)
    have h4 : (10 : Int) ^ 16 * 10 ^ 1080 ≤ 10 ^ 1389 := by
      rw [← Int.pow_add]
      exact pow10_le (by decide)
    generalize (10 : Int) ^ 1389 = z at *
    omega
theorem Wd_lt155 {c q : Int} (hc : 0 ≤ c ∧ c < 9007199254740992) (hq : -1074 ≤ q ∧ q ≤ 971) : Wd c q < 1000000000 ^ 155 := by
  have h1 := Wd_lt hc hq
  have h2 := pow10_le (a := 1389) (b := 9 * 155) (by decide)
  rw [powB]
  generalize (10 : Int) ^ 1389 = z at *
  generalize (10 : Int) ^ (9 * 155) = y at *
  omega
theorem five_1074 : (9007199254740992 : Int) * 5 ^ 1074 < 10 ^ 800 := by decide +kernel
theorem row_800 {c q : Int} (hc : 0 ≤ c ∧ c < 9007199254740992) (hq : -1074 ≤ q ∧ q ≤ 971) : c * 2 ^ q.toNat * 5 ^ (-q).toNat < 10 ^ 800 := by
  by_cases h : 0 ≤ q
  · rw [show (-q).toNat = 0 by omega, Int.pow_zero, Int.mul_one]
    have h1 := Wd_big hc ⟨h, hq.2⟩
    have h2 := pow10_le (a := 309) (b := 800) (by decide)
    exact Int.lt_of_lt_of_le h1 h2
  · rw [show q.toNat = 0 by omega, Int.pow_zero, Int.mul_one]
    have h1 : (5 : Int) ^ (-q).toNat ≤ 5 ^ 1074 := mono_pow (by decide) (by omega)
    exact Int.lt_trans (mul_lt_of hc.1 hc.2 h1 (Int.pow_pos (by decide))) five_1074
theorem two_1074 : (2 : Int) ^ 1074 ≤ 10 ^ 324 := by decide +kernel
theorem Wd_ge {c q : Int} (hc : 1 ≤ c) (hq : -1074 ≤ q) : 10 ^ 756 ≤ Wd c q := by
  have h1 := Wd_eq (c := c) (q := q) (by omega)
  have h2 := pow2_pos (-q).toNat
  have h3 : (2 : Int) ^ (-q).toNat ≤ 2 ^ 1074 := mono_pow (by decide) (by omega)
  have h4 : 10 ^ 756 * 2 ^ (-q).toNat ≤ Wd c q * 2 ^ (-q).toNat := by
    rw [← h1]
    have h5 : (10 : Int) ^ 756 * 2 ^ (-q).toNat ≤ 10 ^ 756 * 10 ^ 324 := Int.mul_le_mul_of_nonneg_left (Int.le_trans h3 two_1074) (Int.le_of_lt (pow_pos10 _))
    rw [← Int.pow_add] at h5
    have h6 : (10 : Int) ^ 1080 ≤ c * 10 ^ 1080 := by
      have := Int.mul_le_mul_of_nonneg_right hc (Int.le_of_lt (pow_pos10 1080))
      rwa [Int.one_mul] at this
    have h7 := le_mul_pow2 q.toNat (show 0 ≤ c * 10 ^ 1080 from Int.mul_nonneg (by omega) (Int.le_of_lt (pow_pos10 _)))
    exact Int.le_trans h5 (Int.le_trans h6 h7)
  exact Int.le_of_mul_le_mul_right h4 h2
theorem lead_lt {V : Int} {n : Nat} (h0 : 0 ≤ V) (h : V < 10 ^ n) (hn : 1080 < n) : lead V ≤ (n : Int) - 1081 := by
  rcases lead_is h0 with ⟨a, b⟩ | ⟨a, b, c⟩
  · omega
  · by_cases hq : lead V ≤ (n : Int) - 1081
    · exact hq
    · exfalso
      have := pow10_le (a := n) (b := (lead V + 1080).toNat) (by omega)
      omega
theorem lead_ge {V : Int} {n : Nat} (h : 10 ^ n ≤ V) : (n : Int) - 1080 ≤ lead V := by
  have hp := pow_pos10 n
  rcases lead_is (show 0 ≤ V by omega) with ⟨a, b⟩ | ⟨a, b, c⟩
  · omega
  · by_cases hq : (n : Int) - 1080 ≤ lead V
    · exact hq
    · exfalso
      have := pow10_le (a := (lead V + 1080).toNat + 1) (b := n) (by omega)
      omega
/-! what is written of V: kind, p, groups, point -/
noncomputable def fmt (kd : Int) (p : Nat) (gr pt V : Int) : List Int :=
  if kd = 0 then sciL (rnd V (lead V - (p : Int))) (lead (rnd V (lead V - (p : Int)))) p pt
  else if kd = 1 then fixL (rnd V (-(p : Int))) (lead (rnd V (-(p : Int)))) p gr pt
  else genL (rnd V (lead V + 1 - ((max p 1 : Nat) : Int))) (max p 1) gr
theorem rup_nn {V t : Int} (h : 0 ≤ V) : 0 ≤ rup V t := by
  unfold rup
  have := pow_pos10 (t + 1080).toNat
  split <;> omega
theorem rup_ge {V t : Int} : V ≤ rup V t := by
  unfold rup
  have := pow_pos10 (t + 1080).toNat
  split <;> omega
/-- where the leading place of one is t or more, it is that of the other -/
theorem lead_same {V t : Int} (h : 0 ≤ V) (hr : t ≤ lead (rup V t)) (hp : 0 < rup V t) : lead (rnd V t) = lead (rup V t) := by
  rcases lead_is (rup_nn (t := t) h) with ⟨a, b⟩ | ⟨a, b, c⟩
  · omega
  · exact lead_eq (rnd_nn h) (Or.inr ⟨a, (rup_lead hr a).mp ⟨b, c⟩⟩)
theorem dl_congr {U V fp : Int} : ∀ {n : Nat}, (∀ j : Int, fp - (n : Int) < j → dgt U j = dgt V j) → dl U fp n = dl V fp n
  | 0, _ => rfl
  | n + 1, h => by
    show dl U fp n ++ [48 + dgt U (fp - (n : Int))] = dl V fp n ++ [48 + dgt V (fp - (n : Int))]
    rw [dl_congr (n := n) (fun j hj => h j (by omega)), h (fp - (n : Int)) (by omega)]
theorem ipC_congr {U V gr : Int} (h : ∀ j : Int, 0 ≤ j → dgt U j = dgt V j) : ∀ n : Nat, ipC U gr n = ipC V gr n
  | 0 => by show [48 + dgt U 0] = [48 + dgt V 0]; rw [h 0 (by omega)]
  | n + 1 => by
    show [48 + dgt U ((n : Int) + 1)] ++ (_ ++ ipC U gr n) = [48 + dgt V ((n : Int) + 1)] ++ (_ ++ ipC V gr n)
    rw [ipC_congr h n, h ((n : Int) + 1) (by omega)]
theorem sci_same {V t : Int} {p : Nat} {pt : Int} (h : 0 ≤ V) (ht : t ≤ lead (rup V t) - (p : Int)) : sciL (rup V t) (lead (rup V t)) p pt = sciL (rnd V t) (lead (rnd V t)) p pt := by
  have hl : lead (rnd V t) = lead (rup V t) := by
    by_cases h0 : V = 0
    · rw [h0, rnd_0]
      have : rup 0 t = 0 := by unfold rup; rw [dgt_zero, if_neg (by decide)]
      rw [this]
    · exact lead_same h (by omega) (by have := rup_ge (V := V) (t := t); omega)
  unfold sciL behL
  rw [hl, rup_dgt (V := V) (t := t) (k := lead (rup V t)) (by omega), dl_congr (U := rup V t) (V := rnd V t) (fun j hj => rup_dgt (by omega))]
theorem max_lead {V t : Int} (h : 0 ≤ V) (ht : t ≤ 0) : max (lead (rup V t)) 0 = max (lead (rnd V t)) 0 := by
  by_cases h0 : rup V t = 0
  · have hV : V = 0 := by have := rup_ge (V := V) (t := t); omega
    rw [h0, hV, rnd_0]
  · have hu := rup_nn (t := t) h
    by_cases h1 : t ≤ lead (rup V t)
    · rw [lead_same h h1 (by omega)]
    · have h2 : lead (rup V t) < t := by omega
      have h3 : rnd V t = 0 := by
        by_cases htl : t < -1080
        · exfalso
          rcases lead_is hu with ⟨a, b⟩ | ⟨a, b, c⟩ <;> omega
        · obtain ⟨z, e1, e2, e3, e4, e5⟩ := rup_rnd (V := V) (t := t) (by omega)
          rcases lead_is hu with ⟨a, b⟩ | ⟨a, b, c⟩
          · omega
          · have h4 := pow10_le (a := (lead (rup V t) + 1080).toNat + 1) (b := (t + 1080).toNat) (by omega)
            have hz0 := e5 h
            have hT := pow_pos10 (t + 1080).toNat
            have : z = 0 := by
              by_cases hz : z = 0
              · exact hz
              · exfalso
                have := Int.mul_le_mul_of_nonneg_right (show 1 ≤ z by omega) (Int.le_of_lt hT)
                omega
            rw [e2, this, Int.zero_mul]
      rw [h3, lead_0]
      omega
theorem fix_same {V : Int} {p : Nat} {gr pt t : Int} (h : 0 ≤ V) (ht : t ≤ -(p : Int)) : fixL (rup V t) (lead (rup V t)) p gr pt = fixL (rnd V t) (lead (rnd V t)) p gr pt := by
  unfold fixL behL ipR
  rw [max_lead h (by omega), ipC_congr (U := rup V t) (V := rnd V t) (fun j hj => rup_dgt (by omega)), dl_congr (U := rup V t) (V := rnd V t) (fun j hj => rup_dgt (by omega))]
theorem fix_same' {V : Int} {p : Nat} {gr pt t : Int} (h : 0 ≤ V) (ht : t ≤ -(p : Int)) (hl : lead (rnd V t) = lead (rup V t)) : fixL (rup V t) (lead (rup V t)) p gr pt = fixL (rnd V t) (lead (rup V t)) p gr pt := by
  have := fix_same (gr := gr) (pt := pt) h ht
  rwa [hl] at this
theorem sci_same' {V t : Int} {p : Nat} {pt : Int} (h : 0 ≤ V) (ht : t ≤ lead (rup V t) - (p : Int)) (hl : lead (rnd V t) = lead (rup V t)) : sciL (rup V t) (lead (rup V t)) p pt = sciL (rnd V t) (lead (rup V t)) p pt := by
  unfold sciL behL
  rw [rup_dgt (V := V) (t := t) (k := lead (rup V t)) (by omega), dl_congr (U := rup V t) (V := rnd V t) (fun j hj => rup_dgt (by omega))]
theorem lead_mono {U V : Int} (h0 : 0 < U) (h : U ≤ V) : lead U ≤ lead V := by
  rcases lead_is (show 0 ≤ U by omega) with ⟨a, b⟩ | ⟨a, b, c⟩
  · omega
  · have := lead_ge (V := V) (n := (lead U + 1080).toNat) (Int.le_trans b h)
    omega
theorem rup_0 (t : Int) : rup 0 t = 0 := by unfold rup; rw [dgt_zero, if_neg (by decide)]
theorem short_lead {V : Int} {dn : Nat} (h : 0 ≤ V) (hd : 1 ≤ dn) : lead (rnd V (lead V + 1 - (dn : Int))) = lead (rup V (lead V + 1 - (dn : Int))) ∧ lead V + 1 - (dn : Int) ≤ lead (rup V (lead V + 1 - (dn : Int))) - ((dn : Int) - 1) := by
  by_cases h0 : V = 0
  · rw [h0, rnd_0, rup_0]
    exact ⟨rfl, by omega⟩
  · have h1 := lead_mono (show 0 < V by omega) (rup_ge (V := V) (t := lead V + 1 - (dn : Int)))
    exact ⟨lead_same h (by omega) (by have := rup_ge (V := V) (t := lead V + 1 - (dn : Int)); omega), by omega⟩
theorem ipC_len (V gr : Int) : ∀ k : Nat, (ipC V gr k).length ≤ k + 1 + k / 3
  | 0 => Nat.le_refl 1
  | k + 1 => by
    show ([48 + dgt V ((k : Int) + 1)] ++ ((if gr ≠ 0 ∧ (k + 1) % 3 = 0 then [44] else []) ++ ipC V gr k)).length ≤ _
    have h := ipC_len V gr k
    simp only [List.length_append, List.length_cons, List.length_nil]
    split
    · simp only [List.length_cons, List.length_nil]
      omega
    · simp only [List.length_nil]
      omega
theorem ipR_len (V gr : Int) {k : Int} (h : 0 ≤ k) : ((ipR V gr k).length : Int) ≤ k + 1 + k / 3 := by
  unfold ipR
  rw [if_neg (by omega)]
  have := ipC_len V gr k.toNat
  omega
theorem take_getD {bs : List Int} {j : Nat} (h : j < bs.length) : bs.take (j + 1) = bs.take j ++ [bs.getD j 0] := by
  rw [List.take_succ_eq_append_getElem h]
  simp [List.getD, h]
/-- the leading place behind rounding -/
theorem lead_rup {V t : Int} (h0 : 0 ≤ V) (hV : V < 10 ^ 1388 * 2) (hr : t ≤ lead V ∨ t ≤ 0) : lead (rup V t) ≤ 308 := by
  have hu := rup_nn (t := t) h0
  have hT : rup V t < 10 ^ 1389 := by
    have e : (10 : Int) ^ 1389 = 10 ^ 1388 * 10 := by rw [← Int.pow_succ]
    have hp := pow_pos10 1388
    have hb : 10 ^ (t + 1080).toNat ≤ max V (10 ^ 1080) := by
      rcases hr with hr | hr
      · by_cases hz : V = 0
        · have : lead V = 0 := by rw [hz, lead_0]
          have := pow10_le (a := (t + 1080).toNat) (b := 1080) (by omega)
          omega
        · rcases lead_is h0 with ⟨a, b⟩ | ⟨a, b, c⟩
          · omega
          · have := pow10_le (a := (t + 1080).toNat) (b := (lead V + 1080).toNat) (by omega)
            omega
      · have := pow10_le (a := (t + 1080).toNat) (b := 1080) (by omega)
        omega
    have hq := pow10_le (a := 1080) (b := 1388) (by decide)
    unfold rup
    rw [e]
    generalize (10 : Int) ^ 1388 = z at *
    generalize (10 : Int) ^ 1080 = y at *
    generalize (10 : Int) ^ (t + 1080).toNat = w at *
    split <;> omega
  have := lead_lt hu hT (by decide)
  omega
theorem pow2_1024b : (2 : Int) ^ 53 * 2 ^ 971 < 10 ^ 308 * 2 := by decide +kernel
theorem Wd_lt2 {c q : Int} (hc : 0 ≤ c ∧ c < 9007199254740992) (hq : -1074 ≤ q ∧ q ≤ 971) : Wd c q < 10 ^ 1388 * 2 := by
  by_cases h : 0 ≤ q
  · have h1 : (2 : Int) ^ q.toNat ≤ 2 ^ 971 := mono_pow (by decide) (by omega)
    have h2 := mul_lt_of hc.1 hc.2 h1 (pow2_pos 971)
    have h3 := pow2_1024b
    rw [show (2 : Int) ^ 53 = 9007199254740992 by decide] at h3
    have h4 := Int.mul_lt_mul_of_pos_right (Int.lt_trans h2 h3) (pow_pos10 1080)
    rw [Wd_pos h, Int.mul_assoc, Int.mul_comm (10 ^ 1080), ← Int.mul_assoc, show (1388 : Nat) = 308 + 1080 by decide, Int.pow_add]
    generalize (10 : Int) ^ 1080 = a at *
    generalize (10 : Int) ^ 308 = b at *
    have e : b * a * 2 = b * 2 * a := by grind
    rw [e]
    exact h4
  · have h1 := Wd_eq (c := c) (q := q) (by omega)
    rw [show q.toNat = 0 by omega, Int.pow_zero, Int.mul_one] at h1
    have h2 := le_mul_pow2 (-q).toNat (Wd_nn (q := q) hc.1)
    rw [← h1] at h2
    have h3 : c * 10 ^ 1080 < 10 ^ 16 * 10 ^ 1080 := Int.mul_lt_mul_of_pos_right (by rw [show (10 : Int) ^ 16 = 10000000000000000 by decide]; omega) (pow_pos10 1080)
    have h4 : (10 : Int) ^ 16 * 10 ^ 1080 ≤ 10 ^ 1388 := by
      rw [← Int.pow_add]
      exact pow10_le (by decide)
    have hp := pow_pos10 1388
    generalize (10 : Int) ^ 1388 = z at *
    omega
theorem zSa_and {P Q : State → Heap → Prop} (h1 : zSa P) (h2 : zSa Q) : zSa (fun U H => P U H ∧ Q U H) := fun u U H hv h => ⟨h1 u U H hv h.1, h2 u U H hv h.2⟩
theorem zSa_SStr {A : Nat → Prop} {sk sv : Nat} {bs : List Int} : zSa (SStr A sk sv bs) := fun _ _ _ hv h => SStr.moved hv h
