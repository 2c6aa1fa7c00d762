/-! the leading place -/
theorem lead_ex {V : Int} (h : 0 ≤ V) : ∃ r, IsLead V r := by
  by_cases h0 : V = 0
  · exact ⟨0, Or.inl ⟨h0, rfl⟩⟩
  · have key : ∀ n : Nat, V < 10 ^ n → ∃ k : Nat, 10 ^ k ≤ V ∧ V < 10 ^ (k + 1) := by
      intro n
      induction n with
      | zero => intro h1; rw [Int.pow_zero] at h1; omega
      | succ n ih =>
        intro h1
        by_cases h2 : V < 10 ^ n
        · exact ih h2
        · exact ⟨n, by omega, h1⟩
    have h3 : ∀ n : Nat, (n : Int) < 10 ^ n := by
      intro n
      induction n with
      | zero => decide
      | succ n ih => rw [Int.pow_succ]; omega
    obtain ⟨k, h4, h5⟩ := key V.toNat (by have := h3 V.toNat; omega)
    exact ⟨(k : Int) - 1080, Or.inr ⟨by omega, by rw [show ((k : Int) - 1080 + 1080).toNat = k by omega]; exact h4, by rw [show ((k : Int) - 1080 + 1080).toNat = k by omega]; exact h5⟩⟩
noncomputable def lead (V : Int) : Int := Classical.epsilon (fun r => IsLead V r)
theorem lead_is {V : Int} (h : 0 ≤ V) : IsLead V (lead V) := Classical.epsilon_spec (lead_ex h)
theorem lead_eq {V r : Int} (h : 0 ≤ V) (hr : IsLead V r) : lead V = r := IsLead.uniq (lead_is h) hr
/-! rounding at a place: all below is 0 -/
def rnd (V t : Int) : Int := if t < -1080 then V else V / 10 ^ (t + 1080).toNat * 10 ^ (t + 1080).toNat + (if 5 ≤ dgt V (t - 1) then 10 ^ (t + 1080).toNat else 0)
theorem rup_rnd {V t : Int} (ht : -1080 ≤ t) : ∃ z, rup V t / 10 ^ (t + 1080).toNat = z ∧ rnd V t = z * 10 ^ (t + 1080).toNat ∧ z * 10 ^ (t + 1080).toNat ≤ rup V t ∧ rup V t < z * 10 ^ (t + 1080).toNat + 10 ^ (t + 1080).toNat ∧ (0 ≤ V → 0 ≤ z) := by
  unfold rup rnd
  rw [if_neg (show ¬ t < -1080 by omega)]
  have hp := pow_pos10 (t + 1080).toNat
  generalize (10 : Int) ^ (t + 1080).toNat = T at hp ⊢
  have e1 := Int.emod_add_mul_ediv V T
  have e2 := Int.emod_nonneg V (show T ≠ 0 by omega)
  have e3 := Int.emod_lt_of_pos V hp
  by_cases h : 5 ≤ dgt V (t - 1)
  · rw [if_pos h, if_pos h]
    refine ⟨V / T + 1, ?_, ?_, ?_, ?_, fun h0 => ?_⟩
    · have := Int.add_mul_ediv_right V 1 (show T ≠ 0 by omega)
      rwa [Int.one_mul] at this
    · rw [Int.add_mul, Int.one_mul]
    · rw [Int.add_mul, Int.one_mul, Int.mul_comm (V / T)]; omega
    · rw [Int.add_mul, Int.one_mul, Int.mul_comm (V / T)]; omega
    · have := Int.ediv_nonneg h0 (Int.le_of_lt hp)
      omega
  · rw [if_neg h, if_neg h]
    refine ⟨V / T, rfl, ?_, ?_, ?_, fun h0 => Int.ediv_nonneg h0 (Int.le_of_lt hp)⟩
    · omega
    · rw [Int.mul_comm (V / T)]; omega
    · rw [Int.mul_comm (V / T)]; omega
theorem rup_low {V t : Int} (ht : t < -1080) : rup V t = V ∧ rnd V t = V := by
  unfold rup rnd
  rw [if_pos ht, if_neg]
  · exact ⟨rfl, rfl⟩
  · unfold dgt
    rw [if_pos (by omega)]
    decide
/-- from the place on, both have the same digits -/
theorem rup_dgt {V t k : Int} (h : t ≤ k) : dgt (rup V t) k = dgt (rnd V t) k := by
  by_cases ht : t < -1080
  · rw [(rup_low ht).1, (rup_low ht).2]
  · obtain ⟨z, h1, h2, -⟩ := rup_rnd (V := V) (t := t) (by omega)
    unfold dgt
    rw [if_neg (by omega), if_neg (by omega), show (k + 1080).toNat = (t + 1080).toNat + (k - t).toNat by omega, Int.pow_add]
    have hp := pow_pos10 (t + 1080).toNat
    rw [← Int.ediv_ediv_of_nonneg (Int.le_of_lt hp), ← Int.ediv_ediv_of_nonneg (Int.le_of_lt hp), h1, h2, Int.mul_ediv_cancel _ (by omega)]
theorem mul_lt_iff {a b T : Int} (hT : 0 < T) : a * T < b * T ↔ a < b := ⟨fun h => Int.lt_of_mul_lt_mul_right h (Int.le_of_lt hT), fun h => Int.mul_lt_mul_of_pos_right h hT⟩
theorem mul_le_iff {a b T : Int} (hT : 0 < T) : a * T ≤ b * T ↔ a ≤ b := ⟨fun h => Int.le_of_mul_le_mul_right h hT, fun h => Int.mul_le_mul_of_nonneg_right h (Int.le_of_lt hT)⟩
/-- a place from t on is the leading one of both or of neither -/
theorem rup_lead {V t r : Int} (h : t ≤ r) (hr : -1080 ≤ r) : (10 ^ (r + 1080).toNat ≤ rup V t ∧ rup V t < 10 ^ ((r + 1080).toNat + 1)) ↔ (10 ^ (r + 1080).toNat ≤ rnd V t ∧ rnd V t < 10 ^ ((r + 1080).toNat + 1)) := by
  by_cases ht : t < -1080
  · rw [(rup_low ht).1, (rup_low ht).2]
  · obtain ⟨z, h1, h2, h3, h4, -⟩ := rup_rnd (V := V) (t := t) (by omega)
    have hp := pow_pos10 (t + 1080).toNat
    rw [h2, show (r + 1080).toNat + 1 = (r - t).toNat + 1 + (t + 1080).toNat by omega, show (r + 1080).toNat = (r - t).toNat + (t + 1080).toNat by omega, Int.pow_add, Int.pow_add 10 ((r - t).toNat + 1)]
    generalize (10 : Int) ^ (t + 1080).toNat = T at *
    generalize (10 : Int) ^ (r - t).toNat = a at *
    generalize (10 : Int) ^ ((r - t).toNat + 1) = b at *
    rw [mul_le_iff hp, mul_lt_iff hp]
    constructor
    · intro ⟨q1, q2⟩
      refine ⟨?_, ?_⟩
      · have h5 : a * T < (z + 1) * T := by rw [Int.add_mul, Int.one_mul]; omega
        have := (mul_lt_iff hp).mp h5
        omega
      · have h5 : z * T < b * T := by omega
        exact (mul_lt_iff hp).mp h5
    · intro ⟨q1, q2⟩
      have h5 := (mul_le_iff hp).mpr q1
      have h6 : (z + 1) * T ≤ b * T := (mul_le_iff hp).mpr (by omega)
      rw [Int.add_mul, Int.one_mul] at h6
      omega
