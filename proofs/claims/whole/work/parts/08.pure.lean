/-! pure facts -/
def sgn (v : Int) : Int := if v < 0 then -1 else if v = 0 then 0 else 1
def mN (x : Int) : Int := if x ≥ 10000000 then -6 else x
theorem mul_rng {a b x y : Int} (ha : -x ≤ a ∧ a ≤ x) (hb : -y ≤ b ∧ b ≤ y) : -(x * y) ≤ a * b ∧ a * b ≤ x * y := by
  have hx : 0 ≤ x := by omega
  have hy : 0 ≤ y := by omega
  have h1 : (a * b).natAbs ≤ (x * y).natAbs := by
    rw [Int.natAbs_mul, Int.natAbs_mul]
    exact Nat.mul_le_mul (by omega) (by omega)
  have h2 : 0 ≤ x * y := Int.mul_nonneg hx hy
  omega
theorem fdiv_t (a : Int) {b : Int} (hb : 1 ≤ b) : (0 ≤ a → a.tdiv b = a / b) ∧ (a < 0 → a.tdiv b * b = a → a.tdiv b = a / b) ∧ (a < 0 → a.tdiv b * b ≠ a → a.tdiv b = a / b + 1) ∧ -(if a < 0 then -a else a) ≤ a.tdiv b ∧ a.tdiv b ≤ (if a < 0 then -a else a) ∧ -(if a < 0 then -a else a) ≤ a.tdiv b * b ∧ a.tdiv b * b ≤ (if a < 0 then -a else a) ∧ (a < 0 → a.tdiv b * b ≤ 0) := by
  have e1 := Int.mul_tdiv_add_tmod a b
  have e2 := Int.mul_ediv_add_emod a b
  have h1 := Int.emod_nonneg a (show b ≠ 0 by omega)
  have h2 := Int.emod_lt_of_pos a (show 0 < b by omega)
  have ec : b * a.tdiv b = a.tdiv b * b := Int.mul_comm _ _
  have ec2 : b * (a / b) = (a / b) * b := Int.mul_comm _ _
  have hnn : ∀ z : Int, 0 ≤ z → 0 ≤ z / b ∧ z / b * b ≤ z ∧ z / b ≤ z ∧ 0 ≤ z / b * b := fun z hz => by
    have := Int.ediv_nonneg hz (show 0 ≤ b by omega)
    have h3 := Int.ediv_mul_le z (show b ≠ 0 by omega)
    refine ⟨this, h3, ?_⟩
    exact ⟨Int.ediv_le_self b hz, Int.mul_nonneg this (by omega)⟩
  by_cases h0 : 0 ≤ a
  · have e3 : a.tdiv b = a / b := Int.tdiv_eq_ediv_of_nonneg h0
    have := hnn a h0
    rw [e3, if_neg (by omega)]
    exact ⟨fun _ => rfl, fun h => by omega, fun h => by omega, by omega, by omega, by omega, by omega, fun h => by omega⟩
  · have e4 : a.tdiv b = -((-a) / b) := by
      have := Int.neg_tdiv (-a) b
      rw [Int.neg_neg] at this
      rw [this, Int.tdiv_eq_ediv_of_nonneg (by omega)]
    have h5 := hnn (-a) (by omega)
    have e5 : (-((-a) / b)) * b = -((-a) / b * b) := Int.neg_mul _ _
    have e6 := Int.mul_ediv_add_emod (-a) b
    have h6 := Int.emod_nonneg (-a) (show b ≠ 0 by omega)
    have h7 := Int.emod_lt_of_pos (-a) (show 0 < b by omega)
    have ec3 : b * ((-a) / b) = (-a) / b * b := Int.mul_comm _ _
    rw [e4, e5, if_pos (by omega)]
    refine ⟨fun h => by omega, fun _ h => ?_, fun _ h => ?_, by omega, by omega, by omega, by omega, fun _ => by omega⟩
    · have : a = -((-a) / b) * b := by rw [e5]; omega
      have e7 : a / b = -((-a) / b) := by
        conv => lhs; rw [this]
        exact Int.mul_ediv_cancel _ (by omega)
      exact e7.symm
    · have e8 : a / b = -((-a) / b) - 1 := by
        have hr : a = b * (-((-a) / b) - 1) + (b - (-a) % b) := by
          have : b * (-((-a) / b) - 1) = -((-a) / b * b) - b := by rw [Int.mul_sub, Int.mul_one, Int.mul_comm b, e5]
          omega
        have h8 : 0 < (-a) % b := by
          rcases Int.lt_or_eq_of_le h6 with q | q
          · exact q
          · exfalso; apply h; omega
        conv => lhs; rw [hr]
        rw [Int.add_comm, Int.add_mul_ediv_left _ _ (by omega), Int.ediv_eq_zero_of_lt (by omega) (by omega)]
        omega
      omega
theorem xor_neg {a b : Int} (ha : zR a) (hb : zR b) (h : 1 ≤ b) : zI a ^^^ zI b < 0 ↔ a < 0 := by
  have e : ∀ x : Int32, x < 0 ↔ x.toBitVec.msb = true := fun x => by
    rw [Int32.lt_iff_toInt_lt]
    show x.toBitVec.toInt < (0 : Int32).toInt ↔ _
    rw [BitVec.msb_eq_toInt]; simp
  have h1 := e (zI a); have h2 := e (zI b)
  rw [zI_0, zI_lt ha zR_0] at h1
  rw [zI_0, zI_lt hb zR_0] at h2
  rw [e, Int32.toBitVec_xor, BitVec.msb_xor, h1]
  have h3 : (zI b).toBitVec.msb = false := by
    cases hh : (zI b).toBitVec.msb
    · rfl
    · exact absurd (h2.mpr hh) (by omega)
  rw [h3]; simp
