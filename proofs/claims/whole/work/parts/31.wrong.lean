/-! odds -/
def gcdI (a b : Int) : Int := ((Nat.gcd a.toNat b.toNat : Nat) : Int)
theorem gcdI_step {x y : Int} (hx : 0 ≤ x) (hy : 0 < y) : gcdI y (x.tmod y) = gcdI x y ∧ 0 ≤ x.tmod y ∧ x.tmod y < y := by
  rw [Int.tmod_eq_emod_of_nonneg hx]
  have h1 := Int.emod_nonneg x (show y ≠ 0 by omega)
  have h2 := Int.emod_lt_of_pos x hy
  refine ⟨?_, h1, h2⟩
  obtain ⟨n, rfl⟩ : ∃ n : Nat, x = (n : Int) := ⟨x.toNat, by omega⟩
  obtain ⟨k, rfl⟩ : ∃ n : Nat, y = (n : Int) := ⟨y.toNat, by omega⟩
  unfold gcdI
  rw [show ((n : Int) % (k : Int)) = ((n % k : Nat) : Int) by simp]
  simp only [Int.toNat_natCast]
  rw [Nat.gcd_comm n k, Nat.gcd_rec k n, Nat.gcd_comm]
theorem gcdI_0 {x : Int} (hx : 0 ≤ x) : gcdI x 0 = x := by
  unfold gcdI
  rw [show (0 : Int).toNat = 0 from rfl, Nat.gcd_zero_right]; omega
theorem gcdI_b {a b : Int} (hb : 0 < b) : 1 ≤ gcdI a b ∧ gcdI a b ≤ b := by
  unfold gcdI
  have h1 : 0 < Nat.gcd a.toNat b.toNat := Nat.gcd_pos_of_pos_right _ (by omega)
  have h2 : Nat.gcd a.toNat b.toNat ≤ b.toNat := Nat.gcd_le_right _ (by omega)
  omega
theorem half_mod {x y : Int} (hy : 0 < y) (h : y < x) : 2 * (y * x.tmod y) ≤ x * y := by
  have h1 := gcdI_step (x := x) (y := y) (by omega) hy
  have h2 : x.tmod y ≤ x - y := by
    rw [Int.tmod_eq_emod_of_nonneg (by omega)]
    have e := Int.mul_ediv_add_emod x y
    have hq : 1 ≤ x / y := (Int.le_ediv_iff_mul_le hy).mpr (by omega)
    have : y * 1 ≤ y * (x / y) := Int.mul_le_mul_of_nonneg_left hq (by omega)
    omega
  have h3 : 2 * x.tmod y ≤ x := by omega
  have h4 : y * (2 * x.tmod y) ≤ y * x := Int.mul_le_mul_of_nonneg_left h3 (by omega)
  have e1 : y * (2 * x.tmod y) = 2 * (y * x.tmod y) := by rw [Int.mul_left_comm]
  have e2 : y * x = x * y := Int.mul_comm _ _
  omega
theorem pot_step {x y : Int} {k : Nat} (hy : 0 < y) (h : y < x) (hp : x * y * 2 ^ k ≤ 2 ^ 92) : y * x.tmod y * 2 ^ (k + 1) ≤ 2 ^ 92 := by
  have h1 := half_mod hy h
  have h2 : (0 : Int) < 2 ^ k := Int.pow_pos (by omega)
  have h3 : 2 * (y * x.tmod y) * 2 ^ k ≤ x * y * 2 ^ k := Int.mul_le_mul_of_nonneg_right h1 (by omega)
  have e : y * x.tmod y * 2 ^ (k + 1) = 2 * (y * x.tmod y) * 2 ^ k := by
    rw [Int.pow_succ, Int.mul_comm (2 ^ k) 2, ← Int.mul_assoc, Int.mul_comm (y * x.tmod y) 2]
  omega
theorem pot_end {x y : Int} (hy : 0 < y) (h : y < x) (hp : x * y * 2 ^ 99 ≤ 2 ^ 92) : False := by
  have h1 : 1 * 1 ≤ x * y := Int.mul_le_mul (by omega) (by omega) (by omega) (by omega)
  have h2 : 1 * 2 ^ 99 ≤ x * y * (2 : Int) ^ 99 := Int.mul_le_mul_of_nonneg_right (by omega) (by decide)
  have h3 : (1 : Int) * 2 ^ 99 ≤ 2 ^ 92 := Int.le_trans h2 hp
  exact absurd h3 (by decide)
theorem pow_c (a n : Nat) : ((a : Int) ^ n) = ((a ^ n : Nat) : Int) := by simp
theorem pow_b {e q : Int} {n : Int} (he : 1 ≤ e ∧ e ≤ 201) (hq : 0 ≤ q ∧ q ≤ e) (hn : 0 ≤ n ∧ n ≤ 6) : (1 ≤ e ^ n.toNat ∧ e ^ n.toNat ≤ 65944160601201) ∧ (0 ≤ (e - q) ^ n.toNat ∧ (e - q) ^ n.toNat ≤ e ^ n.toNat) := by
  obtain ⟨a, rfl⟩ : ∃ a : Nat, e = (a : Int) := ⟨e.toNat, by omega⟩
  obtain ⟨b, hb⟩ : ∃ b : Nat, (a : Int) - q = (b : Int) := ⟨((a : Int) - q).toNat, by omega⟩
  rw [hb, pow_c, pow_c]
  have h1 : 1 ≤ a ^ n.toNat := Nat.one_le_pow _ _ (by omega)
  have h2 : a ^ n.toNat ≤ 201 ^ n.toNat := Nat.pow_le_pow_left (by omega) _
  have h3 : 201 ^ n.toNat ≤ 201 ^ 6 := Nat.pow_le_pow_right (by omega) (by omega)
  have h4 : b ^ n.toNat ≤ a ^ n.toNat := Nat.pow_le_pow_left (by omega) _
  have e6 : (201 : Nat) ^ 6 = 65944160601201 := by decide
  omega
theorem prod_b {x y : Int} (hx : 0 ≤ x ∧ x ≤ 65944160601201) (hy : 0 ≤ y ∧ y ≤ 65944160601201) : x * y * 2 ^ 0 ≤ 2 ^ 92 := by
  have h1 : x * y ≤ 65944160601201 * 65944160601201 := Int.mul_le_mul hx.2 hy.2 hy.1 (by omega)
  have h2 : (65944160601201 : Int) * 65944160601201 ≤ 2 ^ 92 := by decide
  rw [Int.pow_zero, Int.mul_one]; exact Int.le_trans h1 h2
def kQk (ear a b : Int) : Int := max 0 (min b (ear - 1) - a + 1)
def kLw (a b n : Int) : Int := (b - a + 1) ^ n.toNat
def kUp (ear a b n : Int) : Int := kLw a b n - (b - a + 1 - kQk ear a b) ^ n.toNat
abbrev okW (a b n pt : Int) : Prop := (0 ≤ a ∧ a ≤ b) ∧ (0 ≤ b ∧ b ≤ 200) ∧ (1 ≤ n ∧ n ≤ 6) ∧ (0 ≤ pt ∧ pt ≤ 1)
def kWr (ear a b n pt : Int) : Int := if ¬ okW a b n pt then -2 else (if pt = 0 then kUp ear a b n else kLw a b n).tdiv (gcdI (kUp ear a b n) (kLw a b n))
theorem kW_b {ear a b n : Int} (h : 0 ≤ a ∧ a ≤ b) (hb : 0 ≤ b ∧ b ≤ 200) (hn : 1 ≤ n ∧ n ≤ 6) : (1 ≤ kLw a b n ∧ kLw a b n ≤ 65944160601201) ∧ (0 ≤ kUp ear a b n ∧ kUp ear a b n ≤ kLw a b n) := by
  have h1 := pow_b (e := b - a + 1) (q := kQk ear a b) (n := n) (by omega) (by unfold kQk; omega) (by omega)
  unfold kUp kLw; omega
