/-! what the public calls answer -/
def kOf (T : Mem) (r what : Int) : Int := if what = 0 then mN (kHr T 0 r) else if what = 1 then mN (kHr T 1 r) else if what = 2 then mN (kJn T r) else if what = 3 then mN (kCr T r.toNat 0) else if what = 4 then mN (kLn T r) else if what = 5 then (if kHid T r = true then 1 else 0) else if what = 6 then kHe T r else if what = 7 then kEa T r else -2
def mvK (x : Int ⊕ Int) (k : Int → Int) : Int := match x with
  | .inl r => r
  | .inr f => k f
def mvB (T : Mem) (i a : Int) : Nat → Int → Int → Int ⊕ Int
  | 0, _, f => .inr f
  | n + 1, b, f => if kMv T a b = true then (if f = i then .inl (10 * a + b) else mvB T i a n (b + 1) (f + 1)) else mvB T i a n (b + 1) f
def mvA (T : Mem) (i : Int) : Nat → Int → Int → Int
  | 0, _, f => if i = -1 then f else -6
  | n + 1, a, f => mvK (mvB T i a (T 1 2 - (a + 1)).toNat (a + 1) f) (mvA T i n (a + 1))
def kMoved (T : Mem) (i : Int) : Int := mvA T i (T 1 2).toNat 0 0
def kStr (T : Mem) (r row : Int) : Int := max 0 (kLO T r.toNat 1 row (T 8 0 * row) - kFO T r.toNat 1 row (T 8 0 * row) + 1)
def canS (len col v : Int) : Bool := decide (len / v ≤ col ∧ col ≤ -((-len) / v))
def spL (len col : Int) : Nat → Int
  | 0 => -6
  | k + 1 => if canS len col (k + 1) = true then k + 1 else spL len col k
def spF (len col : Int) : Nat → Int
  | 0 => -6
  | k + 1 => if 0 ≤ spF len col k then spF len col k else if canS len col (k + 1) = true then k + 1 else -6
theorem spF_stay {len col : Int} {v : Int} (hv : 0 ≤ v) : ∀ (d m : Nat), spF len col m = v → spF len col (m + d) = v
  | 0, _, h => h
  | d + 1, m, h => by
    have ih := spF_stay hv d m h
    show spF len col ((m + d) + 1) = v
    rw [spF, ih, if_pos hv]
theorem spF_b {len col : Int} : ∀ m : Nat, -6 ≤ spF len col m ∧ spF len col m ≤ m ∧ (spF len col m < 0 → spF len col m = -6)
  | 0 => by unfold spF; omega
  | m + 1 => by
    have := spF_b (len := len) (col := col) m
    unfold spF; split
    · omega
    · split <;> omega
theorem spL_b {len col : Int} : ∀ m : Nat, -6 ≤ spL len col m ∧ spL len col m ≤ m
  | 0 => by unfold spL; omega
  | m + 1 => by
    have := spL_b (len := len) (col := col) m
    unfold spL; split <;> omega
theorem canS_iff {len col v : Int} (hl : 1 ≤ len) (hv : 1 ≤ v) : canS len col v = true ↔ (col = len.tdiv v ∨ col = (len + v - 1).tdiv v) := by
  rw [ceil_t hv (by omega), Int.tdiv_eq_ediv_of_nonneg (by omega)]
  unfold canS
  rw [decide_eq_true_eq]
  have h1 := Int.ediv_mul_le len (show v ≠ 0 by omega)
  have h2 := Int.lt_ediv_add_one_mul_self len (show 0 < v by omega)
  have h3 := Int.ediv_mul_le (-len) (show v ≠ 0 by omega)
  have h4 := Int.lt_ediv_add_one_mul_self (-len) (show 0 < v by omega)
  generalize len / v = a at *
  generalize (-len) / v = b at *
  have e1 : (a + 1) * v = a * v + v := by rw [Int.add_mul, Int.one_mul]
  have e2 : (b + 1) * v = b * v + v := by rw [Int.add_mul, Int.one_mul]
  have e3 : (a + b) * v = a * v + b * v := Int.add_mul _ _ _
  have h5 : a + b ≤ 0 := by
    rcases Int.lt_or_le 0 (a + b) with q | q
    · exfalso
      have : 1 * v ≤ (a + b) * v := Int.mul_le_mul_of_nonneg_right (by omega) (by omega)
      omega
    · exact q
  have h6 : -1 ≤ a + b := by
    rcases Int.lt_or_le (a + b) (-1) with q | q
    · exfalso
      have : (a + b) * v ≤ (-2) * v := Int.mul_le_mul_of_nonneg_right (by omega) (by omega)
      omega
    · exact q
  omega
def kSpd (len col en : Int) : Int := if ¬ ((1 ≤ len ∧ len ≤ 19) ∧ (0 ≤ col ∧ col ≤ 30) ∧ (0 ≤ en ∧ en ≤ 1)) then -2 else if en = 0 then spF len col 20 else spL len col 20
theorem sgn_mN {x y : Int} (hx : x < 10000000) (hy : y < 10000000) : sgn (mN x - mN y) = sgn (x - y) := by unfold mN; rw [if_neg (by omega), if_neg (by omega)]
theorem tdiv_b {a v : Int} (hv : 1 ≤ v) (ha : 0 ≤ a) : 0 ≤ a.tdiv v ∧ a.tdiv v ≤ a := by
  rw [Int.tdiv_eq_ediv_of_nonneg ha]
  exact ⟨Int.ediv_nonneg ha (by omega), Int.ediv_le_self _ ha⟩
theorem spL_of {len col : Int} : ∀ {m : Nat}, spF len col m = -6 → spL len col m = -6
  | 0, _ => rfl
  | m + 1, h => by
    unfold spF at h
    have hb := spF_b (len := len) (col := col) m
    split at h
    · omega
    · split at h
      · omega
      · rename_i h1 h2
        unfold spL; rw [if_neg h2]; exact spL_of (by omega)
