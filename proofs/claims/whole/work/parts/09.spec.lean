/-! what the class's calls answer, over the core rows of the memory -/
def cr (a : Nat) : Bool := decide (a < 44) && !(a == 2) && !(a == 9) && !(a == 10) && !(a == 18) && !(a == 25)
/-- the class's rows that last: all but its scratch -/
def co (σ : Mem) : Mem := fun a => if cr a then σ a else fun _ => 0
theorem co_at {σ : Mem} {a : Nat} (h : cr a = true) : co σ a = σ a := by unfold co; rw [h]; rfl
theorem cr_run {j : Nat} (hj : j < 6) : cr (26 + j) = true ∧ cr (32 + j) = true ∧ cr (38 + j) = true := by
  rcases j with _ | _ | _ | _ | _ | _ | j <;> first | (exact ⟨rfl, rfl, rfl⟩) | omega
theorem co_run {σ : Mem} {j : Nat} (hj : j < 6) : co σ (26 + j) = σ (26 + j) := co_at (cr_run hj).1
theorem co_frm {σ : Mem} {j : Nat} (hj : j < 6) : co σ (32 + j) = σ (32 + j) := co_at (cr_run hj).2.1
theorem co_to {σ : Mem} {j : Nat} (hj : j < 6) : co σ (38 + j) = σ (38 + j) := co_at (cr_run hj).2.2
theorem co_um {σ : Mem} {i j : Nat} {v : Int} (h : cr i = false) : co (um σ i j v) = co σ := by
  funext a
  unfold co
  by_cases hc : cr a = true
  · rw [if_pos hc, if_pos hc, um_ne (fun e => by rw [e, h] at hc; cases hc)]
  · rw [if_neg hc, if_neg hc]
/-- the runners' bounds -/
def TI (σ : Mem) : Prop := (0 ≤ σ 1 2 ∧ σ 1 2 ≤ 6) ∧ ((-3 ≤ σ 8 0 ∧ σ 8 0 ≤ 3) ∧ (0 ≤ σ 8 1 ∧ σ 8 1 ≤ 9) ∧ (0 ≤ σ 8 2 ∧ σ 8 2 ≤ 200) ∧ (0 ≤ σ 8 3 ∧ σ 8 3 ≤ 1)) ∧
  (∀ j, j < 6 → (-3000 ≤ σ (26 + j) 2 ∧ σ (26 + j) 2 ≤ 0) ∧ (1 ≤ σ (26 + j) 3 ∧ σ (26 + j) 3 ≤ 20) ∧ ((σ (26 + j) 4 = -6 ∨ 0 ≤ σ (26 + j) 4) ∧ σ (26 + j) 4 ≤ 299)) ∧
  (∀ j t, j < 6 → t < 12 → (-9 ≤ σ (32 + j) t ∧ σ (32 + j) t ≤ 9) ∧ (-9 ≤ σ (38 + j) t ∧ σ (38 + j) t ≤ 9))
theorem TI_co {σ τ : Mem} (h : co τ = co σ) (hI : TI σ) : TI τ := by
  have e : ∀ a, cr a = true → τ a = σ a := fun a ha => (co_at ha).symm.trans ((congrFun h a).trans (co_at ha))
  unfold TI
  rw [e 1 rfl, e 8 rfl]
  refine ⟨hI.1, hI.2.1, fun j hj => ?_, fun j t hj ht => ?_⟩
  · rw [e _ (cr_run hj).1]; exact hI.2.2.1 j hj
  · rw [e _ (cr_run hj).2.1, e _ (cr_run hj).2.2]; exact hI.2.2.2 j t hj ht
theorem co_co (σ : Mem) : co (co σ) = co σ := by
  funext a; unfold co; split <;> rfl
theorem TI_cc {σ : Mem} (h : TI σ) : TI (co σ) := TI_co (co_co σ) h
def kCov (T : Mem) (j : Nat) (what row col place : Int) : Bool := decide (T (32 + j) (what * 6 + row).toNat ≤ place - (T (26 + j) 2 + T (26 + j) 3 * col) ∧ place - (T (26 + j) 2 + T (26 + j) 3 * col) ≤ T (38 + j) (what * 6 + row).toNat)
def kHasF (T : Mem) (j : Nat) : Nat → Bool
  | 0 => false
  | r + 1 => kHasF T j r || decide (T (32 + j) r ≤ T (38 + j) r)
def kHas (T : Mem) (j : Nat) : Bool := kHasF T j 6
def kFO (T : Mem) (j : Nat) (what row place : Int) : Int := max 0 (-((-(place - T (38 + j) (what * 6 + row).toNat - T (26 + j) 2)) / T (26 + j) 3))
def kLO (T : Mem) (j : Nat) (what row place : Int) : Int := min 299 ((place - T (32 + j) (what * 6 + row).toNat - T (26 + j) 2) / T (26 + j) 3)
def kCrF (T : Mem) (j : Nat) (lean : Int) : Nat → Int
  | 0 => 10000000
  | r + 1 => if T (32 + j) r ≤ T (38 + j) r then min (kCrF T j lean r) (kFO T j 0 r (lean * r)) else kCrF T j lean r
def kCr (T : Mem) (j : Nat) (lean : Int) : Int := kCrF T j lean 6
def kLane (T : Mem) (side k : Int) : Int := if side = 0 then k else T 1 2 - 1 - k
def kScan (T : Mem) (side col row place : Int) : Nat → Int → Int
  | 0, _ => 0
  | f + 1, k => if kCov T (kLane T side k).toNat 0 row col place = true then 10 * kLane T side k + 1 else if kCov T (kLane T side k).toNat 1 row col place = true then 10 * kLane T side k + 1 + 1 else kScan T side col row place f (k + 1)
def kFilm (T : Mem) (side col row : Int) : Int := kScan T side col row (T 8 0 * row) (T 1 2).toNat 0
def kFSF (T : Mem) (side lane row : Int) : Nat → Int → Int
  | 0, _ => 10000000
  | f + 1, c => if kFilm T side c row = 10 * lane + 1 then c else kFSF T side lane row f (c + 1)
def kFS (T : Mem) (side lane row : Int) : Int := kFSF T side lane row (kLO T lane.toNat 0 row (T 8 0 * row) + 1 - kFO T lane.toNat 0 row (T 8 0 * row)).toNat (kFO T lane.toNat 0 row (T 8 0 * row))
def kHrF (T : Mem) (side lane : Int) : Nat → Int
  | 0 => 10000000
  | r + 1 => min (kHrF T side lane r) (kFS T side lane r)
def kHr (T : Mem) (side lane : Int) : Int := kHrF T side lane 6
def kJn (T : Mem) (lane : Int) : Int := min (kHr T 0 lane) (kHr T 1 lane)
def kLn (T : Mem) (lane : Int) : Int := kCr T lane.toNat (T 8 0)
def kHid (T : Mem) (lane : Int) : Bool := kHas T lane.toNat && decide (kLn T lane < kJn T lane)
def kHe (T : Mem) (lane : Int) : Int := 3 * (if T 8 3 = 1 then min lane (T 1 2 - 1 - lane) else lane)
def kEa (T : Mem) (lane : Int) : Int := if T (26 + lane.toNat) 4 = -6 then -6 else if T (26 + lane.toNat) 4 < kHe T lane + T 8 2 then 1 else 0
def kMv (T : Mem) (a b : Int) : Bool := kHas T a.toNat && kHas T b.toNat && decide (sgn (kCr T a.toNat 0 - kCr T b.toNat 0) ≠ sgn (kLn T a - kLn T b))
def kCTF (T : Mem) : Nat → Int
  | 0 => 0
  | r + 1 => if kHas T r = true then kCTF T r + 1 else kCTF T r
def kCT (T : Mem) : Int := kCTF T (T 1 2).toNat
/-! bounds of these -/
theorem mul_b {v c : Int} (hv : 1 ≤ v ∧ v ≤ 20) (hc : -1000 ≤ c ∧ c ≤ 1000) : -20000 ≤ v * c ∧ v * c ≤ 20000 := by
  have := mul_rng (a := v) (b := c) (x := 20) (y := 1000) (by omega) (by omega); omega
theorem mul_l {a b : Int} (ha : -3 ≤ a ∧ a ≤ 3) (hb : 0 ≤ b ∧ b ≤ 5) : -15 ≤ a * b ∧ a * b ≤ 15 := by
  have := mul_rng (a := a) (b := b) (x := 3) (y := 5) (by omega) (by omega); omega
theorem div_b {a v : Int} (hv : 1 ≤ v) (ha : -100000 ≤ a ∧ a ≤ 100000) : -100000 ≤ a / v ∧ a / v ≤ 100000 := by
  have h1 := Int.ediv_mul_le a (show v ≠ 0 by omega)
  have h2 := Int.lt_ediv_add_one_mul_self a (show 0 < v by omega)
  constructor
  · rcases Int.lt_or_le (a / v) (-100000) with q | q
    · exfalso
      have : (a / v + 1) * v ≤ (-100000) * v := Int.mul_le_mul_of_nonneg_right (by omega) (by omega)
      have : (-100000) * v ≤ -100000 := by omega
      omega
    · exact q
  · rcases Int.lt_or_le 100000 (a / v) with q | q
    · exfalso
      have : 100001 * v ≤ (a / v) * v := Int.mul_le_mul_of_nonneg_right (by omega) (by omega)
      omega
    · exact q
theorem kFO_b {T : Mem} (hI : TI T) {j : Nat} (hj : j < 6) {what row place : Int} (hw : 0 ≤ what * 6 + row ∧ what * 6 + row < 12) (hp : -50 ≤ place ∧ place ≤ 50) : 0 ≤ kFO T j what row place ∧ kFO T j what row place ≤ 100000 := by
  have h1 := hI.2.2.1 j hj
  have h2 := hI.2.2.2 j (what * 6 + row).toNat hj (by omega)
  have h3 := div_b (a := -(place - T (38 + j) (what * 6 + row).toNat - T (26 + j) 2)) (v := T (26 + j) 3) (by omega) (by omega)
  unfold kFO; omega
theorem kLO_b {T : Mem} (hI : TI T) {j : Nat} (hj : j < 6) {what row place : Int} (hw : 0 ≤ what * 6 + row ∧ what * 6 + row < 12) (hp : -50 ≤ place ∧ place ≤ 50) : -100000 ≤ kLO T j what row place ∧ kLO T j what row place ≤ 299 := by
  have h1 := hI.2.2.1 j hj
  have h2 := hI.2.2.2 j (what * 6 + row).toNat hj (by omega)
  have h3 := div_b (a := place - T (32 + j) (what * 6 + row).toNat - T (26 + j) 2) (v := T (26 + j) 3) (by omega) (by omega)
  unfold kLO; omega
theorem kCrF_b {T : Mem} (hI : TI T) {j : Nat} (hj : j < 6) {lean : Int} (hl : -3 ≤ lean ∧ lean ≤ 3) : ∀ r, r ≤ 6 → 0 ≤ kCrF T j lean r ∧ kCrF T j lean r ≤ 10000000
  | 0, _ => by unfold kCrF; omega
  | r + 1, h => by
    have ih := kCrF_b hI hj hl r (by omega)
    have hm := mul_l hl (b := (r : Int)) (by omega)
    have hf := kFO_b hI hj (what := 0) (row := r) (place := lean * r) (by omega) (by omega)
    unfold kCrF; split <;> omega
theorem kCr_b {T : Mem} (hI : TI T) {j : Nat} (hj : j < 6) {lean : Int} (hl : -3 ≤ lean ∧ lean ≤ 3) : 0 ≤ kCr T j lean ∧ kCr T j lean ≤ 10000000 := kCrF_b hI hj hl 6 (Nat.le_refl 6)
theorem kScan_b {T : Mem} {side col row place : Int} (h1 : 0 ≤ T 1 2 ∧ T 1 2 ≤ 6) : ∀ (f : Nat) (k : Int), 0 ≤ k → k + f ≤ T 1 2 → 0 ≤ kScan T side col row place f k ∧ kScan T side col row place f k ≤ 52
  | 0, _, _, _ => by unfold kScan; omega
  | f + 1, k, hk, hf => by
    have ih := kScan_b (side := side) (col := col) (row := row) (place := place) h1 f (k + 1) (by omega) (by omega)
    have hl : 0 ≤ kLane T side k ∧ kLane T side k ≤ 5 := by unfold kLane; split <;> omega
    unfold kScan; split
    · omega
    · split <;> omega
theorem kFilm_b {T : Mem} (hI : TI T) (side col row : Int) : 0 ≤ kFilm T side col row ∧ kFilm T side col row ≤ 52 := kScan_b hI.1 _ _ (by omega) (by have := hI.1; omega)
theorem kFSF_b {T : Mem} {side lane row : Int} : ∀ (f : Nat) (c : Int), 0 ≤ c → (c + f ≤ 10000000) → 0 ≤ kFSF T side lane row f c ∧ kFSF T side lane row f c ≤ 10000000
  | 0, _, _, _ => by unfold kFSF; omega
  | f + 1, c, h1, h2 => by
    have ih := kFSF_b (T := T) (side := side) (lane := lane) (row := row) f (c + 1) (by omega) (by omega)
    unfold kFSF; split <;> omega
theorem kFS_b {T : Mem} (hI : TI T) {side lane row : Int} (hl : 0 ≤ lane ∧ lane ≤ 5) (hr : 0 ≤ row ∧ row ≤ 5) : 0 ≤ kFS T side lane row ∧ kFS T side lane row ≤ 10000000 := by
  have hm := mul_l hI.2.1.1 hr
  have h1 := kFO_b hI (j := lane.toNat) (by omega) (what := 0) (row := row) (place := T 8 0 * row) (by omega) (by omega)
  have h2 := kLO_b hI (j := lane.toNat) (by omega) (what := 0) (row := row) (place := T 8 0 * row) (by omega) (by omega)
  exact kFSF_b _ _ h1.1 (by omega)
theorem kHrF_b {T : Mem} (hI : TI T) {side lane : Int} (hl : 0 ≤ lane ∧ lane ≤ 5) : ∀ r, r ≤ 6 → 0 ≤ kHrF T side lane r ∧ kHrF T side lane r ≤ 10000000
  | 0, _ => by unfold kHrF; omega
  | r + 1, h => by
    have ih := kHrF_b hI hl (side := side) r (by omega)
    have := kFS_b hI (side := side) hl (row := (r : Int)) (by omega)
    unfold kHrF; omega
theorem kHr_b {T : Mem} (hI : TI T) {side lane : Int} (hl : 0 ≤ lane ∧ lane ≤ 5) : 0 ≤ kHr T side lane ∧ kHr T side lane ≤ 10000000 := kHrF_b hI hl 6 (Nat.le_refl 6)
theorem kJn_b {T : Mem} (hI : TI T) {lane : Int} (hl : 0 ≤ lane ∧ lane ≤ 5) : 0 ≤ kJn T lane ∧ kJn T lane ≤ 10000000 := by
  have h1 := kHr_b hI hl (side := 0); have h2 := kHr_b hI hl (side := 1); unfold kJn; omega
theorem kLn_b {T : Mem} (hI : TI T) {lane : Int} (hl : 0 ≤ lane ∧ lane ≤ 5) : 0 ≤ kLn T lane ∧ kLn T lane ≤ 10000000 := kCr_b hI (by omega) hI.2.1.1
theorem kHe_b {T : Mem} (hI : TI T) {lane : Int} (hl : 0 ≤ lane ∧ lane < T 1 2) : 0 ≤ kHe T lane ∧ kHe T lane ≤ 15 := by
  have := hI.1; unfold kHe; split <;> omega
theorem kCTF_b {T : Mem} : ∀ r : Nat, 0 ≤ kCTF T r ∧ kCTF T r ≤ r
  | 0 => by unfold kCTF; omega
  | r + 1 => by have := kCTF_b (T := T) r; unfold kCTF; split <;> omega
theorem kHasF_t {T : Mem} {j r : Nat} : ∀ n, r < n → T (32 + j) r ≤ T (38 + j) r → kHasF T j n = true
  | 0, h, _ => by omega
  | n + 1, h, h2 => by
    unfold kHasF
    by_cases e : r = n
    · subst e; simp [h2]
    · rw [kHasF_t n (by omega) h2]; rfl
theorem kHas_t {T : Mem} {j r : Nat} (h : r < 6) (h2 : T (32 + j) r ≤ T (38 + j) r) : kHas T j = true := kHasF_t 6 h h2
theorem sgn_b (v : Int) : -1 ≤ sgn v ∧ sgn v ≤ 1 := by unfold sgn; split <;> (try split) <;> omega
