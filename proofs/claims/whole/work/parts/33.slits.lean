/-! slits: which lanes each catches, masks, untold pairs -/
def RI (σ : Mem) : Prop := (0 ≤ σ 6 3 ∧ σ 6 3 ≤ 8) ∧ ∀ i : Nat, (i : Int) < σ 6 3 → (0 ≤ σ 23 i ∧ σ 23 i ≤ 1) ∧ (1 ≤ σ 24 i ∧ σ 24 i ≤ 63)
def MX (σ : Mem) : Prop := σ 44 27 = σ 6 3 ∧ ∀ i : Nat, (i : Int) < σ 6 3 → σ 60 i = σ 23 i ∧ σ 61 i = σ 24 i
theorem Fr_RI {σ τ : Mem} (h : Fr σ τ) (hR : RI σ) : RI τ := by
  refine ⟨by rw [h 6 3 rfl]; exact hR.1, fun i hi => ?_⟩
  rw [h 6 3 rfl] at hi
  rw [h 23 i rfl, h 24 i rfl]; exact hR.2 i hi
theorem Fr_MX {σ τ : Mem} (h : Fr σ τ) (hR : MX σ) : MX τ := by
  refine ⟨by rw [h 6 3 rfl, h 44 27 rfl]; exact hR.1, fun i hi => ?_⟩
  rw [h 6 3 rfl] at hi
  rw [h 23 i rfl, h 24 i rfl, h 60 i rfl, h 61 i rfl]; exact hR.2 i hi
theorem RI_cc {σ : Mem} (h : RI σ) : RI (co σ) := h
def kCtF (T : Mem) (i : Nat) (lane : Int) : Nat → Bool
  | 0 => false
  | r + 1 => kCtF T i lane r || (decide (T 24 i / 2 ^ r % 2 = 1) && decide (kFilm T (T 23 i) (kLn T lane) r = 10 * lane + 1))
def kCt (T : Mem) (i : Nat) (lane : Int) : Bool := decide (kLn T lane < 300) && kCtF T i lane 6
theorem kCtF_t {T : Mem} {i : Nat} {lane : Int} : ∀ n : Nat, kCtF T i lane n = true ↔ ∃ r, r < n ∧ T 24 i / 2 ^ r % 2 = 1 ∧ kFilm T (T 23 i) (kLn T lane) r = 10 * lane + 1
  | 0 => by unfold kCtF; simp
  | n + 1 => by
    unfold kCtF
    rw [Bool.or_eq_true, kCtF_t n, Bool.and_eq_true, decide_eq_true_eq, decide_eq_true_eq]
    constructor
    · rintro (⟨r, h1, h2⟩ | h)
      · exact ⟨r, by omega, h2⟩
      · exact ⟨n, by omega, h⟩
    · rintro ⟨r, h1, h2⟩
      by_cases e : r = n
      · subst e; exact Or.inr h2
      · exact Or.inl ⟨r, by omega, h2⟩
def kMk (T : Mem) (i : Nat) : Nat → Nat
  | 0 => 0
  | k + 1 => if kCt T i k = true then kMk T i k ||| 2 ^ k else kMk T i k
theorem kMk_bit {T : Mem} {i : Nat} (r : Nat) : ∀ k : Nat, (kMk T i k).testBit r = (decide (r < k) && kCt T i r)
  | 0 => by unfold kMk; simp
  | k + 1 => by
    unfold kMk
    by_cases h : kCt T i k = true
    · rw [if_pos h, Nat.testBit_or, kMk_bit r k, Nat.testBit_two_pow]
      by_cases e : k = r
      · subst e; simp [h]
      · have : (r < k + 1) ↔ (r < k) := by omega
        simp [e, this]
    · rw [if_neg h, kMk_bit r k]
      by_cases e : k = r
      · subst e; simp [h]
      · have : (r < k + 1) ↔ (r < k) := by omega
        simp [this]
theorem kMk_lt {T : Mem} {i : Nat} : ∀ k : Nat, k ≤ 6 → kMk T i k < 64
  | 0, _ => by unfold kMk; omega
  | k + 1, h => by
    have ih := kMk_lt (T := T) (i := i) k (by omega)
    have hp : 2 ^ k < 2 ^ 6 := Nat.pow_lt_pow_right (by omega) (by omega)
    unfold kMk; split
    · exact Nat.or_lt_two_pow (n := 6) ih hp
    · exact ih
def kSb (T : Mem) (st : Int) : Nat → Nat
  | 0 => 0
  | i + 1 => if st / 2 ^ i % 2 = 1 then kSb T st i ||| kMk T i (T 1 2).toNat else kSb T st i
theorem kSb_lt {T : Mem} {st : Int} (h6 : (T 1 2).toNat ≤ 6) : ∀ k : Nat, kSb T st k < 64
  | 0 => by unfold kSb; omega
  | k + 1 => by
    have ih := kSb_lt (T := T) (st := st) h6 k
    unfold kSb; split
    · exact Nat.or_lt_two_pow (n := 6) ih (kMk_lt _ h6)
    · exact ih
theorem kSb_bit {T : Mem} {st : Int} (r : Nat) : ∀ k : Nat, (kSb T st k).testBit r = true ↔ (r < (T 1 2).toNat ∧ ∃ i, i < k ∧ st / 2 ^ i % 2 = 1 ∧ kCt T i r = true)
  | 0 => by unfold kSb; simp
  | k + 1 => by
    unfold kSb
    have ih := kSb_bit (T := T) (st := st) r k
    by_cases h : st / 2 ^ k % 2 = 1
    · rw [if_pos h, Nat.testBit_or, Bool.or_eq_true, ih, kMk_bit, Bool.and_eq_true, decide_eq_true_eq]
      constructor
      · rintro (⟨h1, i, h2, h3⟩ | ⟨h1, h2⟩)
        · exact ⟨h1, i, by omega, h3⟩
        · exact ⟨h1, k, by omega, h, h2⟩
      · rintro ⟨h1, i, h2, h3, h4⟩
        by_cases e : i = k
        · subst e; exact Or.inr ⟨h1, h4⟩
        · exact Or.inl ⟨h1, i, by omega, h3, h4⟩
    · rw [if_neg h, ih]
      constructor
      · rintro ⟨h1, i, h2, h3⟩; exact ⟨h1, i, by omega, h3⟩
      · rintro ⟨h1, i, h2, h3, h4⟩
        by_cases e : i = k
        · subst e; exact absurd h3 h
        · exact ⟨h1, i, by omega, h3, h4⟩
/-! the model's: the least first column over some slits -/
def kFv (T : Mem) (st lane : Int) : Nat → Int
  | 0 => 10000000
  | i + 1 => if st / 2 ^ i % 2 = 1 then min (kFv T st lane i) (kRw T (T 23 i) lane (T 24 i) 6) else kFv T st lane i
theorem kFv_b {T : Mem} (hI : TI T) {st lane : Int} (hl : 0 ≤ lane ∧ lane ≤ 5) : ∀ k : Nat, 0 ≤ kFv T st lane k ∧ kFv T st lane k ≤ 10000000
  | 0 => by unfold kFv; omega
  | k + 1 => by
    have ih := kFv_b hI hl (st := st) k
    have := kRw_b hI hl (side := T 23 k) (rows := T 24 k) 6 (Nat.le_refl 6)
    unfold kFv; split <;> omega
theorem kCrF_le {T : Mem} {j : Nat} {lean : Int} {y : Nat} : ∀ r : Nat, y < r → T (32 + j) y ≤ T (38 + j) y → kCrF T j lean r ≤ kFO T j 0 y (lean * y)
  | 0, h, _ => by omega
  | r + 1, h, h2 => by
    unfold kCrF
    by_cases e : y = r
    · subst e; rw [if_pos h2]; omega
    · have ih := kCrF_le (T := T) (j := j) (lean := lean) (y := y) r (by omega) h2
      split <;> omega
/-- a torso that shows does so at LEANED or later -/
theorem film_ln {T : Mem} (hI : TI T) {side col lane : Int} {y : Nat} (hl : 0 ≤ lane ∧ lane ≤ 5) (hy : y < 6) (hc : 0 ≤ col ∧ col ≤ 299) (h : kFilm T side col y = 10 * lane + 1) : kLn T lane ≤ col ∧ kFO T lane.toNat 0 y (T 8 0 * y) ≤ col ∧ col ≤ kLO T lane.toNat 0 y (T 8 0 * y) := by
  have hcv := kFilm_cov hl.1 h
  have hb := hI.2.2.1 lane.toNat (by omega)
  have hr := cov_rng hb.2.1.1 hc hcv
  have hft : T (32 + lane.toNat) y ≤ T (38 + lane.toNat) y := by
    unfold kCov at hcv
    have := of_decide_eq_true hcv
    rw [show ((0 : Int) * 6 + (y : Int)).toNat = y by omega] at this
    omega
  have := kCrF_le (T := T) (j := lane.toNat) (lean := T 8 0) (y := y) 6 hy hft
  unfold kLn kCr
  exact ⟨by omega, hr⟩
theorem kFS_ln {T : Mem} (hI : TI T) {side lane : Int} {y : Nat} (hl : 0 ≤ lane ∧ lane ≤ 5) (hy : y < 6) : (kFS T side lane y = 10000000 ∨ kLn T lane ≤ kFS T side lane y) ∧ ((kFS T side lane y = kLn T lane ∧ kLn T lane < 10000000) ↔ (kLn T lane < 300 ∧ kFilm T side (kLn T lane) y = 10 * lane + 1)) := by
  have hlb := kLn_b hI hl
  have e := kFS_all hI (side := side) hl (row := (y : Int)) (by omega)
  rw [← e]
  rcases kFSF_cases T side lane y 300 0 with ⟨a, b⟩ | ⟨a1, a2, a3, a4⟩
  · refine ⟨Or.inl a, ⟨fun h => by omega, fun h => ?_⟩⟩
    exact absurd h.2 (b _ (by omega) (by omega))
  · have h1 := film_ln hI hl hy (by omega) a3
    refine ⟨Or.inr h1.1, ⟨fun h => ⟨by omega, by rw [← h.1]; exact a3⟩, fun h => ?_⟩⟩
    refine ⟨?_, by omega⟩
    rcases Int.lt_or_le (kLn T lane) (kFSF T side lane y 300 0) with q | q
    · exact absurd h.2 (a4 _ (by omega) q)
    · omega
theorem min_ln {a b l : Int} (ha : a = 10000000 ∨ l ≤ a) (hb : b = 10000000 ∨ l ≤ b) : (min a b = 10000000 ∨ l ≤ min a b) ∧ ((min a b = l ∧ l < 10000000) ↔ ((a = l ∧ l < 10000000) ∨ (b = l ∧ l < 10000000))) := by omega
theorem kRw_ln {T : Mem} (hI : TI T) {side lane rows : Int} (hl : 0 ≤ lane ∧ lane ≤ 5) : ∀ n : Nat, n ≤ 6 → (kRw T side lane rows n = 10000000 ∨ kLn T lane ≤ kRw T side lane rows n) ∧ ((kRw T side lane rows n = kLn T lane ∧ kLn T lane < 10000000) ↔ ∃ y, y < n ∧ rows / 2 ^ y % 2 = 1 ∧ kLn T lane < 300 ∧ kFilm T side (kLn T lane) y = 10 * lane + 1)
  | 0, _ => by
    unfold kRw
    refine ⟨Or.inl rfl, ⟨fun h => by omega, ?_⟩⟩
    rintro ⟨y, h, -⟩; omega
  | n + 1, hn => by
    have ih := kRw_ln hI hl (side := side) (rows := rows) n (by omega)
    have hf := kFS_ln hI (side := side) hl (y := n) (by omega)
    unfold kRw
    have hex : (∃ y, y < n + 1 ∧ rows / 2 ^ y % 2 = 1 ∧ kLn T lane < 300 ∧ kFilm T side (kLn T lane) y = 10 * lane + 1) ↔ ((∃ y, y < n ∧ rows / 2 ^ y % 2 = 1 ∧ kLn T lane < 300 ∧ kFilm T side (kLn T lane) y = 10 * lane + 1) ∨ (rows / 2 ^ n % 2 = 1 ∧ kLn T lane < 300 ∧ kFilm T side (kLn T lane) n = 10 * lane + 1)) := by
      constructor
      · rintro ⟨y, h1, h2⟩
        by_cases e : y = n
        · subst e; exact Or.inr h2
        · exact Or.inl ⟨y, by omega, h2⟩
      · rintro (⟨y, h1, h2⟩ | h)
        · exact ⟨y, by omega, h2⟩
        · exact ⟨n, by omega, h⟩
    rw [hex, ← ih.2]
    by_cases c : rows / 2 ^ n % 2 = 1
    · rw [if_pos c]
      have hmn := min_ln ih.1 hf.1
      refine ⟨hmn.1, ?_⟩
      have : (rows / 2 ^ n % 2 = 1 ∧ kLn T lane < 300 ∧ kFilm T side (kLn T lane) n = 10 * lane + 1) ↔ (kFS T side lane n = kLn T lane ∧ kLn T lane < 10000000) := ⟨fun h => hf.2.mpr h.2, fun h => ⟨c, hf.2.mp h⟩⟩
      rw [this]; exact hmn.2
    · rw [if_neg c]
      refine ⟨ih.1, ?_⟩
      constructor
      · exact fun h => Or.inl h
      · rintro (h | h)
        · exact h
        · exact absurd h.1 c
theorem kFv_ln {T : Mem} (hI : TI T) {st lane : Int} (hl : 0 ≤ lane ∧ lane ≤ 5) : ∀ n : Nat, (kFv T st lane n = 10000000 ∨ kLn T lane ≤ kFv T st lane n) ∧ ((kFv T st lane n = kLn T lane ∧ kLn T lane < 10000000) ↔ ∃ i, i < n ∧ st / 2 ^ i % 2 = 1 ∧ kCt T i lane = true)
  | 0 => by
    unfold kFv
    refine ⟨Or.inl rfl, ⟨fun h => by omega, ?_⟩⟩
    rintro ⟨y, h, -⟩; omega
  | n + 1 => by
    have ih := kFv_ln hI hl (st := st) n
    have hf := kRw_ln hI hl (side := T 23 n) (rows := T 24 n) 6 (Nat.le_refl 6)
    have hc : kCt T n lane = true ↔ (kRw T (T 23 n) lane (T 24 n) 6 = kLn T lane ∧ kLn T lane < 10000000) := by
      rw [hf.2, kCt, Bool.and_eq_true, decide_eq_true_eq, kCtF_t]
      constructor
      · rintro ⟨h1, y, h2, h3, h4⟩; exact ⟨y, h2, h3, h1, h4⟩
      · rintro ⟨y, h2, h3, h1, h4⟩; exact ⟨h1, y, h2, h3, h4⟩
    have hex : (∃ i, i < n + 1 ∧ st / 2 ^ i % 2 = 1 ∧ kCt T i lane = true) ↔ ((∃ i, i < n ∧ st / 2 ^ i % 2 = 1 ∧ kCt T i lane = true) ∨ (st / 2 ^ n % 2 = 1 ∧ kCt T n lane = true)) := by
      constructor
      · rintro ⟨y, h1, h2⟩
        by_cases e : y = n
        · subst e; exact Or.inr h2
        · exact Or.inl ⟨y, by omega, h2⟩
      · rintro (⟨y, h1, h2⟩ | h)
        · exact ⟨y, by omega, h2⟩
        · exact ⟨n, by omega, h⟩
    unfold kFv
    rw [hex, ← ih.2, hc]
    by_cases c : st / 2 ^ n % 2 = 1
    · rw [if_pos c]
      have hmn := min_ln ih.1 hf.1
      refine ⟨hmn.1, ?_⟩
      simp only [c, true_and]
      exact hmn.2
    · rw [if_neg c]
      refine ⟨ih.1, ?_⟩
      simp only [c, false_and, or_false]
def kMb (T : Mem) (st : Int) (n : Nat) : Nat → Nat
  | 0 => 0
  | r + 1 => if kFv T st r n = kLn T r ∧ kLn T r < 10000000 then kMb T st n r ||| 2 ^ r else kMb T st n r
theorem kMb_bit {T : Mem} {st : Int} {n : Nat} (r : Nat) : ∀ k : Nat, (kMb T st n k).testBit r = true ↔ (r < k ∧ (kFv T st r n = kLn T r ∧ kLn T r < 10000000))
  | 0 => by unfold kMb; simp
  | k + 1 => by
    have ih := kMb_bit (T := T) (st := st) (n := n) r k
    unfold kMb
    by_cases h : kFv T st k n = kLn T k ∧ kLn T k < 10000000
    · rw [if_pos h, Nat.testBit_or, Bool.or_eq_true, ih, Nat.testBit_two_pow, decide_eq_true_eq]
      constructor
      · rintro (⟨h1, h2⟩ | rfl)
        · exact ⟨by omega, h2⟩
        · exact ⟨by omega, h⟩
      · rintro ⟨h1, h2⟩
        by_cases e : k = r
        · exact Or.inr e
        · exact Or.inl ⟨by omega, h2⟩
    · rw [if_neg h, ih]
      constructor
      · rintro ⟨h1, h2⟩; exact ⟨by omega, h2⟩
      · rintro ⟨h1, h2⟩
        by_cases e : k = r
        · subst e; exact absurd h2 h
        · exact ⟨by omega, h2⟩
theorem kMb_eq {T : Mem} (hI : TI T) {st : Int} {n : Nat} : kMb T st n (T 1 2).toNat = kSb T st n := by
  have h1 := hI.1
  apply Nat.eq_of_testBit_eq
  intro r
  have e1 := kMb_bit (T := T) (st := st) (n := n) r (T 1 2).toNat
  have e2 := kSb_bit (T := T) (st := st) r n
  by_cases hr : r < (T 1 2).toNat
  · have e3 := (kFv_ln hI (st := st) (lane := (r : Int)) (by omega) n).2
    rw [e3] at e1
    rw [Bool.eq_iff_iff, e1, e2]
  · rw [Bool.eq_iff_iff, e1, e2]
    constructor <;> (rintro ⟨h, -⟩; exact absurd h hr)
/-! counting bits and pairs -/
def pc (x : Int) : Int := x % 2 + x / 2 % 2 + x / 4 % 2 + x / 8 % 2 + x / 16 % 2 + x / 32 % 2 + x / 64 % 2 + x / 128 % 2
theorem pc_b {x : Int} (h : 0 ≤ x) : 0 ≤ pc x ∧ pc x ≤ 8 := by unfold pc; omega
def tr : Nat → Int
  | 0 => 0
  | k + 1 => tr k + k
theorem tr_pairs : ∀ v : Nat, v ≤ 32 → (((v : Int) * ((v : Int) - 1)).tdiv 2) = tr v := by decide
theorem tr_b : ∀ v : Nat, v ≤ 32 → 0 ≤ tr v ∧ tr v ≤ 500 := by decide
def cB (f : Nat → Bool) : Nat → Nat
  | 0 => 0
  | k + 1 => cB f k + (if f k then 1 else 0)
theorem cB_le (f : Nat → Bool) : ∀ k, cB f k ≤ k
  | 0 => Nat.le_refl 0
  | k + 1 => by have := cB_le f k; unfold cB; split <;> omega
theorem kCTF_cB (T : Mem) : ∀ k : Nat, kCTF T k = (cB (fun r => kHas T r) k : Int)
  | 0 => rfl
  | k + 1 => by rw [kCTF, cB, kCTF_cB T k]; split <;> simp_all
theorem pc_cB (m : Nat) : pc (m : Int) = (cB (fun r => m.testBit r) 8 : Int) := by
  have e : ∀ i : Nat, (if m.testBit i = true then 1 else 0 : Nat) = m / 2 ^ i % 2 := fun i => by
    rw [Nat.testBit_eq_decide_div_mod_eq]
    have := Nat.mod_two_eq_zero_or_one (m / 2 ^ i)
    rcases this with h | h <;> simp [h]
  simp only [cB, e]
  unfold pc
  simp only [Nat.pow_zero, Nat.div_one]
  omega
theorem cB_hi {f : Nat → Bool} {n : Nat} (h : ∀ r, n ≤ r → f r = false) : ∀ k, cB f (n + k) = cB f n
  | 0 => rfl
  | k + 1 => by
    show cB f ((n + k) + 1) = _
    rw [cB, cB_hi h k, h (n + k) (by omega)]; rfl
/-- untold pairs, counted -/
def unB (T : Mem) (m a : Int) : Nat → Int
  | 0 => 0
  | b + 1 => unB T m a b + (if kHas T a.toNat = true ∧ kHas T b = true ∧ ¬ (m / 2 ^ a.toNat % 2 = 1 ∧ m / 2 ^ b % 2 = 1) then 1 else 0)
def unA (T : Mem) (m : Int) : Nat → Int
  | 0 => 0
  | a + 1 => unA T m a + unB T m a a
theorem tb_i (m i : Nat) : ((m : Int) / 2 ^ i % 2 = 1) ↔ m.testBit i = true := by
  rw [Nat.testBit_eq_decide_div_mod_eq, decide_eq_true_eq]
  have e : ((m : Int) / 2 ^ i % 2) = ((m / 2 ^ i % 2 : Nat) : Int) := by simp
  rw [e]; omega
theorem unB_eq {T : Mem} {m : Nat} (hs : ∀ r : Nat, m.testBit r = true → kHas T r = true) (a : Nat) : ∀ b : Nat, unB T m a b = if kHas T a = true then (if m.testBit a = true then (cB (fun r => kHas T r) b : Int) - (cB (fun r => m.testBit r) b : Int) else (cB (fun r => kHas T r) b : Int)) else 0
  | 0 => by unfold unB cB; split <;> (try split) <;> simp
  | b + 1 => by
    rw [unB, unB_eq hs a b, cB, cB]
    simp only [Int.toNat_natCast, tb_i]
    have hb := hs b
    by_cases h1 : kHas T a = true
    · by_cases h2 : m.testBit a = true
      · by_cases h3 : kHas T b = true
        · by_cases h4 : m.testBit b = true
          · simp [h1, h2, h3, h4]; omega
          · simp [h1, h2, h3, h4]; omega
        · have h4 : ¬ m.testBit b = true := fun h => h3 (hb h)
          simp [h1, h2, h3, h4]
      · by_cases h3 : kHas T b = true
        · simp [h1, h2, h3]
        · simp [h1, h2, h3]
    · simp [h1]
theorem unA_eq {T : Mem} {m : Nat} (hs : ∀ r : Nat, m.testBit r = true → kHas T r = true) : ∀ k : Nat, unA T m k = tr (cB (fun r => kHas T r) k) - tr (cB (fun r => m.testBit r) k)
  | 0 => by unfold unA cB tr; rfl
  | k + 1 => by
    rw [unA, unA_eq hs k, unB_eq hs k k, cB, cB]
    have hk := hs k
    by_cases h1 : kHas T k = true
    · by_cases h2 : m.testBit k = true
      · simp [h1, h2, tr]; omega
      · simp [h1, h2, tr]; omega
    · have h2 : ¬ m.testBit k = true := fun h => h1 (hk h)
      simp [h1, h2]
def kUnt (t m : Int) : Int := (t * (t - 1)).tdiv 2 - (pc m * (pc m - 1)).tdiv 2
theorem kUnt_eq {T : Mem} (hI : TI T) {st : Int} {n : Nat} : unA T (kSb T st n : Nat) (T 1 2).toNat = kUnt (kCT T) (kSb T st n : Nat) := by
  have h1 := hI.1
  have h6 : (T 1 2).toNat ≤ 6 := by omega
  have hs : ∀ r : Nat, (kSb T st n).testBit r = true → kHas T r = true := fun r h => by
    obtain ⟨hr, i, h2, h3, h4⟩ := (kSb_bit r n).mp h
    have h5 := (kFv_ln hI (st := st) (lane := (r : Int)) (by omega) n).2.mpr ⟨i, h2, h3, h4⟩
    have h7 := kCr_has hI (j := r) (by omega) (lean := T 8 0) hI.2.1.1
    exact h7.mp h5.2
  rw [unA_eq hs]
  unfold kUnt kCT
  have hlt := kSb_lt (T := T) (st := st) h6 n
  have hc := cB_hi (f := fun r => (kSb T st n).testBit r) (n := (T 1 2).toNat) (fun r hr => by
    cases hh : (kSb T st n).testBit r
    · rfl
    · exact absurd ((kSb_bit r n).mp hh).1 (by omega)) (8 - (T 1 2).toNat)
  rw [show (T 1 2).toNat + (8 - (T 1 2).toNat) = 8 by omega] at hc
  rw [kCTF_cB, pc_cB, hc, tr_pairs _ (by have := cB_le (fun r => kHas T r) (T 1 2).toNat; omega), tr_pairs _ (by have := cB_le (fun r => (kSb T st n).testBit r) (T 1 2).toNat; omega)]
def kU (T : Mem) (st : Int) : Int := kUnt (kCT T) (kSb T st (T 6 3).toNat : Nat)
theorem kUnt_b {t m : Int} (ht : 0 ≤ t ∧ t ≤ 6) (hm : 0 ≤ m) : -1000 ≤ kUnt t m ∧ kUnt t m ≤ 1000 := by
  have hp := pc_b hm
  obtain ⟨a, rfl⟩ : ∃ a : Nat, t = (a : Int) := ⟨t.toNat, by omega⟩
  obtain ⟨b, hb⟩ : ∃ b : Nat, pc m = (b : Int) := ⟨(pc m).toNat, by omega⟩
  unfold kUnt
  rw [hb, tr_pairs a (by omega), tr_pairs b (by omega)]
  have h1 := tr_b a (by omega); have h2 := tr_b b (by omega)
  omega
def bsF (T : Mem) (k : Int) : Nat → Int × Int
  | 0 => (0, kU T 0)
  | s + 1 => if pc (s + 1) ≤ k ∧ (kU T (s + 1) < (bsF T k s).2 ∨ (kU T (s + 1) = (bsF T k s).2 ∧ pc (s + 1) < pc (bsF T k s).1)) then ((s + 1 : Int), kU T (s + 1)) else bsF T k s
theorem bsF_b {T : Mem} (hI : TI T) (k : Int) : ∀ s : Nat, (0 ≤ (bsF T k s).1 ∧ (bsF T k s).1 ≤ s) ∧ (-1000 ≤ (bsF T k s).2 ∧ (bsF T k s).2 ≤ 1000)
  | 0 => by
    have h1 := kCTF_b (T := T) (T 1 2).toNat
    have h2 := hI.1
    have := kUnt_b (t := kCT T) (m := (kSb T 0 (T 6 3).toNat : Nat)) (by unfold kCT; omega) (by omega)
    unfold bsF
    exact ⟨by omega, this⟩
  | s + 1 => by
    have ih := bsF_b hI k s
    have h1 := kCTF_b (T := T) (T 1 2).toNat
    have h2 := hI.1
    have := kUnt_b (t := kCT T) (m := (kSb T (s + 1) (T 6 3).toNat : Nat)) (by unfold kCT; omega) (by omega)
    unfold bsF; split
    · exact ⟨by show 0 ≤ ((s : Int) + 1) ∧ _ ; omega, this⟩
    · exact ⟨by omega, ih.2⟩
theorem kSb_0 {T : Mem} : ∀ n : Nat, kSb T 0 n = 0
  | 0 => rfl
  | n + 1 => by rw [kSb, kSb_0 n]; simp
abbrev okS (st wh cnt : Int) : Prop := (0 ≤ st ∧ st ≤ 2 ^ cnt.toNat - 1) ∧ (0 ≤ wh ∧ wh ≤ 1)
def kSeen (T : Mem) (st wh : Int) : Int := if ¬ okS st wh (T 6 3) then -2 else if wh = 0 then ((kSb T st (T 6 3).toNat : Nat) : Int) else kU T st
def kBest (T : Mem) (k wh : Int) : Int := if ¬ ((0 ≤ k ∧ k ≤ 8) ∧ (0 ≤ wh ∧ wh ≤ 1)) then -2 else if wh = 0 then (bsF T k (2 ^ (T 6 3).toNat - 1)).1 else (bsF T k (2 ^ (T 6 3).toNat - 1)).2
theorem pw2_b {c : Int} (h : 0 ≤ c ∧ c ≤ 8) : 1 ≤ (2 : Int) ^ c.toNat ∧ (2 : Int) ^ c.toNat ≤ 256 ∧ ((2 ^ c.toNat : Nat) : Int) = 2 ^ c.toNat := by
  have h1 : 1 ≤ 2 ^ c.toNat := Nat.one_le_pow _ _ (by omega)
  have h2 : 2 ^ c.toNat ≤ 2 ^ 8 := Nat.pow_le_pow_right (by omega) (by omega)
  have e : ((2 ^ c.toNat : Nat) : Int) = 2 ^ c.toNat := by simp
  omega
theorem pow_tn (k : Nat) : ((2 : Int) ^ k).toNat = 2 ^ k := by
  rw [show ((2 : Int) ^ k) = ((2 ^ k : Nat) : Int) by simp, Int.toNat_natCast]
theorem mk_or {υ : Mem} {i x k : Nat} (h : υ 25 i = (x : Int)) : um υ 25 i (((υ 25 i).toNat ||| ((1 : Int) * 2 ^ k).toNat : Nat) : Int) 25 i = ((x ||| 2 ^ k : Nat) : Int) := by
  rw [um_at, h, Int.toNat_natCast, Int.one_mul, pow_tn]
