/-! entering, shaping -/
def kEnt (σ : Mem) (b v : Int) : Mem := um (um (um σ (26 + (σ 1 2).toNat) 2 b) (26 + (σ 1 2).toNat) 3 v) 1 2 (σ 1 2 + 1)
def mEnt (σ : Mem) (b v : Int) : Mem := um (um (um (um σ 45 (σ 44 6).toNat b) 46 (σ 44 6).toNat v) 50 (σ 44 6).toNat (-6)) 44 6 (σ 44 6 + 1)
def kShp (σ : Mem) (r row what a b : Int) : Mem := um (um σ (32 + r.toNat) (what * 6 + row).toNat a) (38 + r.toNat) (what * 6 + row).toNat b
def mShp (σ : Mem) (r row what a b : Int) : Mem := um (um (um σ 47 (2 * (6 * r + row) + what).toNat (if a ≤ b then 1 else 0)) 48 (2 * (6 * r + row) + what).toNat a) 49 (2 * (6 * r + row) + what).toNat b
/-! judges -/
def JI (σ : Mem) : Prop := ∀ j : Nat, j < 4 → 0 ≤ σ (14 + j) 0 ∧ σ (14 + j) 0 ≤ σ (14 + j) 1 ∧ σ (14 + j) 1 ≤ 50 ∧ (σ 12 j = -6 ∨ 0 ≤ σ 12 j) ∧ σ 12 j ≤ 99999
def MJ (σ : Mem) : Prop := ∀ j : Nat, j < 4 → σ 53 j = σ (14 + j) 0 ∧ σ 54 j = σ (14 + j) 1 ∧ σ 55 j = σ 12 j
theorem cr_spn {j : Nat} (hj : j < 4) : cr (14 + j) = true := by rcases j with _ | _ | _ | _ | j <;> first | rfl | omega
theorem co_spn {σ : Mem} {j : Nat} (hj : j < 4) : co σ (14 + j) = σ (14 + j) := co_at (cr_spn hj)
theorem Fr_JI {σ τ : Mem} (h : Fr σ τ) (hJ : JI σ) : JI τ := fun j hj => by
  rw [h _ 0 (cr_sc (cr_spn hj) 0), h _ 1 (cr_sc (cr_spn hj) 1), h 12 j rfl]; exact hJ j hj
theorem Fr_MJ {σ τ : Mem} (h : Fr σ τ) (hJ : MJ σ) : MJ τ := fun j hj => by
  rw [h _ 0 (cr_sc (cr_spn hj) 0), h _ 1 (cr_sc (cr_spn hj) 1), h 12 j rfl, h 53 j rfl, h 54 j rfl, h 55 j rfl]; exact hJ j hj
def agL (T : Mem) : Nat → Int
  | 0 => -10000000
  | j + 1 => if T 12 j = -6 then agL T j else max (agL T j) (T 12 j - T (14 + j) 1)
def agH (T : Mem) : Nat → Int
  | 0 => 10000000
  | j + 1 => if T 12 j = -6 then agH T j else min (agH T j) (T 12 j - T (14 + j) 0)
def agC (T : Mem) : Nat → Int
  | 0 => 0
  | j + 1 => if T 12 j = -6 then agC T j else agC T j + 1
theorem ag_mono {T : Mem} : ∀ (d j : Nat), agL T j ≤ agL T (j + d) ∧ agH T (j + d) ≤ agH T j ∧ agC T j ≤ agC T (j + d)
  | 0, j => ⟨Int.le_refl _, Int.le_refl _, Int.le_refl _⟩
  | d + 1, j => by
    have ih := ag_mono (T := T) d j
    show agL T j ≤ agL T ((j + d) + 1) ∧ agH T ((j + d) + 1) ≤ agH T j ∧ agC T j ≤ agC T ((j + d) + 1)
    rw [agL, agH, agC]
    split <;> omega
theorem ag_b {T : Mem} (hJ : JI T) : ∀ j : Nat, j ≤ 4 → (-10000000 ≤ agL T j ∧ agL T j ≤ 99999) ∧ (-50 ≤ agH T j ∧ agH T j ≤ 10000000) ∧ (0 ≤ agC T j ∧ agC T j ≤ j) ∧ (0 < agC T j → -50 ≤ agL T j ∧ agH T j ≤ 99999) ∧ (agC T j = 0 → agL T j = -10000000 ∧ agH T j = 10000000)
  | 0, _ => by unfold agL agH agC; omega
  | j + 1, h => by
    have ih := ag_b hJ j (by omega)
    have hj := hJ j (by omega)
    unfold agL agH agC
    split <;> omega
def kAg (T : Mem) : Int := if agC T 4 = 0 then -3 else if agH T 4 < agL T 4 then -5 else -6
theorem kAg_no {T : Mem} {j : Nat} (hj : j < 4) (h0 : 0 ≤ agC T j) (h1 : ¬ T 12 j = -6) (h2 : agH T (j + 1) < agL T (j + 1)) : kAg T = -5 := by
  have h3 := ag_mono (T := T) (3 - j) (j + 1)
  rw [show j + 1 + (3 - j) = 4 by omega] at h3
  have h4 : agC T (j + 1) = agC T j + 1 := by rw [agC, if_neg h1]
  unfold kAg
  rw [if_neg (by omega), if_pos (by omega)]
def kTime (T : Mem) (en : Int) : Int := if ¬ (0 ≤ en ∧ en ≤ 1) then -2 else if kAg T = -6 then 1000000 + (if en = 0 then agL T 4 else agH T 4) else kAg T
def kOld (T : Mem) (t : Int) : Int := if ¬ (0 ≤ t ∧ t ≤ 99999) then -2 else if kAg T = -6 then (if agH T 4 < t then 1 else if t ≤ agL T 4 then 0 else 2) else kAg T
theorem JI_cc {σ : Mem} (h : JI σ) : JI (co σ) := fun j hj => by rw [co_spn hj, co_at (a := 12) rfl]; exact h j hj
theorem kAg_c (T : Mem) : kAg T = -3 ∨ kAg T = -5 ∨ kAg T = -6 := by unfold kAg; split <;> (try split) <;> omega
def kTold (σ : Mem) (what : Int) : Int := if what = 0 then σ 1 2 else if what = 1 then σ 6 3 else if what = 2 then σ 4 1 else if what = 3 then σ 5 4 else if 10 ≤ what ∧ what ≤ 13 then σ 8 (what - 10).toNat else -2
