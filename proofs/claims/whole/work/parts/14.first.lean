/-! the model's table of first columns, on its way -/
def FAP (T : Mem) (f : Nat → Int) (sd yy cl : Int) : Prop := ∀ s y r : Nat, s < 2 → y < 6 → r < 6 → f (6 * (6 * s + y) + r) = if ((s : Int) < sd ∨ ((s : Int) = sd ∧ (y : Int) < yy)) then mN (kFS T s r y) else if ((s : Int) = sd ∧ (y : Int) = yy) then mN (kFSF T s r y (299 - cl).toNat (cl + 1)) else -6
theorem FAP_init {T : Mem} {f : Nat → Int} (h : ∀ i : Nat, (i : Int) < 72 → f i = -6) : FAP T f 0 0 299 := fun s y r hs hy hr => by
  rw [h _ (by omega), if_neg (by omega)]
  split
  · rfl
  · rfl
theorem FAP_no {T : Mem} {f : Nat → Int} {sd yy cl : Int} (h : FAP T f sd yy cl) (hc : 0 ≤ cl ∧ cl ≤ 299) (hf : kFilm T sd cl yy % 10 ≠ 1) : FAP T f sd yy (cl + -1) := fun s y r hs hy hr => by
  rw [h s y r hs hy hr]
  split
  · rfl
  · split
    · rename_i e
      rw [show (299 - (cl + -1)).toNat = (299 - cl).toNat + 1 by omega, show cl + -1 + 1 = cl by omega, kFSF, e.1, e.2, if_neg (by omega)]
    · rfl
theorem FAP_yes {T : Mem} {f : Nat → Int} {sd yy cl : Int} (h : FAP T f sd yy cl) (hc : 0 ≤ cl ∧ cl ≤ 299) (hs : 0 ≤ sd ∧ sd ≤ 1) (hy : 0 ≤ yy ∧ yy ≤ 5) (hb : 0 ≤ kFilm T sd cl yy ∧ kFilm T sd cl yy ≤ 52) (hf : kFilm T sd cl yy % 10 = 1) : FAP T (fun b => if b = (6 * (6 * sd + yy) + kFilm T sd cl yy / 10).toNat then cl else f b) sd yy (cl + -1) := fun s y r hs2 hy2 hr => by
  show (if _ then _ else _) = _
  by_cases e : (s : Int) = sd ∧ (y : Int) = yy
  · rw [if_neg (show ¬ ((s : Int) < sd ∨ ((s : Int) = sd ∧ (y : Int) < yy)) by omega), if_pos e, show (299 - (cl + -1)).toNat = (299 - cl).toNat + 1 by omega, show cl + -1 + 1 = cl by omega, kFSF, e.1, e.2]
    by_cases e2 : kFilm T sd cl yy = 10 * (r : Int) + 1
    · rw [if_pos e2, if_pos (by omega)]; unfold mN; rw [if_neg (by omega)]
    · rw [if_neg e2, if_neg (by omega), h s y r hs2 hy2 hr, if_neg (by omega), if_pos e, e.1, e.2]
  · rw [if_neg (by omega), h s y r hs2 hy2 hr]
    split
    · rfl
    · rfl
theorem FAP_row {T : Mem} (hI : TI T) {f : Nat → Int} {sd yy cl : Int} (h : FAP T f sd yy cl) (hc : cl = -1) (hy : 0 ≤ yy ∧ yy ≤ 5) : FAP T f sd (yy + 1) 299 := fun s y r hs2 hy2 hr => by
  subst hc
  rw [h s y r hs2 hy2 hr]
  by_cases e : (s : Int) = sd ∧ (y : Int) = yy
  · rw [if_neg (by omega), if_pos e, if_pos (by omega)]
    show mN (kFSF T s r y 300 0) = _
    rw [kFS_all hI (by omega) (by omega)]
  · by_cases e2 : (s : Int) < sd ∨ ((s : Int) = sd ∧ (y : Int) < yy)
    · rw [if_pos e2, if_pos (by omega)]
    · rw [if_neg e2, if_neg e, if_neg (by omega)]
      split <;> rfl
theorem FAP_side {T : Mem} {f : Nat → Int} {sd yy : Int} (h : FAP T f sd yy 299) (hy : yy = 6) : FAP T f (sd + 1) 0 299 := fun s y r hs2 hy2 hr => by
  subst hy
  rw [h s y r hs2 hy2 hr]
  by_cases e2 : (s : Int) < sd ∨ (s : Int) = sd
  · rw [if_pos (by omega), if_pos (by omega)]
  · rw [if_neg (by omega), if_neg (by omega), if_neg (by omega)]
    split <;> rfl
theorem FAP_end {T : Mem} {f : Nat → Int} {sd : Int} (h : FAP T f sd 0 299) (hs : sd = 2) : ∀ s y r : Nat, s < 2 → y < 6 → r < 6 → f (6 * (6 * s + y) + r) = mN (kFS T s r y) := fun s y r hs2 hy2 hr => by
  rw [h s y r hs2 hy2 hr, if_pos (by omega)]
theorem ceil_t {u v : Int} (hv : 1 ≤ v) (hu : 0 < u) : (u + v - 1).tdiv v = -((-u) / v) := by
  rw [Int.tdiv_eq_ediv_of_nonneg (by omega)]
  have h1 := Int.ediv_mul_le (u + v - 1) (show v ≠ 0 by omega)
  have h2 := Int.lt_ediv_add_one_mul_self (u + v - 1) (show 0 < v by omega)
  have h3 := Int.ediv_mul_le (-u) (show v ≠ 0 by omega)
  have h4 := Int.lt_ediv_add_one_mul_self (-u) (show 0 < v by omega)
  generalize (u + v - 1) / v = a at *
  generalize (-u) / v = b at *
  have e1 : (a + 1) * v = a * v + v := by rw [Int.add_mul, Int.one_mul]
  have e2 : (b + 1) * v = b * v + v := by rw [Int.add_mul, Int.one_mul]
  have e3 : (a + b) * v = a * v + b * v := Int.add_mul _ _ _
  rcases Int.lt_trichotomy (a + b) 0 with q | q | q
  · exfalso
    have : (a + b) * v ≤ (-1) * v := Int.mul_le_mul_of_nonneg_right (by omega) (by omega)
    omega
  · omega
  · exfalso
    have : 1 * v ≤ (a + b) * v := Int.mul_le_mul_of_nonneg_right (by omega) (by omega)
    omega
theorem ceil_0 {u v : Int} (hv : 1 ≤ v) (hu : u ≤ 0) : max 0 (-((-u) / v)) = 0 := by
  have := Int.ediv_nonneg (a := -u) (b := v) (by omega) (by omega); omega
theorem ceil_p {u v : Int} (hv : 1 ≤ v) (hu : 0 < u) : max 0 (-((-u) / v)) = (u + v - 1).tdiv v := by
  rw [ceil_t hv hu]
  have h3 := Int.ediv_mul_le (-u) (show v ≠ 0 by omega)
  rcases Int.lt_or_le ((-u) / v) 1 with q | q
  · omega
  · exfalso
    have : 1 * v ≤ ((-u) / v) * v := Int.mul_le_mul_of_nonneg_right q (by omega)
    omega
