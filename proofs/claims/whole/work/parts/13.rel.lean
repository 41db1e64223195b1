/-! bits -/
theorem sh_l : ∀ n, n < 32 → ((nI n &&& 31).toBitVec.smod 32).toNat = n := by decide +kernel
theorem ni_or (a b : Nat) : nI a ||| nI b = nI (a ||| b) := by
  apply Int32.toBitVec_inj.1
  show BitVec.ofNat 32 a ||| BitVec.ofNat 32 b = BitVec.ofNat 32 (a ||| b)
  apply BitVec.eq_of_getLsbD_eq
  intro i hi
  simp [hi]
theorem zI_shr {a b : Int} (h : 0 ≤ a ∧ a < 2147483648 ∧ 0 ≤ b ∧ b < 32) : zI a >>> (zI b &&& 31) = zI (a / 2 ^ b.toNat) := by
  obtain ⟨n, rfl⟩ : ∃ n : Nat, a = (n : Int) := ⟨a.toNat, by omega⟩
  obtain ⟨k, rfl⟩ : ∃ n : Nat, b = (n : Int) := ⟨b.toNat, by omega⟩
  have e : ((n : Int) / 2 ^ (k : Int).toNat) = ((n / 2 ^ k : Nat) : Int) := by simp
  rw [e, zI_nI, zI_nI, zI_nI]
  exact pk_shrN (by omega) _ k (sh_l k (by omega))
theorem zI_shl {a b : Int} (h : a = 1 ∧ 0 ≤ b ∧ b < 31) : zI a <<< (zI b &&& 31) = zI (a * 2 ^ b.toNat) := by
  obtain ⟨rfl, h⟩ := h
  obtain ⟨k, rfl⟩ : ∃ n : Nat, b = (n : Int) := ⟨b.toNat, by omega⟩
  have e : ((1 : Int) * 2 ^ (k : Int).toNat) = ((1 * 2 ^ k : Nat) : Int) := by simp
  rw [e, zI_nI, zI_nI, show zI 1 = nI 1 from rfl]
  have hk : 2 ^ k ≤ 2 ^ 31 := Nat.pow_le_pow_right (by omega) (by omega)
  exact pk_shlN _ k (sh_l k (by omega)) (by omega)
theorem zI_or {a b : Int} (h : 0 ≤ a ∧ 0 ≤ b) : zI a ||| zI b = zI ((a.toNat ||| b.toNat : Nat) : Int) := by
  obtain ⟨n, rfl⟩ : ∃ n : Nat, a = (n : Int) := ⟨a.toNat, by omega⟩
  obtain ⟨k, rfl⟩ : ∃ n : Nat, b = (n : Int) := ⟨b.toNat, by omega⟩
  rw [zI_nI, zI_nI, zI_nI]; exact ni_or n k
theorem zI_and1 {a : Int} (h : 0 ≤ a ∧ a < 2147483648) : zI a &&& zI 1 = zI (a % 2) := by
  obtain ⟨n, rfl⟩ : ∃ n : Nat, a = (n : Int) := ⟨a.toNat, by omega⟩
  have e : ((n : Int) % 2) = ((n % 2 ^ 1 : Nat) : Int) := by simp
  rw [e, zI_nI, zI_nI]
  exact pk_andN (by omega) 1 (by decide)
section ZBits
variable {p : Program} {l : Launch} {e : Env} {R : Room} {s : State} {m : MethodId} {args : Array Value} {below : List Frame} {meth : Method} {c : Code} {H : Heap} {locs : List Loc} {cells slots : Nat} {Q : State → Prop}
variable {cc : ByteArray} {pc : Nat} {ls : Array Slot} {rest : List Value} {D : va_G} {g : Nat → ClassId} {own : String} {nL : Nat}
theorem z_ishr (C : Cx D g own cc nL p s m args c) {a b : Int} (h : 0 ≤ a ∧ a < 2147483648 ∧ 0 ≤ b ∧ b < 32) (d : decode cc pc = .ok (.ishr, 1)) (k : W p l e R s m args below meth c H locs cells slots Q (F0 m (pc + 1) ls (.int (zI (a / 2 ^ b.toNat)) :: rest))) : W p l e R s m args below meth c H locs cells slots Q (F0 m pc ls (.int (zI b) :: .int (zI a) :: rest)) := lv_ishr C.1.1 C.1.2.1 d (by rw [zI_shr h]; exact k)
theorem z_ishl (C : Cx D g own cc nL p s m args c) {a b : Int} (h : a = 1 ∧ 0 ≤ b ∧ b < 31) (d : decode cc pc = .ok (.ishl, 1)) (k : W p l e R s m args below meth c H locs cells slots Q (F0 m (pc + 1) ls (.int (zI (a * 2 ^ b.toNat)) :: rest))) : W p l e R s m args below meth c H locs cells slots Q (F0 m pc ls (.int (zI b) :: .int (zI a) :: rest)) := lv_ishl C.1.1 C.1.2.1 d (by rw [zI_shl h]; exact k)
theorem z_ior (C : Cx D g own cc nL p s m args c) {a b : Int} (h : 0 ≤ a ∧ 0 ≤ b) (d : decode cc pc = .ok (.ior, 1)) (k : W p l e R s m args below meth c H locs cells slots Q (F0 m (pc + 1) ls (.int (zI ((a.toNat ||| b.toNat : Nat) : Int)) :: rest))) : W p l e R s m args below meth c H locs cells slots Q (F0 m pc ls (.int (zI b) :: .int (zI a) :: rest)) := lv_ior C.1.1 C.1.2.1 d (by rw [zI_or h]; exact k)
theorem z_iand1 (C : Cx D g own cc nL p s m args c) {a : Int} (h : 0 ≤ a ∧ a < 2147483648) (d : decode cc pc = .ok (.iand, 1)) (k : W p l e R s m args below meth c H locs cells slots Q (F0 m (pc + 1) ls (.int (zI (a % 2)) :: rest))) : W p l e R s m args below meth c H locs cells slots Q (F0 m pc ls (.int (zI 1) :: .int (zI a) :: rest)) := lv_iand C.1.1 C.1.2.1 d (by rw [zI_and1 h]; exact k)
end ZBits
theorem sh_b {a : Int} (k : Nat) (h : 0 ≤ a) : 0 ≤ a / 2 ^ k ∧ a / 2 ^ k ≤ a := by
  have h2 : (0 : Int) < 2 ^ k := Int.pow_pos (by omega)
  exact ⟨Int.ediv_nonneg h (by omega), Int.ediv_le_self _ h⟩
/-! the scratch: what a call may leave changed -/
def sc (a b : Nat) : Bool := a == 2 || a == 9 || a == 10 || a == 18 || a == 25 || a == 51 || a == 52 || (a == 44 && (b == 13 || b == 17 || b == 18))
def Fr (σ τ : Mem) : Prop := ∀ a b, sc a b = false → τ a b = σ a b
theorem Fr_rf {σ : Mem} : Fr σ σ := fun _ _ _ => rfl
theorem Fr_tr {σ τ υ : Mem} (h : Fr σ τ) (h2 : Fr τ υ) : Fr σ υ := fun a b hs => (h2 a b hs).trans (h a b hs)
theorem Fr_um {σ τ : Mem} {i j : Nat} {v : Int} (h : Fr σ τ) (hs : sc i j = true) : Fr σ (um τ i j v) := fun a b hf => by
  have : ¬ (a = i ∧ b = j) := fun e => by rw [e.1, e.2, hs] at hf; cases hf
  show (if a = i ∧ b = j then v else τ a b) = _
  rw [if_neg this]; exact h a b hf
theorem cr_sc {a : Nat} (h : cr a = true) (b : Nat) : sc a b = false := by
  unfold cr at h
  simp at h
  unfold sc
  simp
  omega
theorem Fr_co {σ τ : Mem} (h : Fr σ τ) : co τ = co σ := by
  funext a
  unfold co
  by_cases hc : cr a = true
  · rw [if_pos hc, if_pos hc]; funext b; exact h a b (cr_sc hc b)
  · rw [if_neg hc, if_neg hc]
theorem Fr_TI {σ τ : Mem} (h : Fr σ τ) (hI : TI σ) : TI τ := TI_co (Fr_co h) hI
/-- the model's runners and settings are the class's -/
def MR (σ : Mem) : Prop := (σ 44 6 = σ 1 2 ∧ σ 44 7 = σ 8 0 ∧ σ 44 8 = σ 8 1 ∧ σ 44 9 = σ 8 2 ∧ σ 44 10 = σ 8 3) ∧
  (∀ j : Nat, (j : Int) < σ 1 2 → σ 45 j = σ (26 + j) 2 ∧ σ 46 j = σ (26 + j) 3 ∧ σ 50 j = σ (26 + j) 4) ∧
  (∀ j r w : Nat, j < 6 → r < 6 → w < 2 → (σ 47 (2 * (6 * j + r) + w) = 1 ∧ σ (32 + j) (w * 6 + r) ≤ σ (38 + j) (w * 6 + r) ∧ σ 48 (2 * (6 * j + r) + w) = σ (32 + j) (w * 6 + r) ∧ σ 49 (2 * (6 * j + r) + w) = σ (38 + j) (w * 6 + r)) ∨ (σ 47 (2 * (6 * j + r) + w) = 0 ∧ σ (38 + j) (w * 6 + r) < σ (32 + j) (w * 6 + r)))
theorem Fr_MR {σ τ : Mem} (h : Fr σ τ) (hI : TI σ) (hR : MR σ) : MR τ := by
  have h1 := hI.1
  refine ⟨?_, fun j hj => ?_, fun j r w hj hr hw => ?_⟩
  · rw [h 44 6 rfl, h 44 7 rfl, h 44 8 rfl, h 44 9 rfl, h 44 10 rfl, h 1 2 rfl, h 8 0 rfl, h 8 1 rfl, h 8 2 rfl, h 8 3 rfl]; exact hR.1
  · rw [h 1 2 rfl] at hj
    have c := fun b => cr_sc (cr_run (j := j) (by omega)).1 b
    rw [h 45 j rfl, h 46 j rfl, h 50 j rfl, h _ 2 (c 2), h _ 3 (c 3), h _ 4 (c 4)]; exact hR.2.1 j hj
  · rw [h 47 _ rfl, h 48 _ rfl, h 49 _ rfl, h _ _ (cr_sc (cr_run hj).2.1 _), h _ _ (cr_sc (cr_run hj).2.2 _)]; exact hR.2.2 j r w hj hr hw
def soo (a b : Int) : Int := if a < 0 then b else if b < 0 ∨ a < b then a else b
theorem soo_mN {x y : Int} (hx : 0 ≤ x) (hy : 0 ≤ y) (hx2 : x ≤ 10000000) (hy2 : y ≤ 10000000) : soo (mN x) (mN y) = mN (min x y) := by
  unfold soo mN
  split <;> split <;> (try split) <;> (try split) <;> omega
theorem mN_b {x : Int} (h : 0 ≤ x ∧ x ≤ 10000000) : -6 ≤ mN x ∧ mN x ≤ 9999999 := by unfold mN; split <;> omega
theorem mN_neg {x : Int} (h : 0 ≤ x) : mN x < 0 ↔ 10000000 ≤ x := by unfold mN; split <;> omega
/-! a torso on the film covers the slit, between its first and its last column -/
theorem kScan_cov {T : Mem} {side col row place lane : Int} (hl : 0 ≤ lane) : ∀ (f : Nat) (k : Int), kScan T side col row place f k = 10 * lane + 1 → kCov T lane.toNat 0 row col place = true
  | 0, k, h => by unfold kScan at h; omega
  | f + 1, k, h => by
    unfold kScan at h
    split at h
    · rename_i hc
      rw [show lane = kLane T side k by omega]; exact hc
    · split at h
      · omega
      · exact kScan_cov hl f (k + 1) h
theorem kFilm_cov {T : Mem} {side col row lane : Int} (hl : 0 ≤ lane) (h : kFilm T side col row = 10 * lane + 1) : kCov T lane.toNat 0 row col (T 8 0 * row) = true := kScan_cov hl _ _ h
theorem cov_rng {T : Mem} {j : Nat} {what row col place : Int} (hv : 1 ≤ T (26 + j) 3) (hc : 0 ≤ col ∧ col ≤ 299) (h : kCov T j what row col place = true) : kFO T j what row place ≤ col ∧ col ≤ kLO T j what row place := by
  unfold kCov at h
  have h := of_decide_eq_true h
  generalize hV : T (26 + j) 3 = v at h hv
  have e1 : v * col = col * v := Int.mul_comm _ _
  have e2 : (-col) * v = -(col * v) := Int.neg_mul _ _
  have a1 : -col ≤ (-(place - T (38 + j) (what * 6 + row).toNat - T (26 + j) 2)) / v := (Int.le_ediv_iff_mul_le (by omega)).mpr (by omega)
  have a2 : col ≤ (place - T (32 + j) (what * 6 + row).toNat - T (26 + j) 2) / v := (Int.le_ediv_iff_mul_le (by omega)).mpr (by omega)
  unfold kFO kLO
  rw [hV]; omega
theorem rng_cov {T : Mem} {j : Nat} {what row col place : Int} (hv : 1 ≤ T (26 + j) 3) (h : kFO T j what row place ≤ col ∧ col ≤ kLO T j what row place) : kCov T j what row col place = true := by
  unfold kFO kLO at h
  unfold kCov
  apply decide_eq_true
  generalize hV : T (26 + j) 3 = v at h hv ⊢
  have e1 : v * col = col * v := Int.mul_comm _ _
  have e2 : (-col) * v = -(col * v) := Int.neg_mul _ _
  have a1 : -col ≤ (-(place - T (38 + j) (what * 6 + row).toNat - T (26 + j) 2)) / v := by omega
  have a2 : col ≤ (place - T (32 + j) (what * 6 + row).toNat - T (26 + j) 2) / v := by omega
  have b1 := (Int.le_ediv_iff_mul_le (show 0 < v by omega)).mp a1
  have b2 := (Int.le_ediv_iff_mul_le (show 0 < v by omega)).mp a2
  omega
/-! a search is the least place, or none -/
theorem kFSF_cases (T : Mem) (side lane row : Int) : ∀ (f : Nat) (c : Int), (kFSF T side lane row f c = 10000000 ∧ ∀ d, c ≤ d → d < c + f → ¬ kFilm T side d row = 10 * lane + 1) ∨ (c ≤ kFSF T side lane row f c ∧ kFSF T side lane row f c < c + f ∧ kFilm T side (kFSF T side lane row f c) row = 10 * lane + 1 ∧ ∀ d, c ≤ d → d < kFSF T side lane row f c → ¬ kFilm T side d row = 10 * lane + 1)
  | 0, c => by unfold kFSF; exact Or.inl ⟨rfl, fun d h1 h2 => by omega⟩
  | f + 1, c => by
    unfold kFSF
    by_cases h : kFilm T side c row = 10 * lane + 1
    · rw [if_pos h]; exact Or.inr ⟨by omega, by omega, h, fun d h1 h2 => by omega⟩
    · rw [if_neg h]
      rcases kFSF_cases T side lane row f (c + 1) with ⟨a, b⟩ | ⟨a, b, e, d0⟩
      · refine Or.inl ⟨a, fun d h1 h2 => ?_⟩
        by_cases e : d = c
        · rw [e]; exact h
        · exact b d (by omega) (by omega)
      · refine Or.inr ⟨by omega, by omega, e, fun d h1 h2 => ?_⟩
        by_cases e : d = c
        · rw [e]; exact h
        · exact d0 d (by omega) h2
theorem kFS_all {T : Mem} (hI : TI T) {side lane row : Int} (hl : 0 ≤ lane ∧ lane ≤ 5) (hr : 0 ≤ row ∧ row ≤ 5) : kFSF T side lane row 300 0 = kFS T side lane row := by
  have hm := mul_l hI.2.1.1 hr
  have hb := hI.2.2.1 lane.toNat (by omega)
  have hfo := kFO_b hI (j := lane.toNat) (by omega) (what := 0) (row := row) (place := T 8 0 * row) (by omega) (by omega)
  have hlo := kLO_b hI (j := lane.toNat) (by omega) (what := 0) (row := row) (place := T 8 0 * row) (by omega) (by omega)
  have hin : ∀ d, 0 ≤ d → d ≤ 299 → kFilm T side d row = 10 * lane + 1 → kFO T lane.toNat 0 row (T 8 0 * row) ≤ d ∧ d ≤ kLO T lane.toNat 0 row (T 8 0 * row) := fun d h1 h2 h => cov_rng hb.2.1.1 ⟨h1, h2⟩ (kFilm_cov hl.1 h)
  unfold kFS
  generalize hFO : kFO T lane.toNat 0 row (T 8 0 * row) = fo at *
  generalize hLO : kLO T lane.toNat 0 row (T 8 0 * row) = lo at *
  rcases kFSF_cases T side lane row 300 0 with ⟨a, b⟩ | ⟨a1, a2, a3, a4⟩ <;> rcases kFSF_cases T side lane row (lo + 1 - fo).toNat fo with ⟨c, d⟩ | ⟨c1, c2, c3, c4⟩
  · rw [a, c]
  · exact absurd c3 (b _ (by omega) (by omega))
  · have := hin _ (by omega) (by omega) a3
    exact absurd a3 (d _ (by omega) (by omega))
  · have h1 := hin _ (by omega) (by omega) a3
    generalize kFSF T side lane row 300 0 = x at *
    generalize kFSF T side lane row (lo + 1 - fo).toNat fo = y at *
    rcases Int.lt_trichotomy x y with q | q | q
    · exact absurd a3 (c4 x (by omega) q)
    · exact q
    · exact absurd c3 (a4 y (by omega) q)
/-- what the model's table of first columns holds -/
def FA (σ : Mem) : Prop := ∀ s y r : Nat, s < 2 → y < 6 → r < 6 → σ 51 (6 * (6 * s + y) + r) = mN (kFS (co σ) s r y)
def kRw (T : Mem) (side lane rows : Int) : Nat → Int
  | 0 => 10000000
  | r + 1 => if rows / 2 ^ r % 2 = 1 then min (kRw T side lane rows r) (kFS T side lane r) else kRw T side lane rows r
theorem kRw_b {T : Mem} (hI : TI T) {side lane rows : Int} (hl : 0 ≤ lane ∧ lane ≤ 5) : ∀ r, r ≤ 6 → 0 ≤ kRw T side lane rows r ∧ kRw T side lane rows r ≤ 10000000
  | 0, _ => by unfold kRw; omega
  | r + 1, h => by
    have ih := kRw_b hI hl (side := side) (rows := rows) r (by omega)
    have := kFS_b hI (side := side) hl (row := (r : Int)) (by omega)
    unfold kRw; split <;> omega
theorem kRw_63 {T : Mem} {side lane : Int} : ∀ r, r ≤ 6 → kRw T side lane 63 r = kHrF T side lane r
  | 0, _ => rfl
  | r + 1, h => by
    have e : ∀ k, k < 6 → (63 : Int) / 2 ^ k % 2 = 1 := by decide
    rw [kRw, kHrF, if_pos (e r (by omega)), kRw_63 r (by omega)]
theorem kCrF_has {T : Mem} (hI : TI T) {j : Nat} (hj : j < 6) {lean : Int} (hl : -3 ≤ lean ∧ lean ≤ 3) : ∀ r, r ≤ 6 → (kCrF T j lean r < 10000000 ↔ kHasF T j r = true)
  | 0, _ => by unfold kCrF kHasF; simp
  | r + 1, h => by
    have ih := kCrF_has hI hj hl r (by omega)
    have hb := kCrF_b hI hj hl r (by omega)
    have hm := mul_l hl (b := (r : Int)) (by omega)
    have hf := kFO_b hI hj (what := 0) (row := r) (place := lean * r) (by omega) (by omega)
    unfold kCrF kHasF
    by_cases c : T (32 + j) r ≤ T (38 + j) r
    · rw [if_pos c]; simp [c]; omega
    · rw [if_neg c, ih]; simp [c]
theorem kCr_has {T : Mem} (hI : TI T) {j : Nat} (hj : j < 6) {lean : Int} (hl : -3 ≤ lean ∧ lean ≤ 3) : kCr T j lean < 10000000 ↔ kHas T j = true := kCrF_has hI hj hl 6 (Nat.le_refl 6)
theorem mN_c (x : Int) : (mN x = -6 ∧ 10000000 ≤ x) ∨ (mN x = x ∧ x < 10000000) := by unfold mN; split <;> omega
