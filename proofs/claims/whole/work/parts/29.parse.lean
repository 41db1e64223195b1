/-! a text without a fault, read by the class and by the model -/
theorem tStep_c {st c : Int} (hs : 0 ≤ st ∧ st ≤ 7) (h : 0 ≤ tStep st c) : (c = 59 → 4 ≤ st ∧ tStep st c = 0) ∧ (dig c → 2 ≤ st ∧ 4 ≤ tStep st c ∧ (st ≤ 3 → tStep st c = 4) ∧ (4 ≤ st → tStep st c = st + 1)) ∧ (c = 45 → st = 2 ∧ tStep st c = 3) ∧ (isH c → st = 1 ∧ tStep st c = 2) ∧ (¬ (c = 59 ∨ dig c ∨ c = 45 ∨ isH c) → st = 0 ∧ isF c ∧ tStep st c = 1) := by
  unfold tStep at h ⊢
  split at h
  · split at h
    · rename_i h1 h2; rw [if_pos h1, if_pos h2]; omega
    · omega
  · split at h
    · split at h
      · rename_i h1 h2 h3; rw [if_neg h1, if_pos h2, if_pos h3]; omega
      · omega
    · split at h
      · split at h
        · rename_i h1 h2 h3 h4; rw [if_neg h1, if_neg h2, if_pos h3, if_pos h4]; omega
        · split at h
          · rename_i h1 h2 h3 h4 h5; rw [if_neg h1, if_neg h2, if_pos h3, if_neg h4, if_pos h5]; omega
          · omega
      · split at h
        · split at h
          · rename_i h1 h2 h3 h4 h5; rw [if_neg h1, if_neg h2, if_neg h3, if_pos h4, if_pos h5]; omega
          · omega
        · split at h
          · rename_i h1 h2 h3 h4 h5; rw [if_neg h1, if_neg h2, if_neg h3, if_neg h4, if_pos h5]; omega
          · split at h
            · rename_i h1 h2 h3 h4 h5 h6; rw [if_neg h1, if_neg h2, if_neg h3, if_neg h4, if_neg h5, if_pos h6]; omega
            · omega
def pw (st : Int) : Int := if st ≤ 3 then 0 else if st = 4 then 9 else if st = 5 then 99 else if st = 6 then 999 else 9999
def okL (P : Mem) (l : Nat) : Prop := isF (P 19 l) ∧ isH (P 20 l) ∧ (P 21 l = 1 ∨ P 21 l = -1) ∧ (0 ≤ P 22 l ∧ P 22 l ≤ 9999)
def PI (i : Nat) (st : Int) (P : Mem) : Prop := (0 ≤ st ∧ st ≤ 7) ∧ 0 ≤ P 5 4 ∧ (st = 0 → 4 * P 5 4 ≤ i) ∧ (1 ≤ st → 1 ≤ P 5 4 ∧ 4 * (P 5 4 - 1) + min st 3 ≤ i) ∧
  (∀ l : Nat, (l : Int) < (if st = 0 then P 5 4 else P 5 4 - 1) → okL P l) ∧
  (1 ≤ st → isF (P 19 (P 5 4 - 1).toNat) ∧ (2 ≤ st → isH (P 20 (P 5 4 - 1).toNat)) ∧ (P 21 (P 5 4 - 1).toNat = 1 ∨ P 21 (P 5 4 - 1).toNat = -1) ∧ (st ≤ 2 → P 21 (P 5 4 - 1).toNat = 1) ∧ (0 ≤ P 22 (P 5 4 - 1).toNat ∧ P 22 (P 5 4 - 1).toNat ≤ pw st))
theorem tk_F {P : Mem} {c : Int} (h : isF c) (h8 : P 5 4 < 8) : tk P c = um (um (um (um P 19 (P 5 4).toNat c) 21 (P 5 4).toNat 1) 22 (P 5 4).toNat 0) 5 4 (P 5 4 + 1) := by unfold tk; rw [if_pos h, if_neg (by omega)]
theorem tk_H {P : Mem} {c : Int} (h : isH c) (h1 : 1 ≤ P 5 4) : tk P c = um P 20 (P 5 4 - 1).toNat c := by unfold tk; rw [if_neg (by omega), if_neg (by omega), if_pos h]
theorem tk_M {P : Mem} {c : Int} (h : c = 45) (h1 : 1 ≤ P 5 4) : tk P c = um P 21 (P 5 4 - 1).toNat (-1) := by unfold tk; rw [if_neg (by omega), if_neg (by omega), if_neg (by omega), if_pos h]
theorem tk_D {P : Mem} {c : Int} (h : dig c) (h1 : 1 ≤ P 5 4) : tk P c = um P 22 (P 5 4 - 1).toNat (10 * P 22 (P 5 4 - 1).toNat + c - 48) := by unfold tk; rw [if_neg (by omega), if_neg (by omega), if_neg (by omega), if_neg (by omega), if_pos h]
theorem tk_S {P : Mem} {c : Int} (h : c = 59) (h1 : 1 ≤ P 5 4) : tk P c = P := by unfold tk; rw [if_neg (by omega), if_neg (by omega), if_neg (by omega), if_neg (by omega), if_neg (by omega)]
theorem pw_b (st : Int) : 0 ≤ pw st ∧ pw st ≤ 9999 := by unfold pw; split <;> (try split) <;> (try split) <;> (try split) <;> omega
theorem pw_n {st x c : Int} (h : 4 ≤ st ∧ st < 7) (hx : 0 ≤ x ∧ x ≤ pw st) (hc : dig c) : 0 ≤ 10 * x + c - 48 ∧ 10 * x + c - 48 ≤ pw (st + 1) := by
  have h4 : st = 4 ∨ st = 5 ∨ st = 6 := by omega
  rcases h4 with rfl | rfl | rfl <;> simp [pw] at hx ⊢ <;> omega
theorem pw_4 {st x c : Int} (h : st ≤ 3) (hx : 0 ≤ x ∧ x ≤ pw st) (hc : dig c) : 0 ≤ 10 * x + c - 48 ∧ 10 * x + c - 48 ≤ pw 4 := by
  have : pw st = 0 := by unfold pw; rw [if_pos h]
  rw [this] at hx
  show _ ∧ _ ≤ (9 : Int)
  omega
theorem PI_step {i : Nat} {st c : Int} {P : Mem} (h : PI i st P) (hi : i ≤ 29) (hc : 0 ≤ tStep st c) : PI (i + 1) (tStep st c) (tk P c) := by
  obtain ⟨hs, h0, hz, hp, ha, hb⟩ := h
  have hk := tStep_c hs hc
  have hbb := tStep_b (c := c) hs
  generalize hq : tStep st c = q at *
  by_cases c1 : c = 59
  · obtain ⟨h4, rfl⟩ := hk.1 c1
    have hp := hp (by omega); have hb := hb (by omega)
    rw [tk_S c1 hp.1]
    refine ⟨by omega, h0, fun _ => by omega, fun h => by omega, fun l hl => ?_, fun h => by omega⟩
    rw [if_pos rfl] at hl
    by_cases e : (l : Int) < P 5 4 - 1
    · exact ha l (by rw [if_neg (by omega)]; exact e)
    · have el : l = (P 5 4 - 1).toNat := by omega
      have hpw := pw_b st
      rw [el]; exact ⟨hb.1, hb.2.1 (by omega), hb.2.2.1, by omega⟩
  · by_cases c2 : dig c
    · have hk2 := hk.2.1 c2
      have hp := hp (by omega); have hb := hb (by omega)
      rw [tk_D c2 hp.1]
      have e54 : um P 22 (P 5 4 - 1).toNat (10 * P 22 (P 5 4 - 1).toNat + c - 48) 5 4 = P 5 4 := by simp [um]
      have e19 : ∀ l, um P 22 (P 5 4 - 1).toNat (10 * P 22 (P 5 4 - 1).toNat + c - 48) 19 l = P 19 l := fun l => by simp [um]
      have e20 : ∀ l, um P 22 (P 5 4 - 1).toNat (10 * P 22 (P 5 4 - 1).toNat + c - 48) 20 l = P 20 l := fun l => by simp [um]
      have e21 : ∀ l, um P 22 (P 5 4 - 1).toNat (10 * P 22 (P 5 4 - 1).toNat + c - 48) 21 l = P 21 l := fun l => by simp [um]
      have e22 : um P 22 (P 5 4 - 1).toNat (10 * P 22 (P 5 4 - 1).toNat + c - 48) 22 (P 5 4 - 1).toNat = 10 * P 22 (P 5 4 - 1).toNat + c - 48 := by simp [um]
      unfold PI okL
      simp only [e54, e19, e20, e21, e22]
      refine ⟨by omega, h0, fun _ => by omega, fun h => by omega, fun l hl => ?_, fun _ => ⟨hb.1, fun _ => hb.2.1 (by omega), hb.2.2.1, fun _ => by omega, ?_⟩⟩
      · rw [if_neg (by omega)] at hl
        have := ha l (by rw [if_neg (by omega)]; exact hl)
        rw [show um P 22 (P 5 4 - 1).toNat (10 * P 22 (P 5 4 - 1).toNat + c - 48) 22 l = P 22 l by simp [um]; omega]
        exact this
      · rcases Int.lt_or_le st 4 with q4 | q4
        · rw [hk2.2.2.1 (by omega)]; exact pw_4 (by omega) hb.2.2.2.2 c2
        · rw [hk2.2.2.2 q4]; exact pw_n (by omega) hb.2.2.2.2 c2
    · by_cases c3 : c = 45
      · obtain ⟨rfl, rfl⟩ := hk.2.2.1 c3
        have hp := hp (by omega); have hb := hb (by omega)
        rw [tk_M c3 hp.1]
        unfold PI okL
        have e54 : um P 21 (P 5 4 - 1).toNat (-1) 5 4 = P 5 4 := by simp [um]
        have e19 : ∀ l, um P 21 (P 5 4 - 1).toNat (-1) 19 l = P 19 l := fun l => by simp [um]
        have e20 : ∀ l, um P 21 (P 5 4 - 1).toNat (-1) 20 l = P 20 l := fun l => by simp [um]
        have e22 : ∀ l, um P 21 (P 5 4 - 1).toNat (-1) 22 l = P 22 l := fun l => by simp [um]
        have e21 : um P 21 (P 5 4 - 1).toNat (-1) 21 (P 5 4 - 1).toNat = -1 := by simp [um]
        simp only [e54, e19, e20, e21, e22]
        refine ⟨by omega, h0, fun _ => by omega, fun h => by omega, fun l hl => ?_, fun _ => ⟨hb.1, fun _ => hb.2.1 (by omega), by simp, fun _ => by omega, hb.2.2.2.2⟩⟩
        rw [if_neg (by omega)] at hl
        have := ha l (by rw [if_neg (by omega)]; exact hl)
        rw [show um P 21 (P 5 4 - 1).toNat (-1) 21 l = P 21 l by simp [um]; omega]
        exact this
      · by_cases c4 : isH c
        · obtain ⟨rfl, rfl⟩ := hk.2.2.2.1 c4
          have hp := hp (by omega); have hb := hb (by omega)
          rw [tk_H c4 hp.1]
          unfold PI okL
          have e54 : um P 20 (P 5 4 - 1).toNat c 5 4 = P 5 4 := by simp [um]
          have e19 : ∀ l, um P 20 (P 5 4 - 1).toNat c 19 l = P 19 l := fun l => by simp [um]
          have e21 : ∀ l, um P 20 (P 5 4 - 1).toNat c 21 l = P 21 l := fun l => by simp [um]
          have e22 : ∀ l, um P 20 (P 5 4 - 1).toNat c 22 l = P 22 l := fun l => by simp [um]
          have e20 : um P 20 (P 5 4 - 1).toNat c 20 (P 5 4 - 1).toNat = c := by simp [um]
          simp only [e54, e19, e20, e21, e22]
          refine ⟨by omega, h0, fun _ => by omega, fun h => by omega, fun l hl => ?_, fun _ => ⟨hb.1, fun _ => c4, hb.2.2.1, fun _ => hb.2.2.2.1 (by omega), hb.2.2.2.2⟩⟩
          rw [if_neg (by omega)] at hl
          have := ha l (by rw [if_neg (by omega)]; exact hl)
          rw [show um P 20 (P 5 4 - 1).toNat c 20 l = P 20 l by simp [um]; omega]
          exact this
        · obtain ⟨rfl, c5, rfl⟩ := hk.2.2.2.2 (by omega)
          have hz := hz rfl
          rw [tk_F c5 (by omega)]
          unfold PI okL
          have e54 : um (um (um (um P 19 (P 5 4).toNat c) 21 (P 5 4).toNat 1) 22 (P 5 4).toNat 0) 5 4 (P 5 4 + 1) 5 4 = P 5 4 + 1 := by simp [um]
          simp only [e54]
          rw [show (P 5 4 + 1 - 1).toNat = (P 5 4).toNat by omega]
          refine ⟨by omega, by omega, fun _ => by omega, fun h => by omega, fun l hl => ?_, fun _ => ⟨by simp [um]; exact c5, fun _ => by omega, Or.inl (by simp [um]), fun _ => by simp [um], by simp [um, pw]⟩⟩
          rw [if_neg (by omega)] at hl
          have := ha l (by rw [if_pos rfl]; omega)
          have hne : l ≠ (P 5 4).toNat := by omega
          simp [um, hne]
          exact this
theorem PI_all {β : Mem} {s : Nat → Int} {n : Nat} (hn : n ≤ 30) (hs : ∀ j, j ≤ n → 0 ≤ tSt s j ∧ tSt s j ≤ 7) : ∀ i, i ≤ n → PI i (tSt s i) (rdG β s i)
  | 0, _ => by
    rw [rdG, tSt]
    refine ⟨by omega, by simp [um], fun _ => by simp [um], fun h => by omega, fun l hl => ?_, fun h => by omega⟩
    rw [if_pos rfl] at hl
    simp [um] at hl
    omega
  | i + 1, h => by
    rw [rdG, tSt]
    exact PI_step (PI_all hn hs i (by omega)) (by omega) (hs (i + 1) h).1
/-- the model beside it, at a stage -/
def dnL (P τ : Mem) (l : Nat) : Prop := τ 57 l = P 19 l ∧ τ 58 l = P 20 l ∧ τ 59 l = P 21 l * P 22 l
def MP (P : Mem) (st x1 x2 : Int) (τ : Mem) : Prop := 0 ≤ τ 44 24 ∧ (st = 0 → P 5 4 = τ 44 24 ∧ x1 = 0 ∧ x2 = 0) ∧ (1 ≤ st → P 5 4 = τ 44 24 + 1 ∧ τ 57 (τ 44 24).toNat = P 19 (τ 44 24).toNat ∧ (2 ≤ st → τ 58 (τ 44 24).toNat = P 20 (τ 44 24).toNat) ∧ x1 = P 22 (τ 44 24).toNat ∧ P 21 (τ 44 24).toNat = (if x2 = 0 then 1 else -1)) ∧ (0 ≤ x2 ∧ x2 ≤ 1) ∧ ∀ l : Nat, (l : Int) < τ 44 24 → dnL P τ l
def MD (P τ : Mem) : Prop := τ 44 24 = P 5 4 ∧ ∀ l : Nat, (l : Int) < P 5 4 → dnL P τ l
theorem MP_semi {P τ : Mem} {st x1 x2 v : Int} (h : MP P st x1 x2 τ) (h4 : 4 ≤ st) (hv : v = if x2 = 0 then x1 else -x1) : MD P (um (um τ 59 (τ 44 24).toNat v) 44 24 (τ 44 24 + 1)) := by
  obtain ⟨hL, -, h1, hx, hd⟩ := h
  obtain ⟨a1, a2, a3, a4, a5⟩ := h1 (by omega)
  refine ⟨by simp [um]; omega, fun l hl => ?_⟩
  unfold dnL
  by_cases e : l = (τ 44 24).toNat
  · subst e
    simp [um]
    refine ⟨a2, a3 (by omega), ?_⟩
    rw [a5, hv, a4]; split <;> omega
  · have := hd l (by omega)
    simp [um, e]
    exact this
theorem MD_MP {P τ : Mem} (h : MD P τ) (hP : 0 ≤ P 5 4) : MP P 0 0 0 τ := ⟨by rw [h.1]; exact hP, fun _ => ⟨h.1.symm, rfl, rfl⟩, fun h => by omega, by omega, fun l hl => h.2 l (by rw [← h.1]; exact hl)⟩
theorem MP_dig {P τ : Mem} {st x1 x2 c q : Int} (h : MP P st x1 x2 τ) (h2 : 2 ≤ st) (hc : dig c) (hq : 4 ≤ q) : MP (tk P c) q (10 * x1 + c - 48) x2 τ := by
  obtain ⟨hL, -, h1, hx, hd⟩ := h
  obtain ⟨a1, a2, a3, a4, a5⟩ := h1 (by omega)
  rw [tk_D hc (by omega), show (P 5 4 - 1).toNat = (τ 44 24).toNat by omega]
  refine ⟨hL, fun h => by omega, fun _ => ⟨by simp [um]; exact a1, by simp [um]; exact a2, fun _ => by simp [um]; exact a3 h2, by simp [um]; rw [a4], by simp [um]; exact a5⟩, hx, fun l hl => ?_⟩
  have := hd l hl
  have hne : l ≠ (τ 44 24).toNat := by omega
  unfold dnL; simp [um, hne]; exact this
theorem MP_min {P τ : Mem} {st x1 x2 c : Int} (h : MP P st x1 x2 τ) (h2 : st = 2) (hc : c = 45) : MP (tk P c) 3 x1 1 τ := by
  obtain ⟨hL, -, h1, hx, hd⟩ := h
  obtain ⟨a1, a2, a3, a4, a5⟩ := h1 (by omega)
  rw [tk_M hc (by omega), show (P 5 4 - 1).toNat = (τ 44 24).toNat by omega]
  refine ⟨hL, fun h => by omega, fun _ => ⟨by simp [um]; exact a1, by simp [um]; exact a2, fun _ => by simp [um]; exact a3 (by omega), by simp [um]; exact a4, by simp [um]⟩, by omega, fun l hl => ?_⟩
  have := hd l hl
  have hne : l ≠ (τ 44 24).toNat := by omega
  unfold dnL; simp [um, hne]; exact this
theorem MP_how {P τ : Mem} {st x1 x2 c : Int} (h : MP P st x1 x2 τ) (h2 : st = 1) (hc : isH c) : MP (tk P c) 2 x1 x2 (um τ 58 (τ 44 24).toNat c) := by
  obtain ⟨hL, -, h1, hx, hd⟩ := h
  obtain ⟨a1, a2, a3, a4, a5⟩ := h1 (by omega)
  rw [tk_H hc (by omega), show (P 5 4 - 1).toNat = (τ 44 24).toNat by omega]
  refine ⟨by simp [um]; exact hL, fun h => by omega, fun _ => ⟨by simp [um]; exact a1, by simp [um]; exact a2, fun _ => by simp [um], by simp [um]; exact a4, by simp [um]; exact a5⟩, hx, fun l hl => ?_⟩
  have hl : (l : Int) < τ 44 24 := by simpa [um] using hl
  have := hd l hl
  have hne : l ≠ (τ 44 24).toNat := by omega
  unfold dnL; simp [um, hne]; exact this
theorem MP_fact {P τ : Mem} {st x1 x2 c : Int} (h : MP P st x1 x2 τ) (h2 : st = 0) (hc : isF c) (h8 : P 5 4 < 8) : MP (tk P c) 1 x1 x2 (um τ 57 (τ 44 24).toNat c) := by
  obtain ⟨hL, h0, -, hx, hd⟩ := h
  obtain ⟨a1, rfl, rfl⟩ := h0 h2
  rw [tk_F hc h8, a1]
  refine ⟨by simp [um]; exact hL, fun h => by omega, fun _ => ⟨by simp [um], by simp [um], fun h => by omega, by simp [um], by simp [um]⟩, by omega, fun l hl => ?_⟩
  have hl : (l : Int) < τ 44 24 := by simpa [um] using hl
  have := hd l hl
  have hne : l ≠ (τ 44 24).toNat := by omega
  unfold dnL; simp [um, hne]; exact this
theorem tFF_neg {s : Nat → Int} : ∀ (f : Nat) (i st : Int), 0 ≤ i → tFF s f i st < 0 → tFF s f i st = -6
  | 0, i, st, h, h2 => by unfold tFF at h2 ⊢; split <;> (try rfl); rename_i h3; rw [if_neg h3] at h2; omega
  | f + 1, i, st, h, h2 => by
    unfold tFF at h2 ⊢
    split
    · rename_i h3; rw [if_pos h3] at h2; omega
    · rename_i h3; rw [if_neg h3] at h2; exact tFF_neg f _ _ (by omega) h2
