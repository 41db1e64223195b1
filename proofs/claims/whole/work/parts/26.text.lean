/-! rule texts: the automaton, the reading -/
abbrev isF (c : Int) : Prop := c = 116 ∨ c = 119 ∨ c = 104 ∨ c = 101
abbrev isH (c : Int) : Prop := c = 60 ∨ c = 62 ∨ c = 61
abbrev dig (c : Int) : Prop := 48 ≤ c ∧ c ≤ 57
def tStep (st c : Int) : Int := if st = 0 then (if isF c then 1 else -1) else if st = 1 then (if isH c then 2 else -1) else if st = 2 then (if c = 45 then 3 else if dig c then 4 else -1) else if st = 3 then (if dig c then 4 else -1) else (if c = 59 then 0 else if dig c ∧ st < 7 then st + 1 else -1)
theorem tStep_b {st c : Int} (h : 0 ≤ st ∧ st ≤ 7) : -1 ≤ tStep st c ∧ tStep st c ≤ 7 := by
  unfold tStep
  split
  · split <;> omega
  · split
    · split <;> omega
    · split
      · split
        · omega
        · split <;> omega
      · split
        · split <;> omega
        · split
          · omega
          · split <;> omega
def tFF (s : Nat → Int) : Nat → Int → Int → Int
  | 0, i, st => if 4 ≤ st then -6 else i
  | f + 1, i, st => if tStep st (s i.toNat) = -1 then i else tFF s f (i + 1) (tStep st (s i.toNat))
def kFault (T : Mem) : Int := tFF (T 13) (T 4 1).toNat 0 0
def tSt (s : Nat → Int) : Nat → Int
  | 0 => 0
  | k + 1 => tStep (tSt s k) (s k)
theorem tFF_ok {s : Nat → Int} : ∀ (f k : Nat), 0 ≤ tSt s k ∧ tSt s k ≤ 7 → tFF s f k (tSt s k) = -6 → (∀ j, k ≤ j → j ≤ k + f → 0 ≤ tSt s j ∧ tSt s j ≤ 7) ∧ 4 ≤ tSt s (k + f)
  | 0, k, h0, h => by
    unfold tFF at h
    split at h
    · exact ⟨fun j h1 h2 => by rw [show j = k by omega]; exact h0, by assumption⟩
    · omega
  | f + 1, k, h0, h => by
    unfold tFF at h
    rw [Int.toNat_natCast] at h
    split at h
    · omega
    · rename_i hn
      have e : tStep (tSt s k) (s k) = tSt s (k + 1) := rfl
      have hb := tStep_b (c := s k) h0
      rw [e] at h hn hb
      have ih := tFF_ok (s := s) f (k + 1) (by omega) (by simpa using h)
      rw [show k + (f + 1) = k + 1 + f by omega]
      refine ⟨fun j h1 h2 => ?_, ih.2⟩
      by_cases q : j = k
      · rw [q]; exact h0
      · exact ih.1 j (by omega) (by omega)
theorem tFF_cong {s s' : Nat → Int} {n : Int} (h : ∀ i : Nat, (i : Int) < n → s i = s' i) : ∀ (f : Nat) (i st : Int), 0 ≤ i → i + f ≤ n → tFF s f i st = tFF s' f i st
  | 0, _, _, _, _ => rfl
  | f + 1, i, st, h0, h1 => by rw [tFF, tFF, h i.toNat (by omega), tFF_cong h f (i + 1) _ (by omega) (by omega)]
def SI (σ : Mem) : Prop := (0 ≤ σ 4 1 ∧ σ 4 1 ≤ 30) ∧ ∀ i : Nat, (i : Int) < σ 4 1 → 33 ≤ σ 13 i ∧ σ 13 i ≤ 126
def MS (σ : Mem) : Prop := σ 44 20 = σ 4 1 ∧ ∀ i : Nat, (i : Int) < σ 4 1 → σ 56 i = σ 13 i
theorem tFF_b {s : Nat → Int} : ∀ (f : Nat) (i st : Int), 0 ≤ i → -6 ≤ tFF s f i st ∧ tFF s f i st ≤ i + f
  | 0, i, st, h => by unfold tFF; split <;> omega
  | f + 1, i, st, h => by
    have := tFF_b (s := s) f (i + 1) (tStep st (s i.toNat)) (by omega)
    unfold tFF; split <;> omega
/-- one sign taken by the class's lines -/
def tk (τ : Mem) (c : Int) : Mem := if isF c then (if 8 ≤ τ 5 4 then τ else um (um (um (um τ 19 (τ 5 4).toNat c) 21 (τ 5 4).toNat 1) 22 (τ 5 4).toNat 0) 5 4 (τ 5 4 + 1)) else if τ 5 4 - 1 < 0 then τ else if isH c then um τ 20 (τ 5 4 - 1).toNat c else if c = 45 then um τ 21 (τ 5 4 - 1).toNat (-1) else if dig c then um τ 22 (τ 5 4 - 1).toNat (10 * τ 22 (τ 5 4 - 1).toNat + c - 48) else τ
def rdG (β : Mem) (s : Nat → Int) : Nat → Mem
  | 0 => um β 5 4 0
  | k + 1 => tk (rdG β s k) (s k)
theorem rdG_cong {β : Mem} {s s' : Nat → Int} : ∀ n : Nat, (∀ i, i < n → s i = s' i) → rdG β s n = rdG β s' n
  | 0, _ => rfl
  | n + 1, h => by rw [rdG, rdG, h n (by omega), rdG_cong n (fun i hi => h i (by omega))]
theorem tk_b {τ : Mem} {c : Int} (h : 0 ≤ τ 5 4 ∧ τ 5 4 ≤ 8) : 0 ≤ tk τ c 5 4 ∧ tk τ c 5 4 ≤ 8 := by
  unfold tk
  split
  · split
    · exact h
    · simp [um]; omega
  · split
    · exact h
    · split
      · simp [um]; exact h
      · split
        · simp [um]; exact h
        · split
          · simp [um]; exact h
          · exact h
theorem rdG_b {β : Mem} {s : Nat → Int} : ∀ n : Nat, 0 ≤ rdG β s n 5 4 ∧ rdG β s n 5 4 ≤ 8
  | 0 => by rw [rdG]; simp [um]
  | n + 1 => by rw [rdG]; exact tk_b (rdG_b n)
theorem tk_row {τ : Mem} {c : Int} {a b : Nat} (h : ¬ (a = 5 ∧ b = 4) ∧ a ≠ 19 ∧ a ≠ 20 ∧ a ≠ 21 ∧ a ≠ 22) : tk τ c a b = τ a b := by
  obtain ⟨h0, h1, h2, h3, h4⟩ := h
  unfold tk
  split
  · split
    · rfl
    · simp [um, h0, h1, h3, h4]
  · split
    · rfl
    · split
      · simp [um, h2]
      · split
        · simp [um, h3]
        · split
          · simp [um, h4]
          · rfl
theorem rdG_row {β : Mem} {s : Nat → Int} {a b : Nat} (h : ¬ (a = 5 ∧ b = 4) ∧ a ≠ 19 ∧ a ≠ 20 ∧ a ≠ 21 ∧ a ≠ 22) : ∀ n : Nat, rdG β s n a b = β a b
  | 0 => by rw [rdG]; unfold um; rw [if_neg h.1]
  | n + 1 => by rw [rdG, tk_row h]; exact rdG_row h n
/-! records -/
def kCh (f t w h e : Int) : Int := if f = 116 then t else if f = 119 then w else if f = 104 then h else e
def kSo (T : Mem) (l : Nat) (v : Int) : Bool := if T 20 l = 60 then decide (v < T 21 l * T 22 l) else if T 20 l = 62 then decide (T 21 l * T 22 l < v) else decide (v = T 21 l * T 22 l)
def kRecF (T : Mem) (t w h e : Int) : Nat → Int → Int
  | 0, _ => -6
  | f + 1, l => if kSo T l.toNat (kCh (T 19 l.toNat) t w h e) = true then kRecF T t w h e f (l + 1) else l
abbrev num4 (a b c d : Int) : Prop := (-9999 ≤ a ∧ a ≤ 9999) ∧ (-9999 ≤ b ∧ b ≤ 9999) ∧ (-9999 ≤ c ∧ c ≤ 9999) ∧ (-9999 ≤ d ∧ d ≤ 9999)
def kRec (T : Mem) (t w h e : Int) : Int := if ¬ num4 t w h e then -2 else if T 5 4 = 0 then -3 else kRecF T t w h e (T 5 4).toNat 0
def LI (σ : Mem) : Prop := (0 ≤ σ 5 4 ∧ σ 5 4 ≤ 8) ∧ ∀ l : Nat, (l : Int) < σ 5 4 → isF (σ 19 l) ∧ isH (σ 20 l) ∧ (σ 21 l = 1 ∨ σ 21 l = -1) ∧ (0 ≤ σ 22 l ∧ σ 22 l ≤ 9999)
def ML (σ : Mem) : Prop := σ 44 24 = σ 5 4 ∧ ∀ l : Nat, (l : Int) < σ 5 4 → σ 57 l = σ 19 l ∧ σ 58 l = σ 20 l ∧ σ 59 l = σ 21 l * σ 22 l
theorem lim_b {σ : Mem} (h : LI σ) {l : Nat} (hl : (l : Int) < σ 5 4) : -9999 ≤ σ 21 l * σ 22 l ∧ σ 21 l * σ 22 l ≤ 9999 := by
  have := h.2 l hl
  rcases this.2.2.1 with e | e <;> rw [e] <;> omega
theorem kCh_b {f t w h e : Int} (hn : num4 t w h e) : -9999 ≤ kCh f t w h e ∧ kCh f t w h e ≤ 9999 := by
  unfold kCh; split
  · omega
  · split
    · omega
    · split <;> omega
