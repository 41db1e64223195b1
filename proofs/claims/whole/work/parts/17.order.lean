/-! orders: an insertion, by keys -/
def kKey (T : Mem) (md lane : Int) : Int := kJn T lane - (if md = 0 then 0 else kHe T lane)
def kpos (k : Nat → Int) (key : Int) : Nat → Nat
  | 0 => 0
  | m + 1 => if key < k m then kpos k key m else m + 1
def insA (a : Nat → Int) (p : Nat) (v : Int) : Nat → Int := fun j => if j < p then a j else if j = p then v else a (j - 1)
def kOrd (T : Mem) (md : Int) : Nat → (Nat → Int) × Nat
  | 0 => (fun _ => 0, 0)
  | k + 1 => if kJn T k < 10000000 then (insA (kOrd T md k).1 (kpos (fun j => kKey T md ((kOrd T md k).1 j)) (kKey T md k) (kOrd T md k).2) k, (kOrd T md k).2 + 1) else kOrd T md k
theorem kpos_le (k : Nat → Int) (key : Int) : ∀ m, kpos k key m ≤ m
  | 0 => Nat.le_refl 0
  | m + 1 => by have := kpos_le k key m; unfold kpos; split <;> omega
theorem kpos_cong {k k' : Nat → Int} {key : Int} : ∀ m : Nat, (∀ j, j < m → k j = k' j) → kpos k key m = kpos k' key m
  | 0, _ => rfl
  | m + 1, h => by rw [kpos, kpos, h m (by omega), kpos_cong m (fun j hj => h j (by omega))]
theorem insA_cong {a a' : Nat → Int} {p m : Nat} {v : Int} (hp : p ≤ m) (h : ∀ j, j < m → a j = a' j) {j : Nat} (hj : j ≤ m) : insA a p v j = insA a' p v j := by
  unfold insA
  split
  · exact h j (by omega)
  · split
    · rfl
    · exact h _ (by omega)
theorem insA_map {a : Nat → Int} {p : Nat} {v : Int} {f : Int → Int} {j : Nat} : insA (fun i => f (a i)) p (f v) j = f (insA a p v j) := by
  unfold insA
  split
  · rfl
  · split <;> rfl
theorem kOrd_rng (T : Mem) (md : Int) : ∀ k : Nat, (kOrd T md k).2 ≤ k ∧ ∀ j, j < (kOrd T md k).2 → 0 ≤ (kOrd T md k).1 j ∧ (kOrd T md k).1 j < k ∧ kJn T ((kOrd T md k).1 j) < 10000000
  | 0 => ⟨Nat.le_refl 0, fun j hj => by cases hj⟩
  | k + 1 => by
    have ih := kOrd_rng T md k
    unfold kOrd
    split
    · rename_i hk
      refine ⟨by show _ + 1 ≤ _; omega, fun j hj => ?_⟩
      have hj : j < (kOrd T md k).2 + 1 := hj
      have hp := kpos_le (fun j => kKey T md ((kOrd T md k).1 j)) (kKey T md k) (kOrd T md k).2
      show 0 ≤ insA _ _ _ j ∧ insA _ _ _ j < _ ∧ kJn T (insA _ _ _ j) < _
      unfold insA
      split
      · have := ih.2 j (by omega); omega
      · split
        · omega
        · have := ih.2 (j - 1) (by omega); omega
    · exact ⟨by omega, fun j hj => by have := ih.2 j hj; omega⟩
def shf (a b : Nat → Int) (x m : Int) : Prop := ∀ j : Nat, ((j : Int) < x → b j = a j) ∧ (x < j → (j : Int) ≤ m → b j = a (j - 1))
theorem shf_init {a : Nat → Int} {m : Int} : shf a a m m := fun j => ⟨fun _ => rfl, fun h1 h2 => by omega⟩
theorem shf_step {a b b' : Nat → Int} {x m : Int} (h : shf a b x m) (hx : 0 < x) (h1 : b' x.toNat = b (x - 1).toNat) (h2 : ∀ k, k ≠ x.toNat → b' k = b k) : shf a b' (x + -1) m := fun j => by
  refine ⟨fun hj => ?_, fun hj hm => ?_⟩
  · rw [h2 j (by omega)]; exact (h j).1 (by omega)
  · by_cases e : j = x.toNat
    · subst e
      rw [h1, (h _).1 (by omega)]
      congr 1; omega
    · rw [h2 j e]; exact (h j).2 (by omega) hm
theorem shf_end {a b b' : Nat → Int} {x m v : Int} (h : shf a b x m) (hx : 0 ≤ x ∧ x ≤ m) (h1 : b' x.toNat = v) (h2 : ∀ k, k ≠ x.toNat → b' k = b k) {j : Nat} (hj : (j : Int) ≤ m) : b' j = insA a x.toNat v j := by
  unfold insA
  split
  · rw [h2 j (by omega)]; exact (h j).1 (by omega)
  · split
    · rename_i e; rw [e, h1]
    · rw [h2 j (by omega)]; exact (h j).2 (by omega) hj
theorem kpos_at {k : Nat → Int} {key : Int} {x : Int} (h0 : 0 ≤ x) (h : x ≤ 0 ∨ k (x - 1).toNat ≤ key) : kpos k key x.toNat = x.toNat := by
  rcases Int.lt_or_le 0 x with q | q
  · rw [show x.toNat = (x - 1).toNat + 1 by omega, kpos, if_neg (by omega)]
  · rw [show x.toNat = 0 by omega]; rfl
theorem kpos_go {k : Nat → Int} {key : Int} {x : Int} (h0 : 0 < x) (h : key < k (x - 1).toNat) : kpos k key x.toNat = kpos k key (x + -1).toNat := by
  rw [show x.toNat = (x - 1).toNat + 1 by omega, kpos, if_pos h]; congr 1
/-- the ranking of the class behind k lanes -/
def RK (T : Mem) (md : Int) (k : Nat) (τ : Mem) : Prop := τ 2 2 = ((kOrd T md k).2 : Int) ∧ ∀ j, j < (kOrd T md k).2 → τ 9 j = (kOrd T md k).1 j ∧ τ 10 j = kKey T md ((kOrd T md k).1 j)
theorem RK_no {T : Mem} {md : Int} {k : Nat} {τ : Mem} (h : RK T md k τ) (hk : ¬ kJn T k < 10000000) : RK T md (k + 1) τ := by
  unfold RK
  rw [show kOrd T md (k + 1) = kOrd T md k by rw [kOrd, if_neg hk]]; exact h
theorem RK_yes {T : Mem} {md : Int} {k : Nat} {τ υ : Mem} (h : RK T md k τ) (hk : kJn T k < 10000000) (h1 : υ 2 2 = τ 2 2 + 1) (h2 : ∀ j : Nat, (j : Int) ≤ τ 2 2 → υ 9 j = insA (τ 9) (kpos (τ 10) (kKey T md k) (τ 2 2).toNat) k j ∧ υ 10 j = insA (τ 10) (kpos (τ 10) (kKey T md k) (τ 2 2).toNat) (kKey T md k) j) : RK T md (k + 1) υ := by
  have e : kOrd T md (k + 1) = (insA (kOrd T md k).1 (kpos (fun j => kKey T md ((kOrd T md k).1 j)) (kKey T md k) (kOrd T md k).2) k, (kOrd T md k).2 + 1) := by rw [kOrd, if_pos hk]
  unfold RK
  rw [e]
  obtain ⟨hs, ha⟩ := h
  have et : (τ 2 2).toNat = (kOrd T md k).2 := by omega
  have ep : kpos (τ 10) (kKey T md k) (τ 2 2).toNat = kpos (fun j => kKey T md ((kOrd T md k).1 j)) (kKey T md k) (kOrd T md k).2 := by
    rw [et]; exact kpos_cong _ (fun j hj => (ha j hj).2)
  have hp := kpos_le (fun j => kKey T md ((kOrd T md k).1 j)) (kKey T md k) (kOrd T md k).2
  refine ⟨by rw [h1, hs]; rfl, fun j hj => ?_⟩
  have hj : j < (kOrd T md k).2 + 1 := hj
  have := h2 j (by omega)
  rw [ep] at this
  refine ⟨this.1.trans (insA_cong hp (fun i hi => (ha i hi).1) (by omega)), this.2.trans ?_⟩
  rw [insA_cong (a' := fun i => kKey T md ((kOrd T md k).1 i)) hp (fun i hi => (ha i hi).2) (by omega)]
  exact insA_map (f := kKey T md)
/-- the model's order behind k lanes -/
def OR (T : Mem) (md : Int) (k : Nat) (τ : Mem) : Prop := τ 44 13 = ((kOrd T md k).2 : Int) ∧ ∀ j, j < (kOrd T md k).2 → τ 52 j = (kOrd T md k).1 j
theorem OR_no {T : Mem} {md : Int} {k : Nat} {τ : Mem} (h : OR T md k τ) (hk : ¬ kJn T k < 10000000) : OR T md (k + 1) τ := by
  unfold OR
  rw [show kOrd T md (k + 1) = kOrd T md k by rw [kOrd, if_neg hk]]; exact h
theorem OR_yes {T : Mem} {md : Int} {k : Nat} {τ υ : Mem} {x : Int} (h : OR T md k τ) (hk : kJn T k < 10000000) (hx : 0 ≤ x) (hpx : kpos (fun j => kKey T md ((kOrd T md k).1 j)) (kKey T md k) (kOrd T md k).2 = x.toNat) (h1 : υ 44 13 = τ 44 13 + 1) (h2 : ∀ j : Nat, (j : Int) ≤ τ 44 13 → υ 52 j = insA (τ 52) x.toNat k j) : OR T md (k + 1) υ := by
  have e : kOrd T md (k + 1) = (insA (kOrd T md k).1 (kpos (fun j => kKey T md ((kOrd T md k).1 j)) (kKey T md k) (kOrd T md k).2) k, (kOrd T md k).2 + 1) := by rw [kOrd, if_pos hk]
  unfold OR
  rw [e]
  obtain ⟨hs, ha⟩ := h
  have hp := kpos_le (fun j => kKey T md ((kOrd T md k).1 j)) (kKey T md k) (kOrd T md k).2
  rw [hpx] at hp ⊢
  refine ⟨by rw [h1, hs]; rfl, fun j hj => ?_⟩
  have hj : j < (kOrd T md k).2 + 1 := hj
  exact (h2 j (by omega)).trans (insA_cong hp (fun i hi => ha i hi) (by omega))
def kPlF (a ky : Nat → Int) (lane rule read : Int) : Nat → Int → Int → Int
  | 0, _, _ => -6
  | f + 1, i, h => if a i.toNat = lane then (if read < ky i.toNat - ky (if rule = 0 then max 0 (i - 1) else h).toNat then i else h) + 1 else kPlF a ky lane rule read f (i + 1) (if read < ky i.toNat - ky (if rule = 0 then max 0 (i - 1) else h).toNat then i else h)
theorem kPlF_cong {a a' ky ky' : Nat → Int} {lane rule read : Int} {m : Int} (h : ∀ j : Nat, (j : Int) < m → a j = a' j ∧ ky j = ky' j) : ∀ (f : Nat) (i hd : Int), 0 ≤ i → i + f ≤ m → 0 ≤ hd ∧ hd ≤ i → kPlF a ky lane rule read f i hd = kPlF a' ky' lane rule read f i hd
  | 0, _, _, _, _, _ => rfl
  | f + 1, i, hd, h0, h1, h2 => by
    rw [kPlF, kPlF, (h i.toNat (by omega)).1, (h i.toNat (by omega)).2, (h (if rule = 0 then max 0 (i - 1) else hd).toNat (by split <;> omega)).2]
    rw [kPlF_cong h f (i + 1) _ (by omega) (by omega) (by split <;> omega)]
def kOn (T : Mem) (md : Int) : Nat := (kOrd T md (T 1 2).toNat).2
def kOl (T : Mem) (md : Int) : Nat → Int := (kOrd T md (T 1 2).toNat).1
def kOAt (T : Mem) (md i : Int) : Int := if 0 ≤ i ∧ i < (kOn T md : Int) then kOl T md i.toNat else -6
def kPla (T : Mem) (lane rule : Int) : Int := kPlF (kOl T 0) (fun j => kKey T 0 (kOl T 0 j)) lane rule (T 8 1) (kOn T 0) 0 0
theorem kKey_b {T : Mem} (hI : TI T) {md lane : Int} (hl : 0 ≤ lane ∧ lane < T 1 2) : -100 ≤ kKey T md lane ∧ kKey T md lane ≤ 10000000 := by
  have h1 := hI.1
  have := kJn_b hI (lane := lane) (by omega); have h2 := kHe_b hI hl
  unfold kKey; split <;> omega
theorem FA_keep {τ υ : Mem} (h : FA τ) (h1 : υ 51 = τ 51) (h2 : co υ = co τ) : FA υ := fun s y r hs hy hr => by rw [h1, h2]; exact h s y r hs hy hr
theorem mKey {T : Mem} {md lane : Int} (h : kJn T lane < 10000000) : mN (kJn T lane) - (if md = 0 then 0 else kHe T lane) = kKey T md lane := by
  unfold kKey
  rcases mN_c (kJn T lane) with q | q <;> omega
