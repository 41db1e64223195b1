/-! numbers: every int on the stack is written zI z, z an Int -/
def zI (z : Int) : Int32 := Int32.ofInt z
def zJ (z : Int) : Int64 := Int64.ofInt z
abbrev zR (z : Int) : Prop := -2147483648 ≤ z ∧ z < 2147483648
abbrev zL (z : Int) : Prop := -9223372036854775808 ≤ z ∧ z < 9223372036854775808
def bz (P : Prop) [Decidable P] : Int := if P then 1 else 0
theorem bz_t {P : Prop} [Decidable P] (h : P) : bz P = 1 := if_pos h
theorem bz_f {P : Prop} [Decidable P] (h : ¬ P) : bz P = 0 := if_neg h
theorem zI_toInt {z : Int} (h : zR z) : (zI z).toInt = z := Int32.toInt_ofInt_of_le (by have := h.1; omega) (by have := h.2; omega)
theorem zJ_toInt {z : Int} (h : zL z) : (zJ z).toInt = z := Int64.toInt_ofInt_of_le (by have := h.1; omega) (by have := h.2; omega)
theorem zI_of (x : Int32) : x = zI x.toInt := (Int32.ofInt_toInt x).symm
theorem zR_of (x : Int32) : zR x.toInt := ⟨by have := Int32.le_toInt x; omega, by have := Int32.toInt_lt x; omega⟩
theorem zI_ex (x : Int32) : ∃ z : Int, zR z ∧ x = zI z := ⟨x.toInt, zR_of x, zI_of x⟩
theorem zI_add (a b : Int) : zI a + zI b = zI (a + b) := (Int32.ofInt_add a b).symm
theorem zI_sub (a b : Int) : zI a - zI b = zI (a - b) := (Int32.ofInt_sub a b).symm
theorem zI_mul (a b : Int) : zI a * zI b = zI (a * b) := (Int32.ofInt_mul a b).symm
theorem zI_neg (a : Int) : -zI a = zI (-a) := (Int32.ofInt_neg a).symm
theorem zJ_add (a b : Int) : zJ a + zJ b = zJ (a + b) := (Int64.ofInt_add a b).symm
theorem zJ_sub (a b : Int) : zJ a - zJ b = zJ (a - b) := (Int64.ofInt_sub a b).symm
theorem zJ_mul (a b : Int) : zJ a * zJ b = zJ (a * b) := (Int64.ofInt_mul a b).symm
theorem zI_lt {a b : Int} (ha : zR a) (hb : zR b) : zI a < zI b ↔ a < b := by rw [Int32.lt_iff_toInt_lt, zI_toInt ha, zI_toInt hb]
theorem zI_le {a b : Int} (ha : zR a) (hb : zR b) : zI a ≤ zI b ↔ a ≤ b := by rw [Int32.le_iff_toInt_le, zI_toInt ha, zI_toInt hb]
theorem zI_eq {a b : Int} (ha : zR a) (hb : zR b) : zI a = zI b ↔ a = b := by rw [← Int32.toInt_inj, zI_toInt ha, zI_toInt hb]
theorem zJ_lt {a b : Int} (ha : zL a) (hb : zL b) : zJ a < zJ b ↔ a < b := by rw [Int64.lt_iff_toInt_lt, zJ_toInt ha, zJ_toInt hb]
theorem zJ_eq {a b : Int} (ha : zL a) (hb : zL b) : zJ a = zJ b ↔ a = b := by rw [← Int64.toInt_inj, zJ_toInt ha, zJ_toInt hb]
theorem zR_0 : zR 0 := ⟨by omega, by omega⟩
theorem zI_0 : (0 : Int32) = zI 0 := rfl
theorem zJ_0 : (0 : Int64) = zJ 0 := rfl
theorem zI_ne0 {b : Int} (hb : zR b) (h : b ≠ 0) : ¬ zI b = 0 := fun e => h ((zI_eq hb zR_0).mp e)
theorem zJ_ne0 {b : Int} (hb : zL b) (h : b ≠ 0) : ¬ zJ b = 0 := fun e => h ((zJ_eq hb ⟨by omega, by omega⟩).mp e)
theorem zI_div {a b : Int} (ha : zR a) (hb : zR b) (h1 : b ≠ -1) : zI a / zI b = zI (a.tdiv b) := by
  have e1 : (zI a / zI b).toInt = a.tdiv b := by
    rw [Int32.toInt_div_of_ne_right _ _ (fun e => h1 ((zI_eq hb (b := -1) ⟨by omega, by omega⟩).mp e)), zI_toInt ha, zI_toInt hb]
  rw [← e1]; exact zI_of _
theorem zJ_div {a b : Int} (ha : zL a) (hb : zL b) (h1 : b ≠ -1) : zJ a / zJ b = zJ (a.tdiv b) := by
  have e1 : (zJ a / zJ b).toInt = a.tdiv b := by
    rw [Int64.toInt_div_of_ne_right _ _ (fun e => h1 ((zJ_eq hb (b := -1) ⟨by omega, by omega⟩).mp e)), zJ_toInt ha, zJ_toInt hb]
  rw [← e1]; exact (Int64.ofInt_toInt _).symm
theorem zI_rem {a b : Int} (ha : zR a) (hb : zR b) (h1 : b ≠ -1) : zI a - zI a / zI b * zI b = zI (a.tmod b) := by
  rw [zI_div ha hb h1, zI_mul, zI_sub, Int.tmod_def, Int.mul_comm]
theorem zJ_rem {a b : Int} (ha : zL a) (hb : zL b) (h1 : b ≠ -1) : zJ a - zJ a / zJ b * zJ b = zJ (a.tmod b) := by
  rw [zJ_div ha hb h1, zJ_mul, zJ_sub, Int.tmod_def, Int.mul_comm]
theorem zJ_i2l {a : Int} (ha : zR a) : (zI a).toInt64 = zJ a := by
  rw [← Int64.ofInt_int32ToInt, zI_toInt ha]; rfl
theorem zI_nI (n : Nat) : zI (n : Int) = nI n := Int32.ofInt_eq_ofNat
theorem zI_clamp {a : Int} (h0 : 0 ≤ a) (h1 : zR a) : (zI a).toNatClampNeg = a.toNat := by
  obtain ⟨n, rfl⟩ : ∃ n : Nat, a = (n : Int) := ⟨a.toNat, by omega⟩
  rw [zI_nI, nI_clamp (by have := h1.2; omega)]; rfl
theorem zI_vin {a : Int} {n : Nat} (h0 : 0 ≤ a) (h1 : a < n) (h2 : zR a) : vp_in (zI a) n := vp_in_iff.mpr (by rw [zI_toInt h2]; exact ⟨h0, h1⟩)
/-! the joint world of the class (cells 0..43) and the model (44..61): one memory -/
abbrev Mem : Type := Nat → Nat → Int
def um (σ : Mem) (i j : Nat) (v : Int) : Mem := fun a b => if a = i ∧ b = j then v else σ a b
theorem um_ne {σ : Mem} {i j a : Nat} {v : Int} (h : a ≠ i) : um σ i j v a = σ a := by funext b; simp [um, h]
theorem um_at {σ : Mem} {i j : Nat} {v : Int} : um σ i j v i j = v := by simp [um]
theorem um_at_ne {σ : Mem} {i j b : Nat} {v : Int} (h : b ≠ j) : um σ i j v i b = σ i b := by simp [um, h]
def cA (g : Nat → ClassId) (n : Nat) (r : Nat → Int) : va_E := .inl (g 0, n, .inl (fun j => zI (r j)))
def cE (q : Nat → Nat) (g : Nat → ClassId) (r : Nat → Int) (i : Nat) : va_E :=
  if i = 0 then .inr (8, [.ref (q 1), .ref (q 2), .ref (q 3), .ref (q 4), .ref (q 5), .ref (q 6)])
  else if i = 1 then .inr (7, [.ref (q 7), .ref (q 8), .int (zI (r 2))])
  else if i = 2 then .inr (3, [.ref (q 9), .ref (q 10), .int (zI (r 2))])
  else if i = 3 then .inr (1, [.ref (q 11), .ref (q 12), .ref (q 18)])
  else if i = 4 then .inr (5, [.ref (q 13), .int (zI (r 1))])
  else if i = 5 then .inr (0, [.ref (q 19), .ref (q 20), .ref (q 21), .ref (q 22), .int (zI (r 4))])
  else if i = 6 then .inr (2, [.ref (q 23), .ref (q 24), .ref (q 25), .int (zI (r 3))])
  else if i = 7 then .inl (g 2, 6, .inr (.inr (.inr (.inr (fun j => some (q (26 + j)))))))
  else if i = 8 then cA g 4 r
  else if i = 9 then cA g 6 r
  else if i = 10 then cA g 6 r
  else if i = 11 then .inl (g 3, 4, .inr (.inr (.inr (.inr (fun j => some (q (14 + j)))))))
  else if i = 12 then cA g 4 r
  else if i = 13 then cA g 30 r
  else if i < 19 then .inr (6, [.int (zI (r 0)), .int (zI (r 1))])
  else if i < 26 then cA g 8 r
  else if i < 32 then .inr (4, [.ref (q (i + 6)), .ref (q (i + 12)), .int (zI (r 2)), .int (zI (r 3)), .int (zI (r 4))])
  else if i < 44 then cA g 12 r
  else if i = 44 then .inr (9, [.ref (q 45), .ref (q 46), .ref (q 47), .ref (q 48), .ref (q 49), .ref (q 50), .int (zI (r 6)), .int (zI (r 7)), .int (zI (r 8)), .int (zI (r 9)), .int (zI (r 10)), .ref (q 51), .ref (q 52), .int (zI (r 13)), .ref (q 53), .ref (q 54), .ref (q 55), .int (zI (r 17)), .int (zI (r 18)), .ref (q 56), .int (zI (r 20)), .ref (q 57), .ref (q 58), .ref (q 59), .int (zI (r 24)), .ref (q 60), .ref (q 61), .int (zI (r 27))])
  else if i = 47 then .inl (g 1, 72, .inl (fun j => zI (r j)))
  else if i = 48 then cA g 72 r
  else if i = 49 then cA g 72 r
  else if i = 51 then cA g 72 r
  else if i < 53 then cA g 6 r
  else if i < 56 then cA g 4 r
  else if i = 56 then cA g 30 r
  else if i < 60 then cA g 10 r
  else cA g 8 r
theorem cE_spn {q : Nat → Nat} {g : Nat → ClassId} {j : Nat} (hj : j < 5) (r : Nat → Int) : cE q g r (14 + j) = .inr (6, [.int (zI (r 0)), .int (zI (r 1))]) := by
  rcases j with _ | _ | _ | _ | _ | j <;> first | rfl | omega
theorem cE_run {q : Nat → Nat} {g : Nat → ClassId} {j : Nat} (hj : j < 6) (r : Nat → Int) : cE q g r (26 + j) = .inr (4, [.ref (q (32 + j)), .ref (q (38 + j)), .int (zI (r 2)), .int (zI (r 3)), .int (zI (r 4))]) := by
  rcases j with _ | _ | _ | _ | _ | _ | j <;> first | rfl | omega
theorem cE_frm {q : Nat → Nat} {g : Nat → ClassId} {j : Nat} (hj : j < 6) (r : Nat → Int) : cE q g r (32 + j) = .inl (g 0, 12, .inl (fun j => zI (r j))) := by
  rcases j with _ | _ | _ | _ | _ | _ | j <;> first | rfl | omega
theorem cE_to {q : Nat → Nat} {g : Nat → ClassId} {j : Nat} (hj : j < 6) (r : Nat → Int) : cE q g r (38 + j) = .inl (g 0, 12, .inl (fun j => zI (r j))) := by
  rcases j with _ | _ | _ | _ | _ | _ | j <;> first | rfl | omega
def zw (q : Nat → Nat) (g : Nat → ClassId) (σ : Mem) : va_W := (List.range 62).map (fun i => (q i, cE q g (σ i) i))
theorem zw_get {q : Nat → Nat} {g : Nat → ClassId} {σ : Mem} {i : Nat} (hi : i < 62) : (zw q g σ)[i]? = some (q i, cE q g (σ i) i) := by simp [zw, hi]
theorem zw_at {q : Nat → Nat} {g : Nat → ClassId} {σ : Mem} {i : Nat} {E : va_E} (hi : i < 62) (hE : ∀ r, cE q g r i = E) : (zw q g σ)[i]? = some (q i, E) := by rw [zw_get hi, hE]
theorem zw_of {q : Nat → Nat} {g : Nat → ClassId} {σ : Mem} {i : Nat} {E : (Nat → Int) → va_E} (hi : i < 62) (hE : ∀ r, cE q g r i = E r) : (zw q g σ)[i]? = some (q i, E (σ i)) := by rw [zw_get hi, hE]
theorem zw_set {q : Nat → Nat} {g : Nat → ClassId} {σ : Mem} {i j : Nat} {v : Int} {E : va_E} (hi : i < 62) (hE : cE q g (um σ i j v i) i = E) : (zw q g σ).set i (q i, E) = zw q g (um σ i j v) := by
  apply List.ext_getElem?
  intro n
  rw [List.getElem?_set]
  by_cases hn : n < 62
  · rw [zw_get (σ := um σ i j v) hn]
    by_cases h : i = n
    · subst h; rw [if_pos rfl, if_pos (by simp [zw, hi]), hE]
    · rw [if_neg h, zw_get hn, um_ne (Ne.symm h)]
  · have e : ∀ τ : Mem, (zw q g τ)[n]? = none := fun τ => by simp [zw]; omega
    rw [e, e, if_neg (by omega)]
def qok (q : Nat → Nat) : Prop := ∀ i j, i < 62 → j < 62 → q i = q j → i = j
def aQ (q : Nat → Nat) : Nat → Prop := fun a => ∃ i, i < 62 ∧ a = q i
theorem zw_D {q : Nat → Nat} {g : Nat → ClassId} {σ : Mem} (hq : qok q) : va_D (aQ q) (zw q g σ) := by
  have e : ∀ {n : Nat} {x : Nat × va_E}, (zw q g σ)[n]? = some x → n < 62 ∧ x.1 = q n := by
    intro n x h
    by_cases hn : n < 62
    · rw [zw_get hn] at h; cases h; exact ⟨hn, rfl⟩
    · rw [show (zw q g σ)[n]? = none by simp [zw]; omega] at h; cases h
  refine ⟨fun i j x y hx hy h => ?_, fun k x hk => ?_⟩
  · have h1 := e hx; have h2 := e hy
    exact hq i j h1.1 h2.1 (by rw [← h1.2, ← h2.2, h])
  · exact ⟨k, (e hk).1, (e hk).2⟩
abbrev zT (g : Nat → ClassId) : List (ClassId × FieldType) := [(g 0, .int), (g 1, .boolean), (g 2, .object "HairLine$Runner"), (g 3, .object "HairLine$Span")]
def isNest : Cond → Bool
  | .fieldLinkNest _ _ _ _ _ _ => true
  | .methodLinkNest _ _ _ _ => true
  | _ => false
def KK (D : va_G) (g : Nat → ClassId) (U : State) : Prop := va_K D vwCl (zT g) U ∧ ∀ w ∈ lw_tbl, isNest w = true → va_Nw w U
theorem KK.moved {D : va_G} {g : Nat → ClassId} {s U : State} (hW : s.WarmedH U.vm) (h : KK D g s) : KK D g U := by
  refine ⟨va_K.moved hW.alike h.1, fun w hw hn => ?_⟩
  cases w with
  | fieldLinkNest a i b n d hh => exact va_Nw.warmF hW (h.2 _ hw hn)
  | methodLinkNest a i x hh => exact va_Nw.warmM hW (h.2 _ hw hn)
  | _ => cases hn
theorem KK.calling {D : va_G} {g : Nat → ClassId} {U : State} {a : Array Value} {f : JFrame} {mk : MethodId} (h : KK D g U) : KK D g (U.calling f mk a) := by
  refine ⟨va_K.moved (u := U) (U := U.calling f mk a) (Vm.Alike.refl U.vm) h.1, fun w hw hn => ?_⟩
  cases w with
  | fieldLinkNest a i b n d hh => exact va_Nw.same rfl rfl (h.2 _ hw hn)
  | methodLinkNest a i x hh => exact va_Nw.same rfl rfl (h.2 _ hw hn)
  | _ => cases hn
abbrev HP (D : va_G) (q : Nat → Nat) (g : Nat → ClassId) (σ : Mem) (H : Heap) : Prop := va_P D vwCl (zw q g σ) H
/-- a frame's fixed surroundings -/
abbrev Cx (D : va_G) (g : Nat → ClassId) (own : String) (cc : ByteArray) (nL : Nat) (p : Program) (s : State) (m : MethodId) (args : Array Value) (c : Code) : Prop := CallFix p m c cc nL s args gw own ∧ KK D g s
