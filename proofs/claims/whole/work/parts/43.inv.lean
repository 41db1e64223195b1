/-! the invariant of the law's loop, and that each pair of calls keeps it -/
theorem um_o {σ : Mem} {i j a b : Nat} {v : Int} (h : ¬ (a = i ∧ b = j)) : um σ i j v a b = σ a b := if_neg h
theorem um_s {σ : Mem} {i j a b : Nat} {v : Int} (h : a = i ∧ b = j) : um σ i j v a b = v := if_pos h
def EX (σ : Mem) : Prop := ∀ j : Nat, j < 6 → σ 1 2 ≤ (j : Int) → σ (26 + j) 4 = -6
def GT (σ : Mem) : Prop := TI σ ∧ MR σ ∧ EX σ
def GJ (σ : Mem) : Prop := JI σ ∧ MJ σ
def GS (σ : Mem) : Prop := SI σ ∧ MS σ
def GL (σ : Mem) : Prop := LI σ ∧ ML σ
def GX (σ : Mem) : Prop := RI σ ∧ MX σ
def Inv (σ : Mem) : Prop := GT σ ∧ GJ σ ∧ GS σ ∧ GL σ ∧ GX σ
def dT (a b : Nat) : Prop := a = 1 ∨ a = 8 ∨ (26 ≤ a ∧ a < 44) ∨ (a = 44 ∧ 6 ≤ b ∧ b ≤ 10) ∨ (45 ≤ a ∧ a ≤ 50)
def dJ (a _b : Nat) : Prop := a = 12 ∨ (14 ≤ a ∧ a < 18) ∨ (53 ≤ a ∧ a ≤ 55)
def dS (a b : Nat) : Prop := a = 4 ∨ a = 13 ∨ (a = 44 ∧ b = 20) ∨ a = 56
def dL (a b : Nat) : Prop := a = 5 ∨ (19 ≤ a ∧ a ≤ 22) ∨ (a = 44 ∧ b = 24) ∨ (57 ≤ a ∧ a ≤ 59)
def dX (a b : Nat) : Prop := a = 6 ∨ a = 23 ∨ a = 24 ∨ (a = 44 ∧ b = 27) ∨ a = 60 ∨ a = 61
def ag (d : Nat → Nat → Prop) (σ τ : Mem) : Prop := ∀ a b, d a b → τ a b = σ a b
theorem ag_rf {d : Nat → Nat → Prop} {σ : Mem} : ag d σ σ := fun _ _ _ => rfl
theorem ag_um {d : Nat → Nat → Prop} {σ τ : Mem} {i j : Nat} {v : Int} (h : ag d σ τ) (hd : ¬ d i j) : ag d σ (um τ i j v) := fun a b hab => by
  rw [um_o (fun e => hd (by rw [← e.1, ← e.2]; exact hab))]; exact h a b hab
theorem ag_Fr {d : Nat → Nat → Prop} {σ τ : Mem} (h : Fr σ τ) (hd : ∀ a b, d a b → sc a b = false) : ag d σ τ := fun a b hab => h a b (hd a b hab)
theorem GT_cg {σ τ : Mem} (h : ag dT σ τ) (hG : GT σ) : GT τ := by
  obtain ⟨hI, hR, hE⟩ := hG
  have h1 := hI.1
  have e12 : τ 1 2 = σ 1 2 := h 1 2 (by unfold dT; omega)
  have e8 : ∀ k, τ 8 k = σ 8 k := fun k => h 8 k (by unfold dT; omega)
  have er : ∀ a b, 26 ≤ a → a < 44 → τ a b = σ a b := fun a b ha hb => h a b (by unfold dT; omega)
  have em : ∀ a b, 45 ≤ a → a ≤ 50 → τ a b = σ a b := fun a b ha hb => h a b (by unfold dT; omega)
  have e44 : ∀ b, 6 ≤ b → b ≤ 10 → τ 44 b = σ 44 b := fun b ha hb => h 44 b (by unfold dT; omega)
  refine ⟨⟨by rw [e12]; exact hI.1, by rw [e8, e8, e8, e8]; exact hI.2.1, fun j hj => ?_, fun j t hj ht => ?_⟩, ⟨?_, fun j hj => ?_, fun j r w hj hr hw => ?_⟩, fun j hj hk => ?_⟩
  · rw [er (26 + j) 2 (by omega) (by omega), er (26 + j) 3 (by omega) (by omega), er (26 + j) 4 (by omega) (by omega)]; exact hI.2.2.1 j hj
  · rw [er (32 + j) t (by omega) (by omega), er (38 + j) t (by omega) (by omega)]; exact hI.2.2.2 j t hj ht
  · rw [e44 6 (by omega) (by omega), e44 7 (by omega) (by omega), e44 8 (by omega) (by omega), e44 9 (by omega) (by omega), e44 10 (by omega) (by omega), e12, e8, e8, e8, e8]; exact hR.1
  · rw [e12] at hj
    rw [em 45 j (by omega) (by omega), em 46 j (by omega) (by omega), em 50 j (by omega) (by omega), er (26 + j) 2 (by omega) (by omega), er (26 + j) 3 (by omega) (by omega), er (26 + j) 4 (by omega) (by omega)]; exact hR.2.1 j hj
  · rw [em 47 _ (by omega) (by omega), em 48 _ (by omega) (by omega), em 49 _ (by omega) (by omega), er (32 + j) _ (by omega) (by omega), er (38 + j) _ (by omega) (by omega)]; exact hR.2.2 j r w hj hr hw
  · rw [er (26 + j) 4 (by omega) (by omega)]; rw [e12] at hk; exact hE j hj hk
theorem GJ_cg {σ τ : Mem} (h : ag dJ σ τ) (hG : GJ σ) : GJ τ := by
  refine ⟨fun j hj => ?_, fun j hj => ?_⟩
  · rw [h (14 + j) 0 (by unfold dJ; omega), h (14 + j) 1 (by unfold dJ; omega), h 12 j (by unfold dJ; omega)]; exact hG.1 j hj
  · rw [h (14 + j) 0 (by unfold dJ; omega), h (14 + j) 1 (by unfold dJ; omega), h 12 j (by unfold dJ; omega), h 53 j (by unfold dJ; omega), h 54 j (by unfold dJ; omega), h 55 j (by unfold dJ; omega)]; exact hG.2 j hj
theorem GS_cg {σ τ : Mem} (h : ag dS σ τ) (hG : GS σ) : GS τ := by
  have e : τ 4 1 = σ 4 1 := h 4 1 (by unfold dS; omega)
  refine ⟨⟨by rw [e]; exact hG.1.1, fun i hi => ?_⟩, ⟨by rw [e, h 44 20 (by unfold dS; omega)]; exact hG.2.1, fun i hi => ?_⟩⟩
  · rw [e] at hi; rw [h 13 i (by unfold dS; omega)]; exact hG.1.2 i hi
  · rw [e] at hi; rw [h 13 i (by unfold dS; omega), h 56 i (by unfold dS; omega)]; exact hG.2.2 i hi
theorem GL_cg {σ τ : Mem} (h : ag dL σ τ) (hG : GL σ) : GL τ := by
  have e : τ 5 4 = σ 5 4 := h 5 4 (by unfold dL; omega)
  refine ⟨⟨by rw [e]; exact hG.1.1, fun i hi => ?_⟩, ⟨by rw [e, h 44 24 (by unfold dL; omega)]; exact hG.2.1, fun i hi => ?_⟩⟩
  · rw [e] at hi; rw [h 19 i (by unfold dL; omega), h 20 i (by unfold dL; omega), h 21 i (by unfold dL; omega), h 22 i (by unfold dL; omega)]; exact hG.1.2 i hi
  · rw [e] at hi; rw [h 19 i (by unfold dL; omega), h 20 i (by unfold dL; omega), h 21 i (by unfold dL; omega), h 22 i (by unfold dL; omega), h 57 i (by unfold dL; omega), h 58 i (by unfold dL; omega), h 59 i (by unfold dL; omega)]; exact hG.2.2 i hi
theorem GX_cg {σ τ : Mem} (h : ag dX σ τ) (hG : GX σ) : GX τ := by
  have e : τ 6 3 = σ 6 3 := h 6 3 (by unfold dX; omega)
  refine ⟨⟨by rw [e]; exact hG.1.1, fun i hi => ?_⟩, ⟨by rw [e, h 44 27 (by unfold dX; omega)]; exact hG.2.1, fun i hi => ?_⟩⟩
  · rw [e] at hi; rw [h 23 i (by unfold dX; omega), h 24 i (by unfold dX; omega)]; exact hG.1.2 i hi
  · rw [e] at hi; rw [h 23 i (by unfold dX; omega), h 24 i (by unfold dX; omega), h 60 i (by unfold dX; omega), h 61 i (by unfold dX; omega)]; exact hG.2.2 i hi
theorem sc_T (a b : Nat) (h : dT a b) : sc a b = false := by unfold dT at h; unfold sc; simp; omega
theorem sc_J (a b : Nat) (h : dJ a b) : sc a b = false := by unfold dJ at h; unfold sc; simp; omega
theorem sc_S (a b : Nat) (h : dS a b) : sc a b = false := by unfold dS at h; unfold sc; simp; omega
theorem sc_L (a b : Nat) (h : dL a b) : sc a b = false := by unfold dL at h; unfold sc; simp; omega
theorem sc_X (a b : Nat) (h : dX a b) : sc a b = false := by unfold dX at h; unfold sc; simp; omega
theorem Fr_Inv {σ τ : Mem} (h : Fr σ τ) (hG : Inv σ) : Inv τ := ⟨GT_cg (ag_Fr h sc_T) hG.1, GJ_cg (ag_Fr h sc_J) hG.2.1, GS_cg (ag_Fr h sc_S) hG.2.2.1, GL_cg (ag_Fr h sc_L) hG.2.2.2.1, GX_cg (ag_Fr h sc_X) hG.2.2.2.2⟩
/-! the mutators -/
theorem GT_ent {σ : Mem} {b v : Int} (h : GT σ) (hn : σ 1 2 < 6) (hb : -3000 ≤ b ∧ b ≤ 0) (hv : 1 ≤ v ∧ v ≤ 20) : GT (mEnt (kEnt σ b v) b v) := by
  obtain ⟨hI, hR, hE⟩ := h
  have h1 := hI.1
  have hm := hR.1
  have e0 : kEnt σ b v 44 6 = σ 1 2 := by unfold kEnt; (repeat (first | rw [um_o (by omega)] | rw [um_s (by omega)])); exact hm.1
  unfold mEnt
  rw [e0]
  unfold kEnt
  generalize hN : (σ 1 2).toNat = N
  have hN1 : (N : Int) = σ 1 2 := by omega
  refine ⟨⟨?_, ?_, fun j hj => ?_, fun j t hj ht => ?_⟩, ⟨?_, fun j hj => ?_, fun j r w hj hr hw => ?_⟩, fun j hj hk => ?_⟩
  · (repeat (first | rw [um_o (by omega)] | rw [um_s (by omega)])); omega
  · (repeat (first | rw [um_o (by omega)] | rw [um_s (by omega)])); exact hI.2.1
  · have hx := hI.2.2.1 j hj
    by_cases e : j = N
    · (repeat (first | rw [um_o (by omega)] | rw [um_s (by omega)])); exact ⟨hb, hv, hx.2.2⟩
    · (repeat (first | rw [um_o (by omega)] | rw [um_s (by omega)])); exact hx
  · (repeat (first | rw [um_o (by omega)] | rw [um_s (by omega)])); exact hI.2.2.2 j t hj ht
  · (repeat (first | rw [um_o (by omega)] | rw [um_s (by omega)])); exact ⟨rfl, hm.2⟩
  · have hj2 : (j : Int) < σ 1 2 + 1 := by revert hj; (repeat (first | rw [um_o (by omega)] | rw [um_s (by omega)])); exact id
    by_cases e : j = N
    · have := hE j (by omega) (by omega)
      (repeat (first | rw [um_o (by omega)] | rw [um_s (by omega)])); exact ⟨rfl, rfl, this.symm⟩
    · have := hR.2.1 j (by omega)
      (repeat (first | rw [um_o (by omega)] | rw [um_s (by omega)])); exact this
  · (repeat (first | rw [um_o (by omega)] | rw [um_s (by omega)])); exact hR.2.2 j r w hj hr hw
  · have hk2 : σ 1 2 + 1 ≤ (j : Int) := by revert hk; (repeat (first | rw [um_o (by omega)] | rw [um_s (by omega)])); exact id
    have := hE j hj (by omega)
    (repeat (first | rw [um_o (by omega)] | rw [um_s (by omega)])); exact this
theorem GT_shp {σ : Mem} {r row what a b : Int} (h : GT σ) (hr : 0 ≤ r ∧ r < σ 1 2) (hrw : 0 ≤ row ∧ row ≤ 5) (hw : 0 ≤ what ∧ what ≤ 1) (ha : -9 ≤ a ∧ a ≤ 9) (hb : -9 ≤ b ∧ b ≤ 9) : GT (mShp (kShp σ r row what a b) r row what a b) := by
  obtain ⟨hI, hR, hE⟩ := h
  have h1 := hI.1
  have hm := hR.1
  unfold mShp kShp
  obtain ⟨x, rfl⟩ : ∃ x : Nat, r = (x : Int) := ⟨r.toNat, by omega⟩
  obtain ⟨y, rfl⟩ : ∃ y : Nat, row = (y : Int) := ⟨row.toNat, by omega⟩
  obtain ⟨z, rfl⟩ : ∃ z : Nat, what = (z : Int) := ⟨what.toNat, by omega⟩
  have hx6 : x < 6 := by omega
  have hy6 : y < 6 := by omega
  have hz2 : z < 2 := by omega
  rw [show ((z : Int) * 6 + (y : Int)).toNat = z * 6 + y by omega, show (2 * (6 * (x : Int) + (y : Int)) + (z : Int)).toNat = 2 * (6 * x + y) + z by omega, Int.toNat_natCast]
  refine ⟨⟨?_, ?_, fun j hj => ?_, fun j t hj ht => ?_⟩, ⟨?_, fun j hj => ?_, fun j r w hj hr hw => ?_⟩, fun j hj hk => ?_⟩
  · (repeat (first | rw [um_o (by omega)] | rw [um_s (by omega)])); exact hI.1
  · (repeat (first | rw [um_o (by omega)] | rw [um_s (by omega)])); exact hI.2.1
  · (repeat (first | rw [um_o (by omega)] | rw [um_s (by omega)])); exact hI.2.2.1 j hj
  · have hx := hI.2.2.2 j t hj ht
    by_cases e : j = x ∧ t = z * 6 + y
    · (repeat (first | rw [um_o (by omega)] | rw [um_s (by omega)])); exact ⟨ha, hb⟩
    · (repeat (first | rw [um_o (by omega)] | rw [um_s (by omega)])); exact hx
  · (repeat (first | rw [um_o (by omega)] | rw [um_s (by omega)])); exact hm
  · have hj2 : (j : Int) < σ 1 2 := by revert hj; (repeat (first | rw [um_o (by omega)] | rw [um_s (by omega)])); exact id
    have := hR.2.1 j hj2
    (repeat (first | rw [um_o (by omega)] | rw [um_s (by omega)])); exact this
  · have hx := hR.2.2 j r w hj hr hw
    by_cases e : j = x ∧ r = y ∧ w = z
    · obtain ⟨rfl, rfl, rfl⟩ := e
      (repeat (first | rw [um_o (by omega)] | rw [um_s (by omega)]))
      by_cases hab : a ≤ b
      · rw [if_pos hab]; exact Or.inl ⟨rfl, hab, rfl, rfl⟩
      · rw [if_neg hab]; exact Or.inr ⟨rfl, by omega⟩
    · have e1 : ¬ (2 * (6 * j + r) + w = 2 * (6 * x + y) + z) := by omega
      have e2 : ¬ (j = x ∧ w * 6 + r = z * 6 + y) := by omega
      clear e
      (repeat (first | rw [um_o (by omega)] | rw [um_s (by omega)])); exact hx
  · have hk2 : σ 1 2 ≤ (j : Int) := by revert hk; (repeat (first | rw [um_o (by omega)] | rw [um_s (by omega)])); exact id
    have := hE j hj hk2
    (repeat (first | rw [um_o (by omega)] | rw [um_s (by omega)])); exact this
theorem GT_set {σ : Mem} {w v : Int} (h : GT σ) (hw : 0 ≤ w ∧ w ≤ 3) (hv : loS w ≤ v ∧ v ≤ hiS w) : GT (um (um σ 8 w.toNat v) 44 (7 + w).toNat v) := by
  obtain ⟨hI, hR, hE⟩ := h
  have h1 := hI.1
  have hm := hR.1
  have h2 := hI.2.1
  have k1 : ∀ j, j < 6 → (∀ b, um (um σ 8 w.toNat v) 44 (7 + w).toNat v (26 + j) b = σ (26 + j) b) ∧ (∀ b, um (um σ 8 w.toNat v) 44 (7 + w).toNat v (32 + j) b = σ (32 + j) b) ∧ (∀ b, um (um σ 8 w.toNat v) 44 (7 + w).toNat v (38 + j) b = σ (38 + j) b) := fun j hj => ⟨fun b => by (repeat (first | rw [um_o (by omega)] | rw [um_s (by omega)])), fun b => by (repeat (first | rw [um_o (by omega)] | rw [um_s (by omega)])), fun b => by (repeat (first | rw [um_o (by omega)] | rw [um_s (by omega)]))⟩
  have k2 : ∀ a b, 45 ≤ a → um (um σ 8 w.toNat v) 44 (7 + w).toNat v a b = σ a b := fun a b ha => by (repeat (first | rw [um_o (by omega)] | rw [um_s (by omega)]))
  have k3 : um (um σ 8 w.toNat v) 44 (7 + w).toNat v 1 2 = σ 1 2 := by (repeat (first | rw [um_o (by omega)] | rw [um_s (by omega)]))
  have k4 : um (um σ 8 w.toNat v) 44 (7 + w).toNat v 44 6 = σ 44 6 := by (repeat (first | rw [um_o (by omega)] | rw [um_s (by omega)]))
  refine ⟨⟨by rw [k3]; exact hI.1, ?_, fun j hj => ?_, fun j t hj ht => ?_⟩, ⟨?_, fun j hj => ?_, fun j r w hj hr hw => ?_⟩, fun j hj hk => ?_⟩
  · clear k1 k2 k3 k4
    rcases (show w = 0 ∨ w = 1 ∨ w = 2 ∨ w = 3 by omega) with rfl | rfl | rfl | rfl <;> (simp only [loS, hiS] at hv; simp at hv; (repeat (first | rw [um_o (by omega)] | rw [um_s (by omega)])); omega)
  · rw [(k1 j hj).1, (k1 j hj).1, (k1 j hj).1]; exact hI.2.2.1 j hj
  · rw [(k1 j hj).2.1, (k1 j hj).2.2]; exact hI.2.2.2 j t hj ht
  · rw [k3, k4]
    refine ⟨hm.1, ?_⟩
    clear k1 k2 k3 k4
    rcases (show w = 0 ∨ w = 1 ∨ w = 2 ∨ w = 3 by omega) with rfl | rfl | rfl | rfl <;> ((repeat (first | rw [um_o (by omega)] | rw [um_s (by omega)])); simp; omega)
  · rw [k3] at hj
    rw [k2 45 j (by omega), k2 46 j (by omega), k2 50 j (by omega), (k1 j (by omega)).1, (k1 j (by omega)).1, (k1 j (by omega)).1]; exact hR.2.1 j hj
  · rw [k2 47 _ (by omega), k2 48 _ (by omega), k2 49 _ (by omega), (k1 j hj).2.1, (k1 j hj).2.2]; exact hR.2.2 j r w hj hr hw
  · rw [k3] at hk; rw [(k1 j hj).1]; exact hE j hj hk
theorem GT_pus {σ : Mem} {r x : Int} (h : GT σ) (hr : 0 ≤ r ∧ r < σ 1 2) (hx : (x = -6 ∨ 0 ≤ x) ∧ x ≤ 299) : GT (um (um σ (26 + r.toNat) 4 x) 50 r.toNat x) := by
  obtain ⟨hI, hR, hE⟩ := h
  have h1 := hI.1
  have hm := hR.1
  generalize hN : r.toNat = N
  have hN1 : (N : Int) = r := by omega
  refine ⟨⟨?_, ?_, fun j hj => ?_, fun j t hj ht => ?_⟩, ⟨?_, fun j hj => ?_, fun j r w hj hr hw => ?_⟩, fun j hj hk => ?_⟩
  · (repeat (first | rw [um_o (by omega)] | rw [um_s (by omega)])); exact hI.1
  · (repeat (first | rw [um_o (by omega)] | rw [um_s (by omega)])); exact hI.2.1
  · have hy := hI.2.2.1 j hj
    by_cases e : j = N
    · (repeat (first | rw [um_o (by omega)] | rw [um_s (by omega)])); exact ⟨hy.1, hy.2.1, hx⟩
    · (repeat (first | rw [um_o (by omega)] | rw [um_s (by omega)])); exact hy
  · (repeat (first | rw [um_o (by omega)] | rw [um_s (by omega)])); exact hI.2.2.2 j t hj ht
  · (repeat (first | rw [um_o (by omega)] | rw [um_s (by omega)])); exact hm
  · have hj2 : (j : Int) < σ 1 2 := by revert hj; (repeat (first | rw [um_o (by omega)] | rw [um_s (by omega)])); exact id
    have hy := hR.2.1 j hj2
    by_cases e : j = N
    · (repeat (first | rw [um_o (by omega)] | rw [um_s (by omega)])); exact ⟨hy.1, hy.2.1, rfl⟩
    · (repeat (first | rw [um_o (by omega)] | rw [um_s (by omega)])); exact hy
  · (repeat (first | rw [um_o (by omega)] | rw [um_s (by omega)])); exact hR.2.2 j r w hj hr hw
  · have hk2 : σ 1 2 ≤ (j : Int) := by revert hk; (repeat (first | rw [um_o (by omega)] | rw [um_s (by omega)])); exact id
    have := hE j hj hk2
    (repeat (first | rw [um_o (by omega)] | rw [um_s (by omega)])); exact this
theorem GJ_kno {σ : Mem} {J : Nat} {x y : Int} (h : GJ σ) (hJ : J < 4) (hx : 0 ≤ x ∧ x ≤ y ∧ y ≤ 50) : GJ (um (um (um (um σ (14 + J) 0 x) (14 + J) 1 y) 53 J x) 54 J y) := by
  refine ⟨fun j hj => ?_, fun j hj => ?_⟩
  · have hy := h.1 j hj
    by_cases e : j = J
    · (repeat (first | rw [um_o (by omega)] | rw [um_s (by omega)])); exact ⟨hx.1, hx.2.1, hx.2.2, hy.2.2.2⟩
    · (repeat (first | rw [um_o (by omega)] | rw [um_s (by omega)])); exact hy
  · have hy := h.2 j hj
    by_cases e : j = J
    · (repeat (first | rw [um_o (by omega)] | rw [um_s (by omega)])); exact ⟨rfl, rfl, hy.2.2⟩
    · (repeat (first | rw [um_o (by omega)] | rw [um_s (by omega)])); exact hy
theorem GJ_tel {σ : Mem} {J : Nat} {x : Int} (h : GJ σ) (hx : (x = -6 ∨ 0 ≤ x) ∧ x ≤ 99999) : GJ (um (um σ 12 J x) 55 J x) := by
  refine ⟨fun j hj => ?_, fun j hj => ?_⟩
  · have hy := h.1 j hj
    by_cases e : j = J
    · (repeat (first | rw [um_o (by omega)] | rw [um_s (by omega)])); exact ⟨hy.1, hy.2.1, hy.2.2.1, hx⟩
    · (repeat (first | rw [um_o (by omega)] | rw [um_s (by omega)])); exact hy
  · have hy := h.2 j hj
    by_cases e : j = J
    · (repeat (first | rw [um_o (by omega)] | rw [um_s (by omega)])); exact ⟨hy.1, hy.2.1, rfl⟩
    · (repeat (first | rw [um_o (by omega)] | rw [um_s (by omega)])); exact hy
theorem GS_say {σ : Mem} {sg : Int} (h : GS σ) (hn : σ 4 1 < 30) (hs : 33 ≤ sg ∧ sg ≤ 126) : GS (um (um (um (um σ 13 (σ 4 1).toNat sg) 4 1 (σ 4 1 + 1)) 56 (σ 4 1).toNat sg) 44 20 (σ 4 1 + 1)) := by
  have h1 := h.1.1
  generalize hN : (σ 4 1).toNat = N
  have hN1 : (N : Int) = σ 4 1 := by omega
  refine ⟨⟨?_, fun i hi => ?_⟩, ⟨?_, fun i hi => ?_⟩⟩
  · (repeat (first | rw [um_o (by omega)] | rw [um_s (by omega)])); omega
  · have hi2 : (i : Int) < σ 4 1 + 1 := by revert hi; (repeat (first | rw [um_o (by omega)] | rw [um_s (by omega)])); exact id
    by_cases e : i = N
    · (repeat (first | rw [um_o (by omega)] | rw [um_s (by omega)])); exact hs
    · have := h.1.2 i (by omega)
      (repeat (first | rw [um_o (by omega)] | rw [um_s (by omega)])); exact this
  · (repeat (first | rw [um_o (by omega)] | rw [um_s (by omega)]))
  · have hi2 : (i : Int) < σ 4 1 + 1 := by revert hi; (repeat (first | rw [um_o (by omega)] | rw [um_s (by omega)])); exact id
    by_cases e : i = N
    · (repeat (first | rw [um_o (by omega)] | rw [um_s (by omega)]))
    · have := h.2.2 i (by omega)
      (repeat (first | rw [um_o (by omega)] | rw [um_s (by omega)])); exact this
theorem GS_wip {σ τ : Mem} (h1 : τ 4 1 = 0) (h2 : τ 44 20 = 0) : GS τ :=
  ⟨⟨by omega, fun i hi => by omega⟩, ⟨by omega, fun i hi => by omega⟩⟩
theorem GX_sli {σ : Mem} {sd rw : Int} (h : GX σ) (hn : σ 6 3 < 8) (hs : 0 ≤ sd ∧ sd ≤ 1) (hr : 1 ≤ rw ∧ rw ≤ 63) : GX (um (um (um (um (um (um σ 23 (σ 6 3).toNat sd) 24 (σ 6 3).toNat rw) 6 3 (σ 6 3 + 1)) 60 (σ 6 3).toNat sd) 61 (σ 6 3).toNat rw) 44 27 (σ 6 3 + 1)) := by
  have h1 := h.1.1
  generalize hN : (σ 6 3).toNat = N
  have hN1 : (N : Int) = σ 6 3 := by omega
  refine ⟨⟨?_, fun i hi => ?_⟩, ⟨?_, fun i hi => ?_⟩⟩
  · (repeat (first | rw [um_o (by omega)] | rw [um_s (by omega)])); omega
  · have hi2 : (i : Int) < σ 6 3 + 1 := by revert hi; (repeat (first | rw [um_o (by omega)] | rw [um_s (by omega)])); exact id
    by_cases e : i = N
    · (repeat (first | rw [um_o (by omega)] | rw [um_s (by omega)])); exact ⟨hs, hr⟩
    · have := h.1.2 i (by omega)
      (repeat (first | rw [um_o (by omega)] | rw [um_s (by omega)])); exact this
  · (repeat (first | rw [um_o (by omega)] | rw [um_s (by omega)]))
  · have hi2 : (i : Int) < σ 6 3 + 1 := by revert hi; (repeat (first | rw [um_o (by omega)] | rw [um_s (by omega)])); exact id
    by_cases e : i = N
    · (repeat (first | rw [um_o (by omega)] | rw [um_s (by omega)])); exact ⟨rfl, rfl⟩
    · have := h.2.2 i (by omega)
      (repeat (first | rw [um_o (by omega)] | rw [um_s (by omega)])); exact this
theorem LI_rd {β : Mem} {s : Nat → Int} {n : Nat} (hn : n ≤ 30) (h : tFF s n 0 0 = -6) : ∀ l : Nat, (l : Int) < rdG β s n 5 4 → okL (rdG β s n) l := by
  have hok := tFF_ok (s := s) n 0 (by simp [tSt]) (by simpa [tSt] using h)
  have hst : ∀ j, j ≤ n → 0 ≤ tSt s j ∧ tSt s j ≤ 7 := fun j hj => hok.1 j (by omega) (by omega)
  have h4 : 4 ≤ tSt s n := by have := hok.2; rw [Nat.zero_add] at this; exact this
  have hp := PI_all (β := β) hn hst n (Nat.le_refl n)
  obtain ⟨h0, h1, -, h3, ha, hl⟩ := hp
  have hl := hl (by omega)
  have h3 := h3 (by omega)
  intro l hll
  by_cases e : (l : Int) < rdG β s n 5 4 - 1
  · exact ha l (by rw [if_neg (by omega)]; exact e)
  · rw [show l = (rdG β s n 5 4 - 1).toNat by omega]
    have hpw : pw (tSt s n) ≤ 9999 := by unfold pw; split <;> (try split) <;> (try split) <;> (try split) <;> omega
    exact ⟨hl.1, hl.2.1 (by omega), hl.2.2.1, ⟨hl.2.2.2.2.1, by omega⟩⟩
