/-! each pair of mutators: the model's call may come, and it answers alike and keeps the invariant -/
theorem m_runner {σ τ : Mem} {b v r : Int} (h : Inv σ) (h1 : if ¬ ((-3000 ≤ b ∧ b ≤ 0) ∧ (1 ≤ v ∧ v ≤ 20)) then r = -2 ∧ τ = σ else if 6 ≤ σ 1 2 then r = -4 ∧ τ = σ else r = σ 1 2 ∧ τ = kEnt σ b v) :
    (0 ≤ τ 44 6 ∧ τ 44 6 ≤ 6) ∧ ∀ (r' : Int) (υ : Mem), (if ¬ ((-3000 ≤ b ∧ b ≤ 0) ∧ (1 ≤ v ∧ v ≤ 20)) then r' = -2 ∧ υ = τ else if 6 ≤ τ 44 6 then r' = -4 ∧ υ = τ else r' = τ 44 6 ∧ υ = mEnt τ b v) → r' = r ∧ Inv υ := by
  have hT := h.1
  have h11 := hT.1.1
  have hm := hT.2.1.1.1
  split at h1
  · rename_i c1
    obtain ⟨e1, e2⟩ := h1
    subst e1; subst e2
    refine ⟨by omega, fun r' υ h2 => ?_⟩
    rw [if_pos c1] at h2
    exact ⟨h2.1, by rw [h2.2]; exact h⟩
  · rename_i c1
    split at h1
    · rename_i c2
      obtain ⟨e1, e2⟩ := h1
      subst e1; subst e2
      refine ⟨by omega, fun r' υ h2 => ?_⟩
      rw [if_neg c1, if_pos (by omega)] at h2
      exact ⟨h2.1, by rw [h2.2]; exact h⟩
    · rename_i c2
      obtain ⟨e1, e2⟩ := h1
      subst e1; subst e2
      have e6 : kEnt σ b v 44 6 = σ 1 2 := by unfold kEnt; (repeat (first | rw [um_o (by omega)] | rw [um_s (by omega)])); exact hm
      refine ⟨by rw [e6]; omega, fun r' υ h2 => ?_⟩
      rw [if_neg c1, if_neg (by rw [e6]; omega)] at h2
      refine ⟨by rw [h2.1, e6], ?_⟩
      rw [h2.2]
      exact ⟨GT_ent hT (by omega) (by omega) (by omega), GJ_cg (by unfold mEnt kEnt; (repeat (first | exact ag_rf | refine ag_um ?_ (by unfold dJ; omega)))) h.2.1, GS_cg (by unfold mEnt kEnt; (repeat (first | exact ag_rf | refine ag_um ?_ (by unfold dS; omega)))) h.2.2.1, GL_cg (by unfold mEnt kEnt; (repeat (first | exact ag_rf | refine ag_um ?_ (by unfold dL; omega)))) h.2.2.2.1, GX_cg (by unfold mEnt kEnt; (repeat (first | exact ag_rf | refine ag_um ?_ (by unfold dX; omega)))) h.2.2.2.2⟩
theorem m_shape {σ τ : Mem} {r row what a b res : Int} (h : Inv σ) (h1 : if ¬ ((0 ≤ r ∧ r < σ 1 2) ∧ (0 ≤ row ∧ row ≤ 5)) then res = -1 ∧ τ = σ else if ¬ ((0 ≤ what ∧ what ≤ 1) ∧ (-9 ≤ a ∧ a ≤ 9) ∧ (-9 ≤ b ∧ b ≤ 9)) then res = -2 ∧ τ = σ else res = 1 ∧ τ = kShp σ r row what a b) :
    (0 ≤ τ 44 6 ∧ τ 44 6 ≤ 6) ∧ ∀ (res' : Int) (υ : Mem), (if ¬ ((0 ≤ r ∧ r < τ 44 6) ∧ (0 ≤ row ∧ row ≤ 5)) then res' = -1 ∧ υ = τ else if ¬ ((0 ≤ what ∧ what ≤ 1) ∧ (-9 ≤ a ∧ a ≤ 9) ∧ (-9 ≤ b ∧ b ≤ 9)) then res' = -2 ∧ υ = τ else res' = 1 ∧ υ = mShp τ r row what a b) → res' = res ∧ Inv υ := by
  have hT := h.1
  have h11 := hT.1.1
  have hm := hT.2.1.1.1
  split at h1
  · rename_i c1
    obtain ⟨e1, e2⟩ := h1
    subst e1; subst e2
    refine ⟨by omega, fun r' υ h2 => ?_⟩
    rw [if_pos (by omega)] at h2
    exact ⟨h2.1, by rw [h2.2]; exact h⟩
  · rename_i c1
    split at h1
    · rename_i c2
      obtain ⟨e1, e2⟩ := h1
      subst e1; subst e2
      refine ⟨by omega, fun r' υ h2 => ?_⟩
      rw [if_neg (by omega), if_pos (by omega)] at h2
      exact ⟨h2.1, by rw [h2.2]; exact h⟩
    · rename_i c2
      obtain ⟨e1, e2⟩ := h1
      subst e1; subst e2
      have e6 : kShp σ r row what a b 44 6 = σ 1 2 := by unfold kShp; (repeat (first | rw [um_o (by omega)] | rw [um_s (by omega)])); exact hm
      refine ⟨by rw [e6]; omega, fun r' υ h2 => ?_⟩
      rw [e6, if_neg (by omega), if_neg (by omega)] at h2
      refine ⟨h2.1, ?_⟩
      rw [h2.2]
      exact ⟨GT_shp hT (by omega) (by omega) (by omega) (by omega) (by omega), GJ_cg (by unfold mShp kShp; (repeat (first | exact ag_rf | refine ag_um ?_ (by unfold dJ; omega)))) h.2.1, GS_cg (by unfold mShp kShp; (repeat (first | exact ag_rf | refine ag_um ?_ (by unfold dS; omega)))) h.2.2.1, GL_cg (by unfold mShp kShp; (repeat (first | exact ag_rf | refine ag_um ?_ (by unfold dL; omega)))) h.2.2.2.1, GX_cg (by unfold mShp kShp; (repeat (first | exact ag_rf | refine ag_um ?_ (by unfold dX; omega)))) h.2.2.2.2⟩
theorem m_set {σ τ : Mem} {w v r : Int} (h : Inv σ) (h1 : if ¬ ((0 ≤ w ∧ w ≤ 3) ∧ (loS w ≤ v ∧ v ≤ hiS w)) then r = -2 ∧ τ = σ else r = σ 8 w.toNat ∧ τ = um σ 8 w.toNat v) :
    ∀ (r' : Int) (υ : Mem), (if ¬ ((0 ≤ w ∧ w ≤ 3) ∧ (loS w ≤ v ∧ v ≤ hiS w)) then r' = -2 ∧ υ = τ else r' = τ 44 (7 + w).toNat ∧ υ = um τ 44 (7 + w).toNat v) → r' = r ∧ Inv υ := by
  have hT := h.1
  have hm := hT.2.1.1
  split at h1
  · rename_i c1
    obtain ⟨e1, e2⟩ := h1
    subst e1; subst e2
    intro r' υ h2
    rw [if_pos c1] at h2
    exact ⟨h2.1, by rw [h2.2]; exact h⟩
  · rename_i c1
    obtain ⟨e1, e2⟩ := h1
    subst e1; subst e2
    intro r' υ h2
    rw [if_neg c1] at h2
    refine ⟨?_, ?_⟩
    · rw [h2.1, um_o (by omega)]
      rcases (show w = 0 ∨ w = 1 ∨ w = 2 ∨ w = 3 by omega) with rfl | rfl | rfl | rfl
      · exact hm.2.1
      · exact hm.2.2.1
      · exact hm.2.2.2.1
      · exact hm.2.2.2.2
    · rw [h2.2]
      exact ⟨GT_set hT (by omega) (by omega), GJ_cg (by (repeat (first | exact ag_rf | refine ag_um ?_ (by unfold dJ; omega)))) h.2.1, GS_cg (by (repeat (first | exact ag_rf | refine ag_um ?_ (by unfold dS; omega)))) h.2.2.1, GL_cg (by (repeat (first | exact ag_rf | refine ag_um ?_ (by unfold dL; omega)))) h.2.2.2.1, GX_cg (by (repeat (first | exact ag_rf | refine ag_um ?_ (by unfold dX; omega)))) h.2.2.2.2⟩
theorem m_push {σ τ : Mem} {r col res : Int} (h : Inv σ) (h1 : if ¬ (0 ≤ r ∧ r < σ 1 2) then res = -1 ∧ τ = σ else if ¬ (-1 ≤ col ∧ col ≤ 299) then res = -2 ∧ τ = σ else res = σ (26 + r.toNat) 4 ∧ τ = um σ (26 + r.toNat) 4 (if col = -1 then -6 else col)) :
    (0 ≤ τ 44 6 ∧ τ 44 6 ≤ 6) ∧ ∀ (res' : Int) (υ : Mem), (if ¬ (0 ≤ r ∧ r < τ 44 6) then res' = -1 ∧ υ = τ else if ¬ (-1 ≤ col ∧ col ≤ 299) then res' = -2 ∧ υ = τ else res' = τ 50 r.toNat ∧ υ = um τ 50 r.toNat (if col = -1 then -6 else col)) → res' = res ∧ Inv υ := by
  have hT := h.1
  have h11 := hT.1.1
  have hm := hT.2.1.1.1
  split at h1
  · rename_i c1
    obtain ⟨e1, e2⟩ := h1
    subst e1; subst e2
    refine ⟨by omega, fun r' υ h2 => ?_⟩
    rw [if_pos (by omega)] at h2
    exact ⟨h2.1, by rw [h2.2]; exact h⟩
  · rename_i c1
    split at h1
    · rename_i c2
      obtain ⟨e1, e2⟩ := h1
      subst e1; subst e2
      refine ⟨by omega, fun r' υ h2 => ?_⟩
      rw [if_neg (by omega), if_pos (by omega)] at h2
      exact ⟨h2.1, by rw [h2.2]; exact h⟩
    · rename_i c2
      obtain ⟨e1, e2⟩ := h1
      subst e1
      have e6 : τ 44 6 = σ 1 2 := by rw [e2]; (repeat (first | rw [um_o (by omega)] | rw [um_s (by omega)])); exact hm
      have e5 : τ 50 r.toNat = σ 50 r.toNat := by rw [e2]; (repeat (first | rw [um_o (by omega)] | rw [um_s (by omega)]))
      have hx : ((if col = -1 then -6 else col) = -6 ∨ 0 ≤ (if col = -1 then -6 else col)) ∧ (if col = -1 then -6 else col) ≤ 299 := by split <;> omega
      refine ⟨by rw [e6]; omega, fun r' υ h2 => ?_⟩
      rw [e6, if_neg (by omega), if_neg (by omega)] at h2
      refine ⟨by rw [h2.1, e5]; exact (hT.2.1.2.1 r.toNat (by omega)).2.2, ?_⟩
      rw [h2.2, e2]
      exact ⟨GT_pus hT (by omega) hx, GJ_cg (by (repeat (first | exact ag_rf | refine ag_um ?_ (by unfold dJ; omega)))) h.2.1, GS_cg (by (repeat (first | exact ag_rf | refine ag_um ?_ (by unfold dS; omega)))) h.2.2.1, GL_cg (by (repeat (first | exact ag_rf | refine ag_um ?_ (by unfold dL; omega)))) h.2.2.2.1, GX_cg (by (repeat (first | exact ag_rf | refine ag_um ?_ (by unfold dX; omega)))) h.2.2.2.2⟩
theorem m_known {σ τ : Mem} {ju told truly r : Int} (h : Inv σ) (h1 : if ¬ (0 ≤ ju ∧ ju ≤ 3) then r = -1 ∧ τ = σ else if ¬ ((0 ≤ told ∧ told ≤ 99999) ∧ (0 ≤ truly ∧ truly ≤ 99999)) then r = -2 ∧ τ = σ else if (min (σ (14 + ju.toNat) 1) (told - truly + 1)) < (max (σ (14 + ju.toNat) 0) (told - truly - 1)) then r = -5 ∧ τ = σ else r = 1 ∧ τ = um (um σ (14 + ju.toNat) 0 (max (σ (14 + ju.toNat) 0) (told - truly - 1))) (14 + ju.toNat) 1 (min (σ (14 + ju.toNat) 1) (told - truly + 1))) :
    (∀ j : Nat, j < 4 → (0 ≤ τ 53 j ∧ τ 53 j ≤ 50) ∧ (0 ≤ τ 54 j ∧ τ 54 j ≤ 50)) ∧ ∀ (r' : Int) (υ : Mem), (if ¬ (0 ≤ ju ∧ ju ≤ 3) then r' = -1 ∧ υ = τ else if ¬ ((0 ≤ told ∧ told ≤ 99999) ∧ (0 ≤ truly ∧ truly ≤ 99999)) then r' = -2 ∧ υ = τ else if (min (τ 54 ju.toNat) (told - truly + 1)) < (max (τ 53 ju.toNat) (told - truly - 1)) then r' = -5 ∧ υ = τ else r' = 1 ∧ υ = um (um τ 53 ju.toNat (max (τ 53 ju.toNat) (told - truly - 1))) 54 ju.toNat (min (τ 54 ju.toNat) (told - truly + 1))) → r' = r ∧ Inv υ := by
  have hJ := h.2.1
  have hb : ∀ j : Nat, j < 4 → (0 ≤ σ 53 j ∧ σ 53 j ≤ 50) ∧ (0 ≤ σ 54 j ∧ σ 54 j ≤ 50) := fun j hj => by
    have h3 := hJ.1 j hj
    have h4 := hJ.2 j hj
    rw [h4.1, h4.2.1]; omega
  split at h1
  · rename_i c1
    obtain ⟨e1, e2⟩ := h1
    subst e1; subst e2
    refine ⟨hb, fun r' υ h2 => ?_⟩
    rw [if_pos c1] at h2
    exact ⟨h2.1, by rw [h2.2]; exact h⟩
  · rename_i c1
    split at h1
    · rename_i c2
      obtain ⟨e1, e2⟩ := h1
      subst e1; subst e2
      refine ⟨hb, fun r' υ h2 => ?_⟩
      rw [if_neg c1, if_pos c2] at h2
      exact ⟨h2.1, by rw [h2.2]; exact h⟩
    · rename_i c2
      generalize hN : ju.toNat = N at h1 ⊢
      have hN4 : N < 4 := by omega
      have h3 := hJ.1 N hN4
      have h4 := hJ.2 N hN4
      split at h1
      · rename_i c3
        obtain ⟨e1, e2⟩ := h1
        subst e1; subst e2
        refine ⟨hb, fun r' υ h2 => ?_⟩
        rw [if_neg c1, if_neg c2, h4.1, h4.2.1, if_pos c3] at h2
        exact ⟨h2.1, by rw [h2.2]; exact h⟩
      · rename_i c3
        obtain ⟨e1, e2⟩ := h1
        subst e1
        have e53 : ∀ j, τ 53 j = σ 53 j := fun j => by rw [e2]; (repeat (first | rw [um_o (by omega)] | rw [um_s (by omega)]))
        have e54 : ∀ j, τ 54 j = σ 54 j := fun j => by rw [e2]; (repeat (first | rw [um_o (by omega)] | rw [um_s (by omega)]))
        refine ⟨fun j hj => by rw [e53, e54]; exact hb j hj, fun r' υ h2 => ?_⟩
        rw [e53, e54, if_neg c1, if_neg c2, h4.1, h4.2.1, if_neg c3] at h2
        refine ⟨h2.1, ?_⟩
        rw [h2.2, e2]
        exact ⟨GT_cg (by (repeat (first | exact ag_rf | refine ag_um ?_ (by unfold dT; omega)))) h.1, GJ_kno hJ hN4 (by omega), GS_cg (by (repeat (first | exact ag_rf | refine ag_um ?_ (by unfold dS; omega)))) h.2.2.1, GL_cg (by (repeat (first | exact ag_rf | refine ag_um ?_ (by unfold dL; omega)))) h.2.2.2.1, GX_cg (by (repeat (first | exact ag_rf | refine ag_um ?_ (by unfold dX; omega)))) h.2.2.2.2⟩
theorem m_tell {σ τ : Mem} {ju t r : Int} (h : Inv σ) (h1 : if ¬ (0 ≤ ju ∧ ju ≤ 3) then r = -1 ∧ τ = σ else if ¬ (-1 ≤ t ∧ t ≤ 99999) then r = -2 ∧ τ = σ else r = σ 12 ju.toNat ∧ τ = um σ 12 ju.toNat (if t = -1 then -6 else t)) :
    ∀ (r' : Int) (υ : Mem), (if ¬ (0 ≤ ju ∧ ju ≤ 3) then r' = -1 ∧ υ = τ else if ¬ (-1 ≤ t ∧ t ≤ 99999) then r' = -2 ∧ υ = τ else r' = τ 55 ju.toNat ∧ υ = um τ 55 ju.toNat (if t = -1 then -6 else t)) → r' = r ∧ Inv υ := by
  have hJ := h.2.1
  split at h1
  · rename_i c1
    obtain ⟨e1, e2⟩ := h1
    subst e1; subst e2
    intro r' υ h2
    rw [if_pos c1] at h2
    exact ⟨h2.1, by rw [h2.2]; exact h⟩
  · rename_i c1
    split at h1
    · rename_i c2
      obtain ⟨e1, e2⟩ := h1
      subst e1; subst e2
      intro r' υ h2
      rw [if_neg c1, if_pos c2] at h2
      exact ⟨h2.1, by rw [h2.2]; exact h⟩
    · rename_i c2
      obtain ⟨e1, e2⟩ := h1
      subst e1
      intro r' υ h2
      have e5 : τ 55 ju.toNat = σ 55 ju.toNat := by rw [e2]; (repeat (first | rw [um_o (by omega)] | rw [um_s (by omega)]))
      have hx : ((if t = -1 then -6 else t) = -6 ∨ 0 ≤ (if t = -1 then -6 else t)) ∧ (if t = -1 then -6 else t) ≤ 99999 := by split <;> omega
      rw [if_neg c1, if_neg c2] at h2
      refine ⟨by rw [h2.1, e5]; exact (hJ.2 ju.toNat (by omega)).2.2, ?_⟩
      rw [h2.2, e2]
      exact ⟨GT_cg (by (repeat (first | exact ag_rf | refine ag_um ?_ (by unfold dT; omega)))) h.1, GJ_tel hJ hx, GS_cg (by (repeat (first | exact ag_rf | refine ag_um ?_ (by unfold dS; omega)))) h.2.2.1, GL_cg (by (repeat (first | exact ag_rf | refine ag_um ?_ (by unfold dL; omega)))) h.2.2.2.1, GX_cg (by (repeat (first | exact ag_rf | refine ag_um ?_ (by unfold dX; omega)))) h.2.2.2.2⟩
theorem m_say {σ τ : Mem} {sg r : Int} (h : Inv σ) (h1 : if ¬ (33 ≤ sg ∧ sg ≤ 126) then r = -2 ∧ τ = σ else if 30 ≤ σ 4 1 then r = -4 ∧ τ = σ else r = σ 4 1 + 1 ∧ τ = um (um σ 13 (σ 4 1).toNat sg) 4 1 (σ 4 1 + 1)) :
    (0 ≤ τ 44 20 ∧ τ 44 20 ≤ 30) ∧ ∀ (r' : Int) (υ : Mem), (if ¬ (33 ≤ sg ∧ sg ≤ 126) then r' = -2 ∧ υ = τ else if 30 ≤ τ 44 20 then r' = -4 ∧ υ = τ else r' = τ 44 20 + 1 ∧ υ = um (um τ 56 (τ 44 20).toNat sg) 44 20 (τ 44 20 + 1)) → r' = r ∧ Inv υ := by
  have hS := h.2.2.1
  have h41 := hS.1.1
  have hm := hS.2.1
  split at h1
  · rename_i c1
    obtain ⟨e1, e2⟩ := h1
    subst e1; subst e2
    refine ⟨by omega, fun r' υ h2 => ?_⟩
    rw [if_pos c1] at h2
    exact ⟨h2.1, by rw [h2.2]; exact h⟩
  · rename_i c1
    split at h1
    · rename_i c2
      obtain ⟨e1, e2⟩ := h1
      subst e1; subst e2
      refine ⟨by omega, fun r' υ h2 => ?_⟩
      rw [if_neg c1, if_pos (by omega)] at h2
      exact ⟨h2.1, by rw [h2.2]; exact h⟩
    · rename_i c2
      obtain ⟨e1, e2⟩ := h1
      subst e1
      have e6 : τ 44 20 = σ 4 1 := by rw [e2]; (repeat (first | rw [um_o (by omega)] | rw [um_s (by omega)])); exact hm
      refine ⟨by rw [e6]; omega, fun r' υ h2 => ?_⟩
      rw [e6, if_neg c1, if_neg (by omega)] at h2
      refine ⟨h2.1, ?_⟩
      rw [h2.2, e2]
      exact ⟨GT_cg (by (repeat (first | exact ag_rf | refine ag_um ?_ (by unfold dT; omega)))) h.1, GJ_cg (by (repeat (first | exact ag_rf | refine ag_um ?_ (by unfold dJ; omega)))) h.2.1, GS_say hS (by omega) (by omega), GL_cg (by (repeat (first | exact ag_rf | refine ag_um ?_ (by unfold dL; omega)))) h.2.2.2.1, GX_cg (by (repeat (first | exact ag_rf | refine ag_um ?_ (by unfold dX; omega)))) h.2.2.2.2⟩
theorem m_wipe {σ τ : Mem} {r : Int} (h : Inv σ) (h1 : r = σ 4 1 ∧ τ = um σ 4 1 0) : ∀ (r' : Int) (υ : Mem), (r' = τ 44 20 ∧ υ = um τ 44 20 0) → r' = r ∧ Inv υ := by
  intro r' υ h2
  obtain ⟨e1, e2⟩ := h1
  refine ⟨by rw [h2.1, e1, e2]; (repeat (first | rw [um_o (by omega)] | rw [um_s (by omega)])); exact h.2.2.1.2.1, ?_⟩
  rw [h2.2, e2]
  exact ⟨GT_cg (by (repeat (first | exact ag_rf | refine ag_um ?_ (by unfold dT; omega)))) h.1, GJ_cg (by (repeat (first | exact ag_rf | refine ag_um ?_ (by unfold dJ; omega)))) h.2.1, GS_wip (σ := σ) (by (repeat (first | rw [um_o (by omega)] | rw [um_s (by omega)]))) (by (repeat (first | rw [um_o (by omega)] | rw [um_s (by omega)]))), GL_cg (by (repeat (first | exact ag_rf | refine ag_um ?_ (by unfold dL; omega)))) h.2.2.2.1, GX_cg (by (repeat (first | exact ag_rf | refine ag_um ?_ (by unfold dX; omega)))) h.2.2.2.2⟩
theorem m_slit {σ τ : Mem} {sd rw r : Int} (h : Inv σ) (h1 : if ¬ ((0 ≤ sd ∧ sd ≤ 1) ∧ (1 ≤ rw ∧ rw ≤ 63)) then r = -2 ∧ τ = σ else if 8 ≤ σ 6 3 then r = -4 ∧ τ = σ else r = σ 6 3 ∧ τ = um (um (um σ 23 (σ 6 3).toNat sd) 24 (σ 6 3).toNat rw) 6 3 (σ 6 3 + 1)) :
    (0 ≤ τ 44 27 ∧ τ 44 27 ≤ 8) ∧ ∀ (r' : Int) (υ : Mem), (if ¬ ((0 ≤ sd ∧ sd ≤ 1) ∧ (1 ≤ rw ∧ rw ≤ 63)) then r' = -2 ∧ υ = τ else if 8 ≤ τ 44 27 then r' = -4 ∧ υ = τ else r' = τ 44 27 ∧ υ = um (um (um τ 60 (τ 44 27).toNat sd) 61 (τ 44 27).toNat rw) 44 27 (τ 44 27 + 1)) → r' = r ∧ Inv υ := by
  have hS := h.2.2.2.2
  have h41 := hS.1.1
  have hm := hS.2.1
  split at h1
  · rename_i c1
    obtain ⟨e1, e2⟩ := h1
    subst e1; subst e2
    refine ⟨by omega, fun r' υ h2 => ?_⟩
    rw [if_pos c1] at h2
    exact ⟨h2.1, by rw [h2.2]; exact h⟩
  · rename_i c1
    split at h1
    · rename_i c2
      obtain ⟨e1, e2⟩ := h1
      subst e1; subst e2
      refine ⟨by omega, fun r' υ h2 => ?_⟩
      rw [if_neg c1, if_pos (by omega)] at h2
      exact ⟨h2.1, by rw [h2.2]; exact h⟩
    · rename_i c2
      obtain ⟨e1, e2⟩ := h1
      subst e1
      have e6 : τ 44 27 = σ 6 3 := by rw [e2]; (repeat (first | rw [um_o (by omega)] | rw [um_s (by omega)])); exact hm
      refine ⟨by rw [e6]; omega, fun r' υ h2 => ?_⟩
      rw [e6, if_neg c1, if_neg (by omega)] at h2
      refine ⟨h2.1, ?_⟩
      rw [h2.2, e2]
      exact ⟨GT_cg (by (repeat (first | exact ag_rf | refine ag_um ?_ (by unfold dT; omega)))) h.1, GJ_cg (by (repeat (first | exact ag_rf | refine ag_um ?_ (by unfold dJ; omega)))) h.2.1, GS_cg (by (repeat (first | exact ag_rf | refine ag_um ?_ (by unfold dS; omega)))) h.2.2.1, GL_cg (by (repeat (first | exact ag_rf | refine ag_um ?_ (by unfold dL; omega)))) h.2.2.2.1, GX_sli hS (by omega) (by omega) (by omega)⟩
theorem flt_eq {σ : Mem} (h : GS σ) : tFF (σ 56) (σ 44 20).toNat 0 0 = kFault (co σ) := by
  have h1 := h.1.1
  unfold kFault
  rw [co_at (a := 13) rfl, co_at (a := 4) rfl, h.2.1]
  exact tFF_cong (n := σ 4 1) h.2.2 _ 0 0 (by omega) (by omega)
theorem ag_rd {d : Nat → Nat → Prop} {σ : Mem} {s : Nat → Int} {n : Nat} (hd : ∀ a b, d a b → ¬ (a = 5 ∧ b = 4) ∧ a ≠ 19 ∧ a ≠ 20 ∧ a ≠ 21 ∧ a ≠ 22) : ag d σ (rdG σ s n) := fun a b h => rdG_row (hd a b h) n
theorem m_rule {σ τ : Mem} {r : Int} (h : Inv σ) (h1 : if kFault (co σ) ≠ -6 then r = -5 ∧ τ = σ else r = rdG σ (σ 13) (σ 4 1).toNat 5 4 ∧ τ = um (rdG σ (σ 13) (σ 4 1).toNat) 4 1 0) :
    ((0 ≤ τ 44 20 ∧ τ 44 20 ≤ 30) ∧ ∀ i : Nat, (i : Int) < τ 44 20 → 33 ≤ τ 56 i ∧ τ 56 i ≤ 126) ∧ ∀ (r' : Int) (υ : Mem), (if tFF (τ 56) (τ 44 20).toNat 0 0 ≠ -6 then r' = -5 ∧ υ = τ else r' = rdG σ (τ 56) (τ 44 20).toNat 5 4 ∧ MD (rdG σ (τ 56) (τ 44 20).toNat) υ ∧ υ 44 20 = 0 ∧ ∀ a b : Nat, ¬ (a = 57 ∨ a = 58 ∨ a = 59 ∨ (a = 44 ∧ (b = 24 ∨ b = 20))) → υ a b = τ a b) → r' = r ∧ Inv υ := by
  have hS := h.2.2.1
  have h41 := hS.1.1
  have hm := hS.2.1
  have hb : ∀ i : Nat, (i : Int) < σ 44 20 → 33 ≤ σ 56 i ∧ σ 56 i ≤ 126 := fun i hi => by rw [hS.2.2 i (by omega)]; exact hS.1.2 i (by omega)
  have hfe := flt_eq hS
  split at h1
  · rename_i c1
    obtain ⟨e1, e2⟩ := h1
    subst e1; subst e2
    refine ⟨⟨by omega, hb⟩, fun r' υ h2 => ?_⟩
    rw [if_pos (by rw [hfe]; exact c1)] at h2
    exact ⟨h2.1, by rw [h2.2]; exact h⟩
  · rename_i c1
    obtain ⟨e1, e2⟩ := h1
    have e44 : τ 44 20 = σ 44 20 := by rw [e2, um_o (by omega), rdG_row (by omega)]
    have e56 : τ 56 = σ 56 := by funext i; rw [e2, um_o (by omega), rdG_row (by omega)]
    have ecg : rdG σ (σ 56) (σ 4 1).toNat = rdG σ (σ 13) (σ 4 1).toNat := rdG_cong _ (fun i hi => hS.2.2 i (by omega))
    have hff : tFF (σ 13) (σ 4 1).toNat 0 0 = -6 := by
      have : kFault (co σ) = -6 := Classical.not_not.mp c1
      unfold kFault at this
      rw [co_at (a := 13) rfl, co_at (a := 4) rfl] at this
      exact this
    rw [e44, e56]
    refine ⟨⟨by omega, hb⟩, fun r' υ h2 => ?_⟩
    rw [if_neg (by rw [hfe]; exact c1), hm, ecg] at h2
    obtain ⟨k1, ⟨k2, k3⟩, k4, k5⟩ := h2
    have hok := LI_rd (β := σ) (s := σ 13) (n := (σ 4 1).toNat) (by omega) hff
    have hbd := rdG_b (β := σ) (s := σ 13) (σ 4 1).toNat
    have eP : ∀ a b : Nat, a = 5 ∨ a = 19 ∨ a = 20 ∨ a = 21 ∨ a = 22 → υ a b = rdG σ (σ 13) (σ 4 1).toNat a b := fun a b hab => by rw [k5 a b (by omega), e2, um_o (by omega)]
    have hag : ∀ (d : Nat → Nat → Prop), (∀ a b, d a b → ¬ (a = 57 ∨ a = 58 ∨ a = 59 ∨ (a = 44 ∧ (b = 24 ∨ b = 20))) ∧ ¬ (a = 4 ∧ b = 1) ∧ ¬ (a = 5 ∧ b = 4) ∧ a ≠ 19 ∧ a ≠ 20 ∧ a ≠ 21 ∧ a ≠ 22) → ag d σ υ := fun d hd a b hab => by
      have hd1 := hd a b hab
      rw [k5 a b hd1.1, e2, um_o hd1.2.1, rdG_row hd1.2.2]
    refine ⟨by rw [k1, e1], ?_⟩
    refine ⟨GT_cg (hag dT (fun a b hab => by unfold dT at hab; omega)) h.1, GJ_cg (hag dJ (fun a b hab => by unfold dJ at hab; omega)) h.2.1, GS_wip (σ := σ) (by rw [k5 4 1 (by omega), e2, um_s (by omega)]) k4, ⟨⟨?_, fun i hi => ?_⟩, ⟨?_, fun i hi => ?_⟩⟩, GX_cg (hag dX (fun a b hab => by unfold dX at hab; omega)) h.2.2.2.2⟩
    · rw [eP 5 4 (by omega)]; exact hbd
    · rw [eP 5 4 (by omega)] at hi
      have hx := hok i hi
      rw [eP 19 i (by omega), eP 20 i (by omega), eP 21 i (by omega), eP 22 i (by omega)]; exact hx
    · rw [eP 5 4 (by omega)]; exact k2
    · rw [eP 5 4 (by omega)] at hi
      have hx := k3 i hi
      rw [eP 19 i (by omega), eP 20 i (by omega), eP 21 i (by omega), eP 22 i (by omega)]; exact hx
/-! the first memory -/
def σ0 : Mem := fun a b => if 26 ≤ a ∧ a < 32 then (if b = 3 then 1 else if b = 4 then -6 else 0) else if 32 ≤ a ∧ a < 38 then 1 else if a = 8 then (if b = 2 then 100 else 0) else if a = 12 then -6 else if 14 ≤ a ∧ a < 18 then (if b = 1 then 50 else 0) else if a = 44 then (if b = 9 then 100 else 0) else if a = 54 then 50 else if a = 55 then -6 else 0
theorem σ0_run {j b : Nat} (hj : j < 6) : σ0 (26 + j) b = if b = 3 then 1 else if b = 4 then -6 else 0 := if_pos (by omega)
theorem σ0_frm {j b : Nat} (hj : j < 6) : σ0 (32 + j) b = 1 := by unfold σ0; rw [if_neg (by omega), if_pos (by omega)]
theorem σ0_to {j b : Nat} (hj : j < 6) : σ0 (38 + j) b = 0 := by unfold σ0; rw [if_neg (by omega), if_neg (by omega), if_neg (by omega), if_neg (by omega), if_neg (by omega), if_neg (by omega), if_neg (by omega), if_neg (by omega)]
theorem σ0_spn {j b : Nat} (hj : j < 4) : σ0 (14 + j) b = if b = 1 then 50 else 0 := by unfold σ0; rw [if_neg (by omega), if_neg (by omega), if_neg (by omega), if_neg (by omega), if_pos (by omega)]
theorem Inv_0 : Inv σ0 := by
  refine ⟨⟨⟨by decide, by decide, fun j hj => ?_, fun j t hj ht => ?_⟩, ⟨by decide, fun j hj => ?_, fun j r w hj hr hw => ?_⟩, fun j hj _ => ?_⟩, ⟨fun j hj => ?_, fun j hj => ?_⟩, GS_wip (σ := σ0) rfl rfl, ⟨⟨by decide, fun i hi => ?_⟩, ⟨rfl, fun i hi => ?_⟩⟩, ⟨⟨by decide, fun i hi => ?_⟩, ⟨rfl, fun i hi => ?_⟩⟩⟩
  · rw [σ0_run hj, σ0_run hj, σ0_run hj]; decide
  · rw [σ0_frm hj, σ0_to hj]; decide
  · have : (j : Int) < 0 := hj
    omega
  · right
    rw [σ0_frm hj, σ0_to hj]
    exact ⟨rfl, by decide⟩
  · rw [σ0_run hj]; rfl
  · rw [σ0_spn hj, σ0_spn hj]
    have e : σ0 12 j = -6 := rfl
    rw [e]; decide
  · rw [σ0_spn hj, σ0_spn hj]
    exact ⟨rfl, rfl, rfl⟩
  · have : (i : Int) < 0 := hi
    omega
  · have : (i : Int) < 0 := hi
    omega
  · have : (i : Int) < 0 := hi
    omega
  · have : (i : Int) < 0 := hi
    omega
