set_option maxHeartbeats 4000000 in
set_option maxRecDepth 100000 in
theorem c_X7_enter {l : Launch} {D : va_G} {q : Nat → Nat} {g : Nat → ClassId} {σ : Mem} (hq : qok q) (b v : Int) (hI : TI σ) : RW l yX7_enter cX7_enter 3 (some .int) 0 0 D q g σ [.ref (q 1), .int (zI b), .int (zI v)] vI (fun r τ => if 6 ≤ σ 1 2 then r = -4 ∧ τ = σ else r = σ 1 2 ∧ τ = kEnt σ b v) := by
  refine RW.intro (plainFor_of_name (by decide)) (Nat.le_of_ble_eq_true rfl) (fun p e s m args below meth c ls B hP hS hl => ?_)
  have C := B.1
  have hl : lv_has ls 3 [(0, .ref (q 1)), (1, .int (zI b)), (2, .int (zI v))] := hl
  have h1 := hI.1
  refine z_aln C hl 0 rfl dX7_enter_0 ?_
  refine gf_X7_22 C hP dX7_enter_1 ?_
  refine z_bp C dX7_enter_4 rfl ?_
  refine z_icmp_lt C 12 (by decide) (by omega) (by omega) dX7_enter_6 (fun w1 => ?_) (fun w1 => ?_)
  · skip
    refine z_aln C hl 0 rfl dX7_enter_12 ?_
    refine gf_X7_11 C hP dX7_enter_13 ?_
    refine z_aln C hl 0 rfl dX7_enter_16 ?_
    refine gf_X7_22 C hP dX7_enter_17 ?_
    refine z_aald C hP (i := 7) (t := 2) (b := 26) (by decide) rfl (fun _ => rfl) (by omega) (by decide) dX7_enter_20 ?_
    refine z_iln C hl 1 rfl dX7_enter_21 ?_
    refine pf_X7_30 C hq hP hS (j := (σ 1 2).toNat) (by omega) dX7_enter_22 (fun H locs hP hS => ?_)
    refine z_aln C hl 0 rfl dX7_enter_25 ?_
    refine gf_X7_11 C hP dX7_enter_26 ?_
    refine z_aln C hl 0 rfl dX7_enter_29 ?_
    refine gf_X7_22 C hP dX7_enter_30 ?_
    refine z_tope (b := σ 1 2) (by unfold um; rw [if_neg (by omega)]) ?_
    refine z_aald C hP (i := 7) (t := 2) (b := 26) (by decide) rfl (fun _ => rfl) (by omega) (by decide) dX7_enter_33 ?_
    refine z_iln C hl 2 rfl dX7_enter_34 ?_
    refine pf_X7_33 C hq hP hS (j := (σ 1 2).toNat) (by omega) dX7_enter_35 (fun H locs hP hS => ?_)
    refine z_aln C hl 0 rfl dX7_enter_38 ?_
    refine z_dup C rfl dX7_enter_39 ?_
    refine gf_X7_22 C hP dX7_enter_40 ?_
    refine z_tope (b := σ 1 2) (by unfold um; rw [if_neg (by omega), if_neg (by omega)]) ?_
    refine z_ic C dX7_enter_43 ?_
    refine z_iadd C dX7_enter_44 ?_
    refine pf_X7_22 C hq hP hS dX7_enter_45 (fun H locs hP hS => ?_)
    refine z_aln C hl 0 rfl dX7_enter_48 ?_
    refine gf_X7_22 C hP dX7_enter_49 ?_
    refine z_tope (b := (σ 1 2) + 1) (by unfold um; rw [if_pos ⟨rfl, rfl⟩]) ?_
    refine z_ic C dX7_enter_52 ?_
    refine z_isub C dX7_enter_53 ?_
    exact z_iretW B hP hS (by rw [if_neg (by omega)]; exact ⟨by omega, rfl⟩) dX7_enter_54
  · skip
    refine z_bp C dX7_enter_9 rfl ?_
    exact z_iretW B hP hS (by rw [if_pos (by omega)]; exact ⟨rfl, rfl⟩) dX7_enter_11

set_option maxHeartbeats 4000000 in
set_option maxRecDepth 100000 in
theorem c_X8_runner {l : Launch} {D : va_G} {q : Nat → Nat} {g : Nat → ClassId} {σ : Mem} (hq : qok q) (b v : Int) (hI : TI σ) (hr_b : zR b) (hr_v : zR v) : RW l yX8_runner cX8_runner 3 (some .int) 1 22 D q g σ [.ref (q 0), .int (zI b), .int (zI v)] vI (fun r τ => if ¬ ((-3000 ≤ b ∧ b ≤ 0) ∧ (1 ≤ v ∧ v ≤ 20)) then r = -2 ∧ τ = σ else if 6 ≤ σ 1 2 then r = -4 ∧ τ = σ else r = σ 1 2 ∧ τ = kEnt σ b v) := by
  refine RW.intro (plainFor_of_name (by decide)) (Nat.le_of_ble_eq_true rfl) (fun p e s m args below meth c ls B hP hS hl => ?_)
  have C := B.1
  have hl : lv_has ls 3 [(0, .ref (q 0)), (1, .int (zI b)), (2, .int (zI v))] := hl
  refine z_iln C hl 1 rfl dX8_runner_0 ?_
  refine z_sp C dX8_runner_1 rfl ?_
  refine z_ic C dX8_runner_4 ?_
  refine z_sRO C hP hl (c_X8_within (σ := σ) b (-3000) 0 (by omega) (by omega) (by omega))  wg_212 wg_1 wg_210 wg_211 cw_X8_within ⟨Nat.le_of_ble_eq_true rfl, Nat.le_of_ble_eq_true rfl⟩ rfl rfl (Nat.le_of_ble_eq_true rfl) dX8_runner_5 ?_
  refine z_bif_eq C 21 (by decide) dX8_runner_8 (fun w1 => ?_) (fun w1 => ?_)
  · skip
    refine z_bp C dX8_runner_21 rfl ?_
    exact z_iretW B hP hS (by rw [if_pos (by omega)]; exact ⟨rfl, rfl⟩) dX8_runner_23
  · skip
    refine z_iln C hl 2 rfl dX8_runner_11 ?_
    refine z_ic C dX8_runner_12 ?_
    refine z_bp C dX8_runner_13 rfl ?_
    refine z_sRO C hP hl (c_X8_within (σ := σ) v 1 20 (by omega) (by omega) (by omega))  wg_212 wg_1 wg_210 wg_211 cw_X8_within ⟨Nat.le_of_ble_eq_true rfl, Nat.le_of_ble_eq_true rfl⟩ rfl rfl (Nat.le_of_ble_eq_true rfl) dX8_runner_15 ?_
    refine z_bif_ne C 24 (by decide) dX8_runner_18 (fun w2 => ?_) (fun w2 => ?_)
    · skip
      refine z_aln C hl 0 rfl dX8_runner_24 ?_
      refine gf_X8_10 C hP dX8_runner_25 ?_
      refine z_iln C hl 1 rfl dX8_runner_28 ?_
      refine z_iln C hl 2 rfl dX8_runner_29 ?_
      refine z_vRWi C hP hS hl (c_X7_enter (σ := σ) hq b v hI) (z_recv C hP (i := 1) (by decide) rfl (ci := 7) rfl) wg_216 wg_2 wg_213 wg_214 wg_215 cw_X7_enter ⟨Nat.le_of_ble_eq_true rfl, Nat.le_of_ble_eq_true rfl⟩ rfl rfl (Nat.le_of_ble_eq_true rfl) dX8_runner_30 (fun r30 τ30 H locs hp30 hP hS => ?_)
      exact z_iretW B hP hS (by rw [if_neg (by omega)]; exact hp30) dX8_runner_33
    · skip
      refine z_bp C dX8_runner_21 rfl ?_
      exact z_iretW B hP hS (by rw [if_pos (by omega)]; exact ⟨rfl, rfl⟩) dX8_runner_23

set_option maxHeartbeats 4000000 in
set_option maxRecDepth 100000 in
theorem c_X4_grow {l : Launch} {D : va_G} {q : Nat → Nat} {g : Nat → ClassId} {σ : Mem} (hq : qok q) {j : Nat} (what row a b : Int) (hj : j < 6) (hw : 0 ≤ what ∧ what ≤ 1) (hy : 0 ≤ row ∧ row ≤ 5) : RW l yX4_grow cX4_grow 6 none 0 0 D q g σ [.ref (q (26 + j)), .int (zI what), .int (zI row), .int (zI a), .int (zI b)] vV (fun _ τ => τ = um (um σ (32 + j) (what * 6 + row).toNat a) (38 + j) (what * 6 + row).toNat b) := by
  refine RW.intro (plainFor_of_name (by decide)) (Nat.le_of_ble_eq_true rfl) (fun p e s m args below meth c ls B hP hS hl => ?_)
  have C := B.1
  have hl : lv_has ls 6 [(0, .ref (q (26 + j))), (1, .int (zI what)), (2, .int (zI row)), (3, .int (zI a)), (4, .int (zI b))] := hl
  refine z_iln C hl 1 rfl dX4_grow_0 ?_
  refine z_bp C dX4_grow_1 rfl ?_
  refine z_imul C dX4_grow_3 ?_
  refine z_iln C hl 2 rfl dX4_grow_4 ?_
  refine z_iadd C dX4_grow_5 ?_
  refine z_ist C hl [(5, .int (zI ((what * 6) + row))), (0, .ref (q (26 + j))), (1, .int (zI what)), (2, .int (zI row)), (3, .int (zI a)), (4, .int (zI b))] (by decide) rfl dX4_grow_6 (fun ls hl => ?_)
  refine z_aln C hl 1 rfl dX4_grow_8 ?_
  refine gf_X4_9 C hP (j := j) (by omega) dX4_grow_9 ?_
  refine z_il C hl 0 rfl dX4_grow_12 ?_
  refine z_iln C hl 4 rfl dX4_grow_14 ?_
  refine z_iast C hq hP hS (i := (32 + j)) (by omega) (cE_frm (j := j) (by omega)) (by omega) (by decide) dX4_grow_15 (fun H locs hP hS => ?_)
  refine z_aln C hl 1 rfl dX4_grow_16 ?_
  refine gf_X4_15 C hP (j := j) (by omega) dX4_grow_17 ?_
  refine z_il C hl 0 rfl dX4_grow_20 ?_
  refine z_il C hl 5 rfl dX4_grow_22 ?_
  refine z_iast C hq hP hS (i := (38 + j)) (by omega) (cE_to (j := j) (by omega)) (by omega) (by decide) dX4_grow_24 (fun H locs hP hS => ?_)
  exact z_vretW B hP hS rfl dX4_grow_25

set_option maxHeartbeats 4000000 in
set_option maxRecDepth 100000 in
theorem c_X8_shape {l : Launch} {D : va_G} {q : Nat → Nat} {g : Nat → ClassId} {σ : Mem} (hq : qok q) (r row what a b : Int) (hI : TI σ) (hr_r : zR r) (hr_row : zR row) (hr_what : zR what) (hr_a : zR a) (hr_b : zR b) : RW l yX8_shape cX8_shape 6 (some .int) 2 43 D q g σ [.ref (q 0), .int (zI r), .int (zI row), .int (zI what), .int (zI a), .int (zI b)] vI (fun res τ => if ¬ ((0 ≤ r ∧ r < σ 1 2) ∧ (0 ≤ row ∧ row ≤ 5)) then res = -1 ∧ τ = σ else if ¬ ((0 ≤ what ∧ what ≤ 1) ∧ (-9 ≤ a ∧ a ≤ 9) ∧ (-9 ≤ b ∧ b ≤ 9)) then res = -2 ∧ τ = σ else res = 1 ∧ τ = kShp σ r row what a b) := by
  refine RW.intro (plainFor_of_name (by decide)) (Nat.le_of_ble_eq_true rfl) (fun p e s m args below meth c ls B hP hS hl => ?_)
  have C := B.1
  have hl : lv_has ls 6 [(0, .ref (q 0)), (1, .int (zI r)), (2, .int (zI row)), (3, .int (zI what)), (4, .int (zI a)), (5, .int (zI b))] := hl
  have h1 := hI.1
  refine z_aln C hl 0 rfl dX8_shape_0 ?_
  refine gf_X8_10 C hP dX8_shape_1 ?_
  refine z_iln C hl 1 rfl dX8_shape_4 ?_
  refine z_vRO C hP hl (c_X7_has (σ := σ) r hI (by omega)) (z_recv C hP (i := 1) (by decide) rfl (ci := 7) rfl) wg_224 wg_2 wg_221 wg_222 wg_223 cw_X7_has ⟨Nat.le_of_ble_eq_true rfl, Nat.le_of_ble_eq_true rfl⟩ rfl rfl (Nat.le_of_ble_eq_true rfl) dX8_shape_5 ?_
  refine z_bif_eq C 18 (by decide) dX8_shape_8 (fun w1 => ?_) (fun w1 => ?_)
  · skip
    refine z_ic C dX8_shape_18 ?_
    exact z_iretW B hP hS (by rw [if_pos (by omega)]; exact ⟨rfl, rfl⟩) dX8_shape_19
  · skip
    refine z_iln C hl 2 rfl dX8_shape_11 ?_
    refine z_sRO C hP hl (c_X8_isRow (σ := σ) row (by omega))  wg_228 wg_1 wg_226 wg_227 cw_X8_isRow ⟨Nat.le_of_ble_eq_true rfl, Nat.le_of_ble_eq_true rfl⟩ rfl rfl (Nat.le_of_ble_eq_true rfl) dX8_shape_12 ?_
    refine z_bif_ne C 20 (by decide) dX8_shape_15 (fun w2 => ?_) (fun w2 => ?_)
    · skip
      refine z_iln C hl 3 rfl dX8_shape_20 ?_
      refine z_ic C dX8_shape_21 ?_
      refine z_ic C dX8_shape_22 ?_
      refine z_sRO C hP hl (c_X8_within (σ := σ) what 0 1 (by omega) (by omega) (by omega))  wg_212 wg_1 wg_210 wg_211 cw_X8_within ⟨Nat.le_of_ble_eq_true rfl, Nat.le_of_ble_eq_true rfl⟩ rfl rfl (Nat.le_of_ble_eq_true rfl) dX8_shape_23 ?_
      refine z_bif_eq C 53 (by decide) dX8_shape_26 (fun w3 => ?_) (fun w3 => ?_)
      · skip
        refine z_bp C dX8_shape_53 rfl ?_
        exact z_iretW B hP hS (by rw [if_neg (by omega), if_pos (by omega)]; exact ⟨rfl, rfl⟩) dX8_shape_55
      · skip
        refine z_il C hl 4 rfl dX8_shape_29 ?_
        refine z_bp C dX8_shape_31 rfl ?_
        refine z_bp C dX8_shape_33 rfl ?_
        refine z_sRO C hP hl (c_X8_within (σ := σ) a (-9) 9 (by omega) (by omega) (by omega))  wg_212 wg_1 wg_210 wg_211 cw_X8_within ⟨Nat.le_of_ble_eq_true rfl, Nat.le_of_ble_eq_true rfl⟩ rfl rfl (Nat.le_of_ble_eq_true rfl) dX8_shape_35 ?_
        refine z_bif_eq C 53 (by decide) dX8_shape_38 (fun w4 => ?_) (fun w4 => ?_)
        · skip
          refine z_bp C dX8_shape_53 rfl ?_
          exact z_iretW B hP hS (by rw [if_neg (by omega), if_pos (by omega)]; exact ⟨rfl, rfl⟩) dX8_shape_55
        · skip
          refine z_il C hl 5 rfl dX8_shape_41 ?_
          refine z_bp C dX8_shape_43 rfl ?_
          refine z_bp C dX8_shape_45 rfl ?_
          refine z_sRO C hP hl (c_X8_within (σ := σ) b (-9) 9 (by omega) (by omega) (by omega))  wg_212 wg_1 wg_210 wg_211 cw_X8_within ⟨Nat.le_of_ble_eq_true rfl, Nat.le_of_ble_eq_true rfl⟩ rfl rfl (Nat.le_of_ble_eq_true rfl) dX8_shape_47 ?_
          refine z_bif_ne C 56 (by decide) dX8_shape_50 (fun w5 => ?_) (fun w5 => ?_)
          · skip
            refine z_aln C hl 0 rfl dX8_shape_56 ?_
            refine gf_X8_10 C hP dX8_shape_57 ?_
            refine gf_X8_66 C hP dX8_shape_60 ?_
            refine z_iln C hl 1 rfl dX8_shape_63 ?_
            refine z_aald C hP (i := 7) (t := 2) (b := 26) (by decide) rfl (fun _ => rfl) (by omega) (by decide) dX8_shape_64 ?_
            refine z_iln C hl 3 rfl dX8_shape_65 ?_
            refine z_iln C hl 2 rfl dX8_shape_66 ?_
            refine z_il C hl 4 rfl dX8_shape_67 ?_
            refine z_il C hl 5 rfl dX8_shape_69 ?_
            refine z_vRWv C hP hS hl (c_X4_grow (σ := σ) (j := (r.toNat)) hq what row a b (by omega) (by omega) (by omega)) (z_recv C hP (i := (26 + r.toNat)) (by omega) (cE_run (j := r.toNat) (by omega) _) (ci := 4) rfl) wg_232 wg_3 wg_229 wg_230 wg_231 cw_X4_grow ⟨Nat.le_of_ble_eq_true rfl, Nat.le_of_ble_eq_true rfl⟩ rfl rfl (Nat.le_of_ble_eq_true rfl) dX8_shape_71 (fun r71 τ71 H locs hp71 hP hS => ?_)
            refine z_ic C dX8_shape_74 ?_
            exact z_iretW B hP hS (by rw [if_neg (by omega), if_neg (by omega)]; exact ⟨rfl, hp71⟩) dX8_shape_75
          · skip
            refine z_bp C dX8_shape_53 rfl ?_
            exact z_iretW B hP hS (by rw [if_neg (by omega), if_pos (by omega)]; exact ⟨rfl, rfl⟩) dX8_shape_55
    · skip
      refine z_ic C dX8_shape_18 ?_
      exact z_iretW B hP hS (by rw [if_pos (by omega)]; exact ⟨rfl, rfl⟩) dX8_shape_19

set_option maxHeartbeats 4000000 in
set_option maxRecDepth 100000 in
theorem c_X8_push {l : Launch} {D : va_G} {q : Nat → Nat} {g : Nat → ClassId} {σ : Mem} (hq : qok q) (r col : Int) (hI : TI σ) (hr_r : zR r) (hr_col : zR col) : RW l yX8_push cX8_push 5 (some .int) 2 43 D q g σ [.ref (q 0), .int (zI r), .int (zI col)] vI (fun res τ => if ¬ (0 ≤ r ∧ r < σ 1 2) then res = -1 ∧ τ = σ else if ¬ (-1 ≤ col ∧ col ≤ 299) then res = -2 ∧ τ = σ else res = σ (26 + r.toNat) 4 ∧ τ = um σ (26 + r.toNat) 4 (if col = -1 then -6 else col)) := by
  refine RW.intro (plainFor_of_name (by decide)) (Nat.le_of_ble_eq_true rfl) (fun p e s m args below meth c ls B hP hS hl => ?_)
  have C := B.1
  have hl : lv_has ls 5 [(0, .ref (q 0)), (1, .int (zI r)), (2, .int (zI col))] := hl
  have h1 := hI.1
  refine z_aln C hl 0 rfl dX8_push_0 ?_
  refine gf_X8_10 C hP dX8_push_1 ?_
  refine z_iln C hl 1 rfl dX8_push_4 ?_
  refine z_vRO C hP hl (c_X7_has (σ := σ) r hI (by omega)) (z_recv C hP (i := 1) (by decide) rfl (ci := 7) rfl) wg_224 wg_2 wg_221 wg_222 wg_223 cw_X7_has ⟨Nat.le_of_ble_eq_true rfl, Nat.le_of_ble_eq_true rfl⟩ rfl rfl (Nat.le_of_ble_eq_true rfl) dX8_push_5 ?_
  refine z_bif_ne C 13 (by decide) dX8_push_8 (fun w1 => ?_) (fun w1 => ?_)
  · skip
    refine z_iln C hl 2 rfl dX8_push_13 ?_
    refine z_ic C dX8_push_14 ?_
    refine z_sp C dX8_push_15 rfl ?_
    refine z_sRO C hP hl (c_X8_within (σ := σ) col (-1) 299 (by omega) (by omega) (by omega))  wg_212 wg_1 wg_210 wg_211 cw_X8_within ⟨Nat.le_of_ble_eq_true rfl, Nat.le_of_ble_eq_true rfl⟩ rfl rfl (Nat.le_of_ble_eq_true rfl) dX8_push_18 ?_
    refine z_bif_ne C 27 (by decide) dX8_push_21 (fun w2 => ?_) (fun w2 => ?_)
    · skip
      refine z_aln C hl 0 rfl dX8_push_27 ?_
      refine gf_X8_10 C hP dX8_push_28 ?_
      refine gf_X8_66 C hP dX8_push_31 ?_
      refine z_iln C hl 1 rfl dX8_push_34 ?_
      refine z_aald C hP (i := 7) (t := 2) (b := 26) (by decide) rfl (fun _ => rfl) (by omega) (by decide) dX8_push_35 ?_
      refine z_asn C hl [(3, .ref (q (26 + r.toNat))), (0, .ref (q 0)), (1, .int (zI r)), (2, .int (zI col))] (by decide) rfl dX8_push_36 (fun ls hl => ?_)
      refine z_aln C hl 0 rfl dX8_push_37 ?_
      refine gf_X8_148 C hP (j := r.toNat) (by omega) dX8_push_38 ?_
      refine z_ist C hl [(4, .int (zI (σ (26 + r.toNat) 4))), (3, .ref (q (26 + r.toNat))), (0, .ref (q 0)), (1, .int (zI r)), (2, .int (zI col))] (by decide) rfl dX8_push_41 (fun ls hl => ?_)
      refine z_aln C hl 1 rfl dX8_push_43 ?_
      refine z_iln C hl 4 rfl dX8_push_44 ?_
      refine z_ic C dX8_push_45 ?_
      refine z_icmp_ne C 54 (by decide) (by omega) (by omega) dX8_push_46 (fun w3 => ?_) (fun w3 => ?_)
      · skip
        refine z_iln C hl 4 rfl dX8_push_54 ?_
        refine pf_X8_148 C hq hP hS (j := r.toNat) (by omega) dX8_push_55 (fun H locs hP hS => ?_)
        refine z_il C hl 0 rfl dX8_push_58 ?_
        exact z_iretW B hP hS (by rw [if_neg (by omega), if_neg (by omega), show (if col = -1 then -6 else col) = col by split <;> omega]; exact ⟨rfl, rfl⟩) dX8_push_60
      · skip
        refine z_bp C dX8_push_49 rfl ?_
        refine z_goto C 55 (by decide) dX8_push_51 ?_
        refine pf_X8_148 C hq hP hS (j := r.toNat) (by omega) dX8_push_55 (fun H locs hP hS => ?_)
        refine z_il C hl 0 rfl dX8_push_58 ?_
        exact z_iretW B hP hS (by rw [if_neg (by omega), if_neg (by omega), show (if col = -1 then -6 else col) = -6 by split <;> omega]; exact ⟨rfl, rfl⟩) dX8_push_60
    · skip
      refine z_bp C dX8_push_24 rfl ?_
      exact z_iretW B hP hS (by rw [if_neg (by omega), if_pos (by omega)]; exact ⟨rfl, rfl⟩) dX8_push_26
  · skip
    refine z_ic C dX8_push_11 ?_
    exact z_iretW B hP hS (by rw [if_pos (by omega)]; exact ⟨rfl, rfl⟩) dX8_push_12

set_option maxHeartbeats 4000000 in
set_option maxRecDepth 100000 in
theorem c_X8_told {l : Launch} {D : va_G} {q : Nat → Nat} {g : Nat → ClassId} {σ : Mem} (what : Int) (hr_what : zR what) : RO l yX8_told cX8_told 2 (some .int) 1 22 D q g σ [.ref (q 0), .int (zI what)] (some (.int (zI (kTold σ what)))) := by
  refine RO.intro (plainFor_of_name (by decide)) (Nat.le_of_ble_eq_true rfl) (fun p e s m args below meth c ls B hP hl => ?_)
  have C := B.1
  have hl : lv_has ls 2 [(0, .ref (q 0)), (1, .int (zI what))] := hl
  refine z_iln C hl 1 rfl dX8_told_0 ?_
  by_cases hc1 : what = 0
  · refine z_tsI C 0 (by omega) (by omega) rfl 32 (by decide) dX8_told_1 ?_
    refine z_aln C hl 0 rfl dX8_told_32 ?_
    refine gf_X8_10 C hP dX8_told_33 ?_
    refine gf_X8_118 C hP dX8_told_36 ?_
    exact z_iret B (by unfold kTold; split <;> (try split) <;> (try split) <;> (try split) <;> (try split) <;> first | rfl | omega) dX8_told_39
  by_cases hc2 : what = 1
  · refine z_tsI C 1 (by omega) (by omega) rfl 40 (by decide) dX8_told_1 ?_
    refine z_aln C hl 0 rfl dX8_told_40 ?_
    refine gf_X8_47 C hP dX8_told_41 ?_
    refine gf_X8_230 C hP dX8_told_44 ?_
    exact z_iret B (by unfold kTold; split <;> (try split) <;> (try split) <;> (try split) <;> (try split) <;> first | rfl | omega) dX8_told_47
  by_cases hc3 : what = 2
  · refine z_tsI C 2 (by omega) (by omega) rfl 48 (by decide) dX8_told_1 ?_
    refine z_aln C hl 0 rfl dX8_told_48 ?_
    refine gf_X8_33 C hP dX8_told_49 ?_
    refine gf_X8_206 C hP dX8_told_52 ?_
    exact z_iret B (by unfold kTold; split <;> (try split) <;> (try split) <;> (try split) <;> (try split) <;> first | rfl | omega) dX8_told_55
  by_cases hc4 : what = 3
  · refine z_tsI C 3 (by omega) (by omega) rfl 56 (by decide) dX8_told_1 ?_
    refine z_aln C hl 0 rfl dX8_told_56 ?_
    refine gf_X8_40 C hP dX8_told_57 ?_
    refine gf_X8_214 C hP dX8_told_60 ?_
    exact z_iret B (by unfold kTold; split <;> (try split) <;> (try split) <;> (try split) <;> (try split) <;> first | rfl | omega) dX8_told_63
  refine z_tsO C (by omega) (by omega) 64 (by decide) dX8_told_1 ?_
  refine z_iln C hl 1 rfl dX8_told_64 ?_
  refine z_bp C dX8_told_65 rfl ?_
  refine z_bp C dX8_told_67 rfl ?_
  refine z_sRO C hP hl (c_X8_within (σ := σ) what 10 13 (by omega) (by omega) (by omega))  wg_212 wg_1 wg_210 wg_211 cw_X8_within ⟨Nat.le_of_ble_eq_true rfl, Nat.le_of_ble_eq_true rfl⟩ rfl rfl (Nat.le_of_ble_eq_true rfl) dX8_told_69 ?_
  refine z_bif_eq C 90 (by decide) dX8_told_72 (fun w5 => ?_) (fun w5 => ?_)
  · skip
    refine z_bp C dX8_told_90 rfl ?_
    exact z_iret B (by unfold kTold; split <;> (try split) <;> (try split) <;> (try split) <;> (try split) <;> first | rfl | omega) dX8_told_92
  · skip
    refine z_aln C hl 0 rfl dX8_told_75 ?_
    refine gf_X8_10 C hP dX8_told_76 ?_
    refine gf_X8_83 C hP dX8_told_79 ?_
    refine z_iln C hl 1 rfl dX8_told_82 ?_
    refine z_bp C dX8_told_83 rfl ?_
    refine z_isub C dX8_told_85 ?_
    refine z_iald C hP (i := 8) (by decide) (fun _ => rfl) (by omega) (by decide) dX8_told_86 ?_
    refine z_goto C 92 (by decide) dX8_told_87 ?_
    exact z_iret B (by unfold kTold; split <;> (try split) <;> (try split) <;> (try split) <;> (try split) <;> first | rfl | omega) dX8_told_92

set_option maxHeartbeats 4000000 in
set_option maxRecDepth 100000 in
theorem c_X6_put {l : Launch} {D : va_G} {q : Nat → Nat} {g : Nat → ClassId} {σ : Mem} (hq : qok q) {j : Nat} (a b : Int) (hj : j < 5) : RW l yX6_put cX6_put 3 none 0 0 D q g σ [.ref (q (14 + j)), .int (zI a), .int (zI b)] vV (fun _ τ => τ = um (um σ (14 + j) 0 a) (14 + j) 1 b) := by
  refine RW.intro (plainFor_of_name (by decide)) (Nat.le_of_ble_eq_true rfl) (fun p e s m args below meth c ls B hP hS hl => ?_)
  have C := B.1
  have hl : lv_has ls 3 [(0, .ref (q (14 + j))), (1, .int (zI a)), (2, .int (zI b))] := hl
  refine z_aln C hl 0 rfl dX6_put_0 ?_
  refine z_iln C hl 1 rfl dX6_put_1 ?_
  refine pf_X6_7 C hq hP hS (j := j) (by omega) dX6_put_2 (fun H locs hP hS => ?_)
  refine z_aln C hl 0 rfl dX6_put_5 ?_
  refine z_iln C hl 2 rfl dX6_put_6 ?_
  refine pf_X6_13 C hq hP hS (j := j) (by omega) dX6_put_7 (fun H locs hP hS => ?_)
  exact z_vretW B hP hS rfl dX6_put_10

set_option maxHeartbeats 4000000 in
set_option maxRecDepth 100000 in
theorem c_X6_end {l : Launch} {D : va_G} {q : Nat → Nat} {g : Nat → ClassId} {σ : Mem} {j : Nat} (w : Int) (hj : j < 5) (hr_w : zR w) : RO l yX6_end cX6_end 2 (some .int) 0 0 D q g σ [.ref (q (14 + j)), .int (zI w)] (some (.int (zI (if w = 0 then σ (14 + j) 0 else σ (14 + j) 1)))) := by
  refine RO.intro (plainFor_of_name (by decide)) (Nat.le_of_ble_eq_true rfl) (fun p e s m args below meth c ls B hP hl => ?_)
  have C := B.1
  have hl : lv_has ls 2 [(0, .ref (q (14 + j))), (1, .int (zI w))] := hl
  refine z_iln C hl 1 rfl dX6_end_0 ?_
  refine z_if_ne C 11 (by decide) (by omega) dX6_end_1 (fun w1 => ?_) (fun w1 => ?_)
  · skip
    refine z_aln C hl 0 rfl dX6_end_11 ?_
    refine gf_X6_13 C hP (j := j) (by omega) dX6_end_12 ?_
    exact z_iret B (by split <;> omega) dX6_end_15
  · skip
    refine z_aln C hl 0 rfl dX6_end_4 ?_
    refine gf_X6_7 C hP (j := j) (by omega) dX6_end_5 ?_
    refine z_goto C 15 (by decide) dX6_end_8 ?_
    exact z_iret B (by split <;> omega) dX6_end_15

set_option maxHeartbeats 4000000 in
set_option maxRecDepth 100000 in
theorem c_X6_narrow {l : Launch} {D : va_G} {q : Nat → Nat} {g : Nat → ClassId} {σ : Mem} (hq : qok q) {j : Nat} (a b : Int) (hj : j < 5) (hf0 : zR (σ (14 + j) 0)) (hf1 : zR (σ (14 + j) 1)) (hr_a : zR a) (hr_b : zR b) : RW l yX6_narrow cX6_narrow 5 (some .boolean) 1 22 D q g σ [.ref (q (14 + j)), .int (zI a), .int (zI b)] vI (fun r τ => ((min (σ (14 + j) 1) b) < (max (σ (14 + j) 0) a) ∧ r = 0 ∧ τ = σ) ∨ ((max (σ (14 + j) 0) a) ≤ (min (σ (14 + j) 1) b) ∧ r = 1 ∧ τ = um (um σ (14 + j) 0 (max (σ (14 + j) 0) a)) (14 + j) 1 (min (σ (14 + j) 1) b))) := by
  refine RW.intro (plainFor_of_name (by decide)) (Nat.le_of_ble_eq_true rfl) (fun p e s m args below meth c ls B hP hS hl => ?_)
  have C := B.1
  have hl : lv_has ls 5 [(0, .ref (q (14 + j))), (1, .int (zI a)), (2, .int (zI b))] := hl
  refine z_aln C hl 0 rfl dX6_narrow_0 ?_
  refine gf_X6_7 C hP (j := j) (by omega) dX6_narrow_1 ?_
  refine z_iln C hl 1 rfl dX6_narrow_4 ?_
  refine z_sRO C hP hl (c_J9_max_7cf53 (σ := σ) (σ (14 + j) 0) a (by omega) (by omega))  wg_298 wg_11 wg_429 wg_297 cw_J9_max_7cf53 ⟨Nat.le_of_ble_eq_true rfl, Nat.le_of_ble_eq_true rfl⟩ rfl rfl (Nat.le_of_ble_eq_true rfl) dX6_narrow_5 ?_
  refine z_isn C hl [(3, .int (zI (max (σ (14 + j) 0) a))), (0, .ref (q (14 + j))), (1, .int (zI a)), (2, .int (zI b))] (by decide) rfl dX6_narrow_8 (fun ls hl => ?_)
  refine z_aln C hl 1 rfl dX6_narrow_9 ?_
  refine gf_X6_13 C hP (j := j) (by omega) dX6_narrow_10 ?_
  refine z_iln C hl 3 rfl dX6_narrow_13 ?_
  refine z_sRO C hP hl (c_J9_min_7cf53 (σ := σ) (σ (14 + j) 1) b (by omega) (by omega))  wg_288 wg_11 wg_430 wg_287 cw_J9_min_7cf53 ⟨Nat.le_of_ble_eq_true rfl, Nat.le_of_ble_eq_true rfl⟩ rfl rfl (Nat.le_of_ble_eq_true rfl) dX6_narrow_14 ?_
  refine z_ist C hl [(4, .int (zI (min (σ (14 + j) 1) b))), (3, .int (zI (max (σ (14 + j) 0) a))), (0, .ref (q (14 + j))), (1, .int (zI a)), (2, .int (zI b))] (by decide) rfl dX6_narrow_17 (fun ls hl => ?_)
  refine z_iln C hl 1 rfl dX6_narrow_19 ?_
  refine z_il C hl 0 rfl dX6_narrow_20 ?_
  refine z_icmp_le C 27 (by decide) (by omega) (by omega) dX6_narrow_22 (fun w1 => ?_) (fun w1 => ?_)
  · skip
    refine z_aln C hl 2 rfl dX6_narrow_27 ?_
    refine z_iln C hl 1 rfl dX6_narrow_28 ?_
    refine z_il C hl 0 rfl dX6_narrow_29 ?_
    refine z_vRWv C hP hS hl (c_X6_put (σ := σ) (j := j) hq (max (σ (14 + j) 0) a) (min (σ (14 + j) 1) b) (by omega)) (z_recv C hP (i := (14 + j)) (by omega) (cE_spn (j := j) (by omega) _) (ci := 6) rfl) wg_113 wg_6 wg_431 wg_111 wg_112 cw_X6_put ⟨Nat.le_of_ble_eq_true rfl, Nat.le_of_ble_eq_true rfl⟩ rfl rfl (Nat.le_of_ble_eq_true rfl) dX6_narrow_31 (fun r31 τ31 H locs hp31 hP hS => ?_)
    refine z_ic C dX6_narrow_34 ?_
    exact z_bretWz B (by omega) hP hS (Or.inr ⟨by omega, rfl, hp31⟩) dX6_narrow_35
  · skip
    refine z_ic C dX6_narrow_25 ?_
    exact z_bretWz B (by omega) hP hS (Or.inl ⟨by omega, rfl, rfl⟩) dX6_narrow_26

set_option maxHeartbeats 4000000 in
set_option maxRecDepth 100000 in
theorem c_X8_known {l : Launch} {D : va_G} {q : Nat → Nat} {g : Nat → ClassId} {σ : Mem} (hq : qok q) (ju told truly : Int) (hJ : JI σ) (hr_ju : zR ju) (hr_told : zR told) (hr_truly : zR truly) : RW l yX8_known cX8_known 5 (some .int) 2 46 D q g σ [.ref (q 0), .int (zI ju), .int (zI told), .int (zI truly)] vI (fun r τ => if ¬ (0 ≤ ju ∧ ju ≤ 3) then r = -1 ∧ τ = σ else if ¬ ((0 ≤ told ∧ told ≤ 99999) ∧ (0 ≤ truly ∧ truly ≤ 99999)) then r = -2 ∧ τ = σ else if (min (σ (14 + ju.toNat) 1) (told - truly + 1)) < (max (σ (14 + ju.toNat) 0) (told - truly - 1)) then r = -5 ∧ τ = σ else r = 1 ∧ τ = um (um σ (14 + ju.toNat) 0 (max (σ (14 + ju.toNat) 0) (told - truly - 1))) (14 + ju.toNat) 1 (min (σ (14 + ju.toNat) 1) (told - truly + 1))) := by
  refine RW.intro (plainFor_of_name (by decide)) (Nat.le_of_ble_eq_true rfl) (fun p e s m args below meth c ls B hP hS hl => ?_)
  have C := B.1
  have hl : lv_has ls 5 [(0, .ref (q 0)), (1, .int (zI ju)), (2, .int (zI told)), (3, .int (zI truly))] := hl
  refine z_iln C hl 1 rfl dX8_known_0 ?_
  refine z_sRO C hP hl (c_X8_isJudge (σ := σ) ju (by omega))  wg_423 wg_1 wg_421 wg_422 cw_X8_isJudge ⟨Nat.le_of_ble_eq_true rfl, Nat.le_of_ble_eq_true rfl⟩ rfl rfl (Nat.le_of_ble_eq_true rfl) dX8_known_1 ?_
  refine z_bif_ne C 9 (by decide) dX8_known_4 (fun w1 => ?_) (fun w1 => ?_)
  · skip
    refine z_iln C hl 2 rfl dX8_known_9 ?_
    refine z_ic C dX8_known_10 ?_
    refine z_ldc C (n := 99999) wg_424 (by decide) dX8_known_11 ?_
    refine z_sRO C hP hl (c_X8_within (σ := σ) told 0 99999 (by omega) (by omega) (by omega))  wg_212 wg_1 wg_210 wg_211 cw_X8_within ⟨Nat.le_of_ble_eq_true rfl, Nat.le_of_ble_eq_true rfl⟩ rfl rfl (Nat.le_of_ble_eq_true rfl) dX8_known_13 ?_
    refine z_bif_eq C 29 (by decide) dX8_known_16 (fun w2 => ?_) (fun w2 => ?_)
    · skip
      refine z_bp C dX8_known_29 rfl ?_
      exact z_iretW B hP hS (by rw [if_neg (by omega), if_pos (by omega)]; exact ⟨rfl, rfl⟩) dX8_known_31
    · skip
      refine z_iln C hl 3 rfl dX8_known_19 ?_
      refine z_ic C dX8_known_20 ?_
      refine z_ldc C (n := 99999) wg_424 (by decide) dX8_known_21 ?_
      refine z_sRO C hP hl (c_X8_within (σ := σ) truly 0 99999 (by omega) (by omega) (by omega))  wg_212 wg_1 wg_210 wg_211 cw_X8_within ⟨Nat.le_of_ble_eq_true rfl, Nat.le_of_ble_eq_true rfl⟩ rfl rfl (Nat.le_of_ble_eq_true rfl) dX8_known_23 ?_
      refine z_bif_ne C 32 (by decide) dX8_known_26 (fun w3 => ?_) (fun w3 => ?_)
      · skip
        have hj := hJ ju.toNat (by omega)
        refine z_iln C hl 2 rfl dX8_known_32 ?_
        refine z_iln C hl 3 rfl dX8_known_33 ?_
        refine z_isub C dX8_known_34 ?_
        refine z_ist C hl [(4, .int (zI (told - truly))), (0, .ref (q 0)), (1, .int (zI ju)), (2, .int (zI told)), (3, .int (zI truly))] (by decide) rfl dX8_known_35 (fun ls hl => ?_)
        refine z_aln C hl 1 rfl dX8_known_37 ?_
        refine gf_X8_26 C hP dX8_known_38 ?_
        refine gf_X8_173 C hP dX8_known_41 ?_
        refine z_iln C hl 2 rfl dX8_known_44 ?_
        refine z_aald C hP (i := 11) (t := 3) (b := 14) (by decide) rfl (fun _ => rfl) (by omega) (by decide) dX8_known_45 ?_
        refine z_il C hl 0 rfl dX8_known_46 ?_
        refine z_ic C dX8_known_48 ?_
        refine z_isub C dX8_known_49 ?_
        refine z_il C hl 0 rfl dX8_known_50 ?_
        refine z_ic C dX8_known_52 ?_
        refine z_iadd C dX8_known_53 ?_
        refine z_vRWi C hP hS hl (c_X6_narrow (σ := σ) (j := (ju.toNat)) hq ((told - truly) - 1) ((told - truly) + 1) (by omega) (by omega) (by omega) (by omega) (by omega)) (z_recv C hP (i := (14 + ju.toNat)) (by omega) (cE_spn (j := ju.toNat) (by omega) _) (ci := 6) rfl) wg_428 wg_6 wg_425 wg_426 wg_427 cw_X6_narrow ⟨Nat.le_of_ble_eq_true rfl, Nat.le_of_ble_eq_true rfl⟩ rfl rfl (Nat.le_of_ble_eq_true rfl) dX8_known_54 (fun r54 τ54 H locs hp54 hP hS => ?_)
        refine z_if_eq C 64 (by decide) (by omega) dX8_known_57 (fun w4 => ?_) (fun w4 => ?_)
        · skip
          refine z_bp C dX8_known_64 rfl ?_
          exact z_iretW B hP hS (by rw [if_neg (by omega), if_neg (by omega)]; rcases hp54 with ⟨h1, h2, h3⟩ | ⟨h1, h2, h3⟩ <;> first | (exact False.elim (by omega)) | (rw [if_neg (by omega)]; exact ⟨rfl, h3⟩) | (rw [if_pos (by omega)]; exact ⟨rfl, h3⟩)) dX8_known_66
        · skip
          refine z_ic C dX8_known_60 ?_
          refine z_goto C 66 (by decide) dX8_known_61 ?_
          exact z_iretW B hP hS (by rw [if_neg (by omega), if_neg (by omega)]; rcases hp54 with ⟨h1, h2, h3⟩ | ⟨h1, h2, h3⟩ <;> first | (exact False.elim (by omega)) | (rw [if_neg (by omega)]; exact ⟨rfl, h3⟩) | (rw [if_pos (by omega)]; exact ⟨rfl, h3⟩)) dX8_known_66
      · skip
        refine z_bp C dX8_known_29 rfl ?_
        exact z_iretW B hP hS (by rw [if_neg (by omega), if_pos (by omega)]; exact ⟨rfl, rfl⟩) dX8_known_31
  · skip
    refine z_ic C dX8_known_7 ?_
    exact z_iretW B hP hS (by rw [if_pos (by omega)]; exact ⟨rfl, rfl⟩) dX8_known_8

set_option maxHeartbeats 4000000 in
set_option maxRecDepth 100000 in
theorem c_X8_late {l : Launch} {D : va_G} {q : Nat → Nat} {g : Nat → ClassId} {σ : Mem} (ju en : Int) (hr_ju : zR ju) (hr_en : zR en) : RO l yX8_late cX8_late 3 (some .int) 2 42 D q g σ [.ref (q 0), .int (zI ju), .int (zI en)] (some (.int (zI (if ¬ (0 ≤ ju ∧ ju ≤ 3) then -1 else if ¬ (0 ≤ en ∧ en ≤ 1) then -2 else if en = 0 then σ (14 + ju.toNat) 0 else σ (14 + ju.toNat) 1)))) := by
  refine RO.intro (plainFor_of_name (by decide)) (Nat.le_of_ble_eq_true rfl) (fun p e s m args below meth c ls B hP hl => ?_)
  have C := B.1
  have hl : lv_has ls 3 [(0, .ref (q 0)), (1, .int (zI ju)), (2, .int (zI en))] := hl
  refine z_iln C hl 1 rfl dX8_late_0 ?_
  refine z_sRO C hP hl (c_X8_isJudge (σ := σ) ju (by omega))  wg_423 wg_1 wg_421 wg_422 cw_X8_isJudge ⟨Nat.le_of_ble_eq_true rfl, Nat.le_of_ble_eq_true rfl⟩ rfl rfl (Nat.le_of_ble_eq_true rfl) dX8_late_1 ?_
  refine z_bif_ne C 9 (by decide) dX8_late_4 (fun w1 => ?_) (fun w1 => ?_)
  · skip
    refine z_iln C hl 2 rfl dX8_late_9 ?_
    refine z_sRO C hP hl (c_X8_isEither (σ := σ) en (by omega))  wg_247 wg_1 wg_245 wg_246 cw_X8_isEither ⟨Nat.le_of_ble_eq_true rfl, Nat.le_of_ble_eq_true rfl⟩ rfl rfl (Nat.le_of_ble_eq_true rfl) dX8_late_10 ?_
    refine z_bif_ne C 19 (by decide) dX8_late_13 (fun w2 => ?_) (fun w2 => ?_)
    · skip
      refine z_aln C hl 0 rfl dX8_late_19 ?_
      refine gf_X8_26 C hP dX8_late_20 ?_
      refine gf_X8_173 C hP dX8_late_23 ?_
      refine z_iln C hl 1 rfl dX8_late_26 ?_
      refine z_aald C hP (i := 11) (t := 3) (b := 14) (by decide) rfl (fun _ => rfl) (by omega) (by decide) dX8_late_27 ?_
      refine z_iln C hl 2 rfl dX8_late_28 ?_
      refine z_vRO C hP hl (c_X6_end (σ := σ) (j := (ju.toNat)) en (by omega) (by omega)) (z_recv C hP (i := (14 + ju.toNat)) (by omega) (cE_spn (j := ju.toNat) (by omega) _) (ci := 6) rfl) wg_439 wg_6 wg_436 wg_437 wg_438 cw_X6_end ⟨Nat.le_of_ble_eq_true rfl, Nat.le_of_ble_eq_true rfl⟩ rfl rfl (Nat.le_of_ble_eq_true rfl) dX8_late_29 ?_
      exact z_iret B (by rw [if_neg (show ¬ ¬ (0 ≤ ju ∧ ju ≤ 3) by omega), if_neg (show ¬ ¬ (0 ≤ en ∧ en ≤ 1) by omega)]) dX8_late_32
    · skip
      refine z_bp C dX8_late_16 rfl ?_
      exact z_iret B (by rw [if_neg (by omega), if_pos (by omega)]) dX8_late_18
  · skip
    refine z_ic C dX8_late_7 ?_
    exact z_iret B (by rw [if_pos (by omega)]) dX8_late_8

set_option maxHeartbeats 4000000 in
set_option maxRecDepth 100000 in
theorem c_X8_tell {l : Launch} {D : va_G} {q : Nat → Nat} {g : Nat → ClassId} {σ : Mem} (hq : qok q) (ju t : Int) (hr_ju : zR ju) (hr_t : zR t) : RW l yX8_tell cX8_tell 4 (some .int) 2 42 D q g σ [.ref (q 0), .int (zI ju), .int (zI t)] vI (fun r τ => if ¬ (0 ≤ ju ∧ ju ≤ 3) then r = -1 ∧ τ = σ else if ¬ (-1 ≤ t ∧ t ≤ 99999) then r = -2 ∧ τ = σ else r = σ 12 ju.toNat ∧ τ = um σ 12 ju.toNat (if t = -1 then -6 else t)) := by
  refine RW.intro (plainFor_of_name (by decide)) (Nat.le_of_ble_eq_true rfl) (fun p e s m args below meth c ls B hP hS hl => ?_)
  have C := B.1
  have hl : lv_has ls 4 [(0, .ref (q 0)), (1, .int (zI ju)), (2, .int (zI t))] := hl
  refine z_iln C hl 1 rfl dX8_tell_0 ?_
  refine z_sRO C hP hl (c_X8_isJudge (σ := σ) ju (by omega))  wg_423 wg_1 wg_421 wg_422 cw_X8_isJudge ⟨Nat.le_of_ble_eq_true rfl, Nat.le_of_ble_eq_true rfl⟩ rfl rfl (Nat.le_of_ble_eq_true rfl) dX8_tell_1 ?_
  refine z_bif_ne C 9 (by decide) dX8_tell_4 (fun w1 => ?_) (fun w1 => ?_)
  · skip
    refine z_iln C hl 2 rfl dX8_tell_9 ?_
    refine z_ic C dX8_tell_10 ?_
    refine z_ldc C (n := 99999) wg_424 (by decide) dX8_tell_11 ?_
    refine z_sRO C hP hl (c_X8_within (σ := σ) t (-1) 99999 (by omega) (by omega) (by omega))  wg_212 wg_1 wg_210 wg_211 cw_X8_within ⟨Nat.le_of_ble_eq_true rfl, Nat.le_of_ble_eq_true rfl⟩ rfl rfl (Nat.le_of_ble_eq_true rfl) dX8_tell_13 ?_
    refine z_bif_ne C 22 (by decide) dX8_tell_16 (fun w2 => ?_) (fun w2 => ?_)
    · skip
      refine z_aln C hl 0 rfl dX8_tell_22 ?_
      refine gf_X8_26 C hP dX8_tell_23 ?_
      refine gf_X8_185 C hP dX8_tell_26 ?_
      refine z_iln C hl 1 rfl dX8_tell_29 ?_
      refine z_iald C hP (i := 12) (by decide) (fun _ => rfl) (by omega) (by decide) dX8_tell_30 ?_
      refine z_isn C hl [(3, .int (zI (σ 12 ju.toNat))), (0, .ref (q 0)), (1, .int (zI ju)), (2, .int (zI t))] (by decide) rfl dX8_tell_31 (fun ls hl => ?_)
      refine z_aln C hl 1 rfl dX8_tell_32 ?_
      refine gf_X8_26 C hP dX8_tell_33 ?_
      refine gf_X8_185 C hP dX8_tell_36 ?_
      refine z_iln C hl 2 rfl dX8_tell_39 ?_
      refine z_iln C hl 3 rfl dX8_tell_40 ?_
      refine z_ic C dX8_tell_41 ?_
      refine z_icmp_ne C 50 (by decide) (by omega) (by omega) dX8_tell_42 (fun w3 => ?_) (fun w3 => ?_)
      · skip
        refine z_iln C hl 3 rfl dX8_tell_50 ?_
        refine z_iast C hq hP hS (i := 12) (by decide) (fun _ => rfl) (by omega) (by decide) dX8_tell_51 (fun H locs hP hS => ?_)
        refine z_iln C hl 0 rfl dX8_tell_52 ?_
        exact z_iretW B hP hS (by rw [if_neg (by omega), if_neg (by omega), show (if t = -1 then -6 else t) = t by split <;> omega]; exact ⟨rfl, rfl⟩) dX8_tell_53
      · skip
        refine z_bp C dX8_tell_45 rfl ?_
        refine z_goto C 51 (by decide) dX8_tell_47 ?_
        refine z_iast C hq hP hS (i := 12) (by decide) (fun _ => rfl) (by omega) (by decide) dX8_tell_51 (fun H locs hP hS => ?_)
        refine z_iln C hl 0 rfl dX8_tell_52 ?_
        exact z_iretW B hP hS (by rw [if_neg (by omega), if_neg (by omega), show (if t = -1 then -6 else t) = -6 by split <;> omega]; exact ⟨rfl, rfl⟩) dX8_tell_53
    · skip
      refine z_bp C dX8_tell_19 rfl ?_
      exact z_iretW B hP hS (by rw [if_neg (by omega), if_pos (by omega)]; exact ⟨rfl, rfl⟩) dX8_tell_21
  · skip
    refine z_ic C dX8_tell_7 ?_
    exact z_iretW B hP hS (by rw [if_pos (by omega)]; exact ⟨rfl, rfl⟩) dX8_tell_8

set_option maxHeartbeats 4000000 in
set_option maxRecDepth 100000 in
theorem c_X1_agree {l : Launch} {D : va_G} {q : Nat → Nat} {g : Nat → ClassId} {σ : Mem} (hq : qok q) (hJ : JI σ) : RW l yX1_agree cX1_agree 4 (some .int) 2 46 D q g σ [.ref (q 3)] vI (fun r τ => Fr σ τ ∧ r = kAg (co σ) ∧ (r = -6 → τ 18 0 = agL (co σ) 4 ∧ τ 18 1 = agH (co σ) 4)) := by
  refine RW.intro (plainFor_of_name (by decide)) (Nat.le_of_ble_eq_true rfl) (fun p e s m args below meth c ls B hP hS hl => ?_)
  have C := B.1
  have hl : lv_has ls 4 [(0, .ref (q 3))] := hl
  have hJc := JI_cc hJ
  have e12 : co σ 12 = σ 12 := co_at rfl
  refine z_ic C dX1_agree_0 ?_
  refine z_isn C hl [(1, .int (zI 0)), (0, .ref (q 3))] (by decide) rfl dX1_agree_1 (fun ls hl => ?_)
  refine z_aln C hl 1 rfl dX1_agree_2 ?_
  refine gf_X1_22 C hP dX1_agree_3 ?_
  refine z_ldc C (n := -10000000) wg_452 (by decide) dX1_agree_6 ?_
  refine z_ldc C (n := 10000000) wg_453 (by decide) dX1_agree_8 ?_
  refine z_vRWv C hP hS hl (c_X6_put (σ := σ) (j := 4) hq (-10000000) 10000000 (by omega)) (z_recv C hP (i := 18) (by omega) (cE_spn (j := 4) (by omega) _) (ci := 6) rfl) wg_113 wg_6 wg_110 wg_111 wg_112 cw_X6_put ⟨Nat.le_of_ble_eq_true rfl, Nat.le_of_ble_eq_true rfl⟩ rfl rfl (Nat.le_of_ble_eq_true rfl) dX1_agree_10 (fun r10 τ10 H locs hp10 hP hS => ?_)
  refine z_ic C dX1_agree_13 ?_
  refine z_isn C hl [(2, .int (zI 0)), (1, .int (zI 0)), (0, .ref (q 3))] (by decide) rfl dX1_agree_14 (fun ls hl => ?_)
  have L15 : ∀ (n : Nat) (c1 : Int) (k : Int)  (τ : Mem), 4 - k < (n : Int) → (0 ≤ k ∧ k ≤ 4) → (Fr σ τ) → (c1 = agC (co σ) k.toNat) → (τ 18 0 = agL (co σ) k.toNat) → (τ 18 1 = agH (co σ) k.toNat) → (τ 18 0 ≤ τ 18 1) → ∀ (H : Heap) (locs : List Loc), HP D q g τ H → va_S (aQ q) s.heap H locs → ∀ ls : Array Slot, lv_has ls 4 [(0, .ref (q 3)), (1, .int (zI c1)), (2, .int (zI k))] → WW p l e 2 46 s m args below meth c H locs D q g vI (fun r τ => Fr σ τ ∧ r = kAg (co σ) ∧ (r = -6 → τ 18 0 = agL (co σ) 4 ∧ τ 18 1 = agH (co σ) 4)) (F0 m 15 ls []) := by
    intro n
    induction n with
    | zero => intro c1 k τ hm hk hF hc hl0 hl1 hle H locs hP hS ls hl; exact False.elim (by omega)
    | succ n ih =>
      intro c1 k τ hm hk hF hc hl0 hl1 hle H locs hP hS ls hl
      have ih15 := ih; clear ih
      refine z_iln C hl 2 rfl dX1_agree_15 ?_
      refine z_ic C dX1_agree_16 ?_
      refine z_icmp_ge C 82 (by decide) (by omega) (by omega) dX1_agree_17 (fun w1 => ?_) (fun w1 => ?_)
      · skip
        have hb := ag_b hJc k.toNat (by omega)
        have hk4 : k.toNat = 4 := by omega
        rw [hk4] at hb hc hl0 hl1
        refine z_iln C hl 1 rfl dX1_agree_82 ?_
        refine z_if_ne C 91 (by decide) (by omega) dX1_agree_83 (fun w2 => ?_) (fun w2 => ?_)
        · skip
          refine z_bp C dX1_agree_91 rfl ?_
          exact z_iretW B hP hS ⟨hF, by unfold kAg; rw [if_neg (by omega), if_neg (by rw [← hl0, ← hl1]; omega)], fun h => ⟨hl0, hl1⟩⟩ dX1_agree_93
        · skip
          refine z_bp C dX1_agree_86 rfl ?_
          refine z_goto C 93 (by decide) dX1_agree_88 ?_
          exact z_iretW B hP hS ⟨hF, by unfold kAg; rw [if_pos (by omega)], fun h => by omega⟩ dX1_agree_93
      · skip
        have hkt : (k + 1).toNat = k.toNat + 1 := by omega
        have hj := hJ k.toNat (by omega)
        have f12 := hF 12 k.toNat rfl
        have f0 := hF (14 + k.toNat) 0 (cr_sc (cr_spn (by omega)) 0)
        have f1 := hF (14 + k.toNat) 1 (cr_sc (cr_spn (by omega)) 1)
        have hb := ag_b hJc k.toNat (by omega)
        refine z_aln C hl 0 rfl dX1_agree_20 ?_
        refine gf_X1_17 C hP dX1_agree_21 ?_
        refine z_iln C hl 2 rfl dX1_agree_24 ?_
        refine z_iald C hP (i := 12) (by decide) (fun _ => rfl) (by omega) (by decide) dX1_agree_25 ?_
        refine z_bp C dX1_agree_26 rfl ?_
        refine z_icmp_eq C 76 (by decide) (by omega) (by omega) dX1_agree_28 (fun w3 => ?_) (fun w3 => ?_)
        · skip
          refine z_iinc C hl 2 rfl [(2, .int (zI (k + 1))), (0, .ref (q 3)), (1, .int (zI c1))] (by decide) rfl dX1_agree_76 (fun ls hl => ?_)
          refine z_goto C 15 (by decide) dX1_agree_79 ?_
          exact ih15 c1 (k + 1) τ (by omega) (by omega) hF (by rw [hkt, agC, if_pos (by rw [e12]; omega), hc]) (by rw [hkt, agL, if_pos (by rw [e12]; omega), hl0]) (by rw [hkt, agH, if_pos (by rw [e12]; omega), hl1]) hle _ _ hP hS ls (lv_sub hl [1, 2, 0] rfl)
        · skip
          have eL : agL (co σ) (k.toNat + 1) = max (agL (co σ) k.toNat) (τ 12 k.toNat - τ (14 + k.toNat) 1) := by rw [agL, if_neg (by rw [e12]; omega), e12, co_spn (by omega), f12, f1]
          have eH : agH (co σ) (k.toNat + 1) = min (agH (co σ) k.toNat) (τ 12 k.toNat - τ (14 + k.toNat) 0) := by rw [agH, if_neg (by rw [e12]; omega), e12, co_spn (by omega), f12, f0]
          refine z_iinc C hl 1 rfl [(1, .int (zI (c1 + 1))), (0, .ref (q 3)), (2, .int (zI k))] (by decide) rfl dX1_agree_31 (fun ls hl => ?_)
          refine z_aln C hl 1 rfl dX1_agree_34 ?_
          refine gf_X1_11 C hP dX1_agree_35 ?_
          refine z_iln C hl 2 rfl dX1_agree_38 ?_
          refine z_aald C hP (i := 11) (t := 3) (b := 14) (by decide) rfl (fun _ => rfl) (by omega) (by decide) dX1_agree_39 ?_
          refine z_asn C hl [(3, .ref (q (14 + k.toNat))), (1, .int (zI (c1 + 1))), (0, .ref (q 3)), (2, .int (zI k))] (by decide) rfl dX1_agree_40 (fun ls hl => ?_)
          refine z_aln C hl 2 rfl dX1_agree_41 ?_
          refine gf_X1_22 C hP dX1_agree_42 ?_
          refine z_aln C hl 2 rfl dX1_agree_45 ?_
          refine gf_X1_17 C hP dX1_agree_46 ?_
          refine z_iln C hl 3 rfl dX1_agree_49 ?_
          refine z_iald C hP (i := 12) (by decide) (fun _ => rfl) (by omega) (by decide) dX1_agree_50 ?_
          refine z_aln C hl 0 rfl dX1_agree_51 ?_
          refine gf_X1_32 C hP (j := k.toNat) (by omega) dX1_agree_52 ?_
          refine z_isub C dX1_agree_55 ?_
          refine z_aln C hl 2 rfl dX1_agree_56 ?_
          refine gf_X1_17 C hP dX1_agree_57 ?_
          refine z_iln C hl 3 rfl dX1_agree_60 ?_
          refine z_iald C hP (i := 12) (by decide) (fun _ => rfl) (by omega) (by decide) dX1_agree_61 ?_
          refine z_aln C hl 0 rfl dX1_agree_62 ?_
          refine gf_X1_36 C hP (j := k.toNat) (by omega) dX1_agree_63 ?_
          refine z_isub C dX1_agree_66 ?_
          refine z_vRWi C hP hS hl (c_X6_narrow (σ := τ) (j := 4) hq ((τ 12 k.toNat) - (τ (14 + k.toNat) 1)) ((τ 12 k.toNat) - (τ (14 + k.toNat) 0)) (by omega) (show zR (τ 18 0) by omega) (show zR (τ 18 1) by omega) (by omega) (by omega)) (z_recv C hP (i := 18) (by omega) (cE_spn (j := 4) (by omega) _) (ci := 6) rfl) wg_428 wg_6 wg_454 wg_426 wg_427 cw_X6_narrow ⟨Nat.le_of_ble_eq_true rfl, Nat.le_of_ble_eq_true rfl⟩ rfl rfl (Nat.le_of_ble_eq_true rfl) dX1_agree_67 (fun r67 τ67 H locs hp67 hP hS => ?_)
          have hp67 : (min (τ 18 1) (τ 12 k.toNat - τ (14 + k.toNat) 0) < max (τ 18 0) (τ 12 k.toNat - τ (14 + k.toNat) 1) ∧ r67 = 0 ∧ τ67 = τ) ∨ (max (τ 18 0) (τ 12 k.toNat - τ (14 + k.toNat) 1) ≤ min (τ 18 1) (τ 12 k.toNat - τ (14 + k.toNat) 0) ∧ r67 = 1 ∧ τ67 = um (um τ 18 0 (max (τ 18 0) (τ 12 k.toNat - τ (14 + k.toNat) 1))) 18 1 (min (τ 18 1) (τ 12 k.toNat - τ (14 + k.toNat) 0))) := hp67
          refine z_if_ne C 76 (by decide) (by omega) dX1_agree_70 (fun w4 => ?_) (fun w4 => ?_)
          · skip
            obtain ⟨hn1, hn2, hn3⟩ : max (τ 18 0) (τ 12 k.toNat - τ (14 + k.toNat) 1) ≤ min (τ 18 1) (τ 12 k.toNat - τ (14 + k.toNat) 0) ∧ r67 = 1 ∧ τ67 = um (um τ 18 0 (max (τ 18 0) (τ 12 k.toNat - τ (14 + k.toNat) 1))) 18 1 (min (τ 18 1) (τ 12 k.toNat - τ (14 + k.toNat) 0)) := hp67.resolve_left (fun h => by omega)
            refine z_iinc C hl 3 rfl [(2, .int (zI (k + 1))), (3, .ref (q (14 + k.toNat))), (1, .int (zI (c1 + 1))), (0, .ref (q 3))] (by decide) rfl dX1_agree_76 (fun ls hl => ?_)
            refine z_goto C 15 (by decide) dX1_agree_79 ?_
            exact ih15 (c1 + 1) (k + 1) τ67 (by omega) (by omega) (by rw [hn3]; exact Fr_um (Fr_um hF (by simp [sc])) (by simp [sc])) (by rw [hkt, agC, if_neg (by rw [e12]; omega), hc]) (by rw [hn3, hkt, eL]; simp [um]; rw [hl0]) (by rw [hn3, hkt, eH]; simp [um]; rw [hl1]) (by rw [hn3]; simp only [um]; simp; omega) _ _ hP hS ls (lv_sub hl [3, 2, 0] rfl)
          · skip
            obtain ⟨hn1, hn2, hn3⟩ : min (τ 18 1) (τ 12 k.toNat - τ (14 + k.toNat) 0) < max (τ 18 0) (τ 12 k.toNat - τ (14 + k.toNat) 1) ∧ r67 = 0 ∧ τ67 = τ := hp67.resolve_right (fun h => by omega)
            refine z_bp C dX1_agree_73 rfl ?_
            exact z_iretW B hP hS ⟨by rw [hn3]; exact hF, (kAg_no (j := k.toNat) (by omega) hb.2.2.1.1 (by rw [e12]; omega) (by rw [eL, eH]; omega)).symm, fun h => by omega⟩ dX1_agree_75
  exact L15 ((4 - 0 : Int).toNat + 1) 0 0 τ10 (by omega) (by omega) (by rw [hp10]; exact Fr_um (Fr_um Fr_rf (by simp [sc])) (by simp [sc])) rfl (by rw [hp10]; simp [um]; rfl) (by rw [hp10]; simp [um]; rfl) (by rw [hp10]; simp [um]) _ _ hP hS ls (lv_sub hl [2, 1, 0] rfl)
