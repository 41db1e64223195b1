set_option maxHeartbeats 4000000 in
set_option maxRecDepth 100000 in
theorem c_X8_time {l : Launch} {D : va_G} {q : Nat → Nat} {g : Nat → ClassId} {σ : Mem} (hq : qok q) (en : Int) (hJ : JI σ) (hr_en : zR en) : RW l yX8_time cX8_time 3 (some .int) 3 69 D q g σ [.ref (q 0), .int (zI en)] vI (fun r τ => Fr σ τ ∧ r = kTime (co σ) en) := by
  refine RW.intro (plainFor_of_name (by decide)) (Nat.le_of_ble_eq_true rfl) (fun p e s m args below meth c ls B hP hS hl => ?_)
  have C := B.1
  have hl : lv_has ls 3 [(0, .ref (q 0)), (1, .int (zI en))] := hl
  refine z_iln C hl 1 rfl dX8_time_0 ?_
  refine z_sRO C hP hl (c_X8_isEither (σ := σ) en (by omega))  wg_247 wg_1 wg_245 wg_246 cw_X8_isEither ⟨Nat.le_of_ble_eq_true rfl, Nat.le_of_ble_eq_true rfl⟩ rfl rfl (Nat.le_of_ble_eq_true rfl) dX8_time_1 ?_
  refine z_bif_ne C 10 (by decide) dX8_time_4 (fun w1 => ?_) (fun w1 => ?_)
  · skip
    refine z_aln C hl 0 rfl dX8_time_10 ?_
    refine gf_X8_26 C hP dX8_time_11 ?_
    refine z_vRWi C hP hS hl (c_X1_agree (σ := σ) hq  hJ) (z_recv C hP (i := 3) (by decide) rfl (ci := 1) rfl) wg_451 wg_5 wg_448 wg_449 wg_450 cw_X1_agree ⟨Nat.le_of_ble_eq_true rfl, Nat.le_of_ble_eq_true rfl⟩ rfl rfl (Nat.le_of_ble_eq_true rfl) dX8_time_14 (fun r14 τ14 H locs hp14 hP hS => ?_)
    obtain ⟨hF, hr, ht⟩ := hp14
    have hag := kAg_c (co σ)
    have hJc := JI_cc hJ
    have hb := ag_b hJc 4 (Nat.le_refl 4)
    refine z_isn C hl [(2, .int (zI r14)), (0, .ref (q 0)), (1, .int (zI en))] (by decide) rfl dX8_time_17 (fun ls hl => ?_)
    refine z_iln C hl 0 rfl dX8_time_18 ?_
    refine z_bp C dX8_time_19 rfl ?_
    refine z_icmp_eq C 28 (by decide) (by omega) (by omega) dX8_time_21 (fun w2 => ?_) (fun w2 => ?_)
    · skip
      have ht2 := ht (by omega)
      refine z_ldc C (n := 1000000) wg_455 (by decide) dX8_time_28 ?_
      refine z_aln C hl 1 rfl dX8_time_30 ?_
      refine gf_X8_26 C hP dX8_time_31 ?_
      refine gf_X8_193 C hP dX8_time_34 ?_
      refine z_iln C hl 2 rfl dX8_time_37 ?_
      refine z_vRO C hP hl (c_X6_end (σ := τ14) (j := 4) en (by omega) (by omega)) (z_recv C hP (i := 18) (by omega) (cE_spn (j := 4) (by omega) _) (ci := 6) rfl) wg_439 wg_6 wg_436 wg_437 wg_438 cw_X6_end ⟨Nat.le_of_ble_eq_true rfl, Nat.le_of_ble_eq_true rfl⟩ rfl rfl (Nat.le_of_ble_eq_true rfl) dX8_time_38 ?_
      refine z_iadd C dX8_time_41 ?_
      exact z_iretW B hP hS ⟨hF, by unfold kTime; rw [if_neg (show ¬ ¬ (0 ≤ en ∧ en ≤ 1) by omega), if_pos (show kAg (co σ) = -6 by omega), ← ht2.1, ← ht2.2]⟩ dX8_time_42
    · skip
      refine z_iln C hl 0 rfl dX8_time_24 ?_
      refine z_goto C 42 (by decide) dX8_time_25 ?_
      exact z_iretW B hP hS ⟨hF, by unfold kTime; rw [if_neg (show ¬ ¬ (0 ≤ en ∧ en ≤ 1) by omega), if_neg (show ¬ kAg (co σ) = -6 by omega)]; exact hr⟩ dX8_time_42
  · skip
    refine z_bp C dX8_time_7 rfl ?_
    exact z_iretW B hP hS ⟨Fr_rf, by unfold kTime; rw [if_pos (by omega)]⟩ dX8_time_9

set_option maxHeartbeats 4000000 in
set_option maxRecDepth 100000 in
theorem c_X8_old {l : Launch} {D : va_G} {q : Nat → Nat} {g : Nat → ClassId} {σ : Mem} (hq : qok q) (t : Int) (hJ : JI σ) (hr_t : zR t) : RW l yX8_old cX8_old 3 (some .int) 3 69 D q g σ [.ref (q 0), .int (zI t)] vI (fun r τ => Fr σ τ ∧ r = kOld (co σ) t) := by
  refine RW.intro (plainFor_of_name (by decide)) (Nat.le_of_ble_eq_true rfl) (fun p e s m args below meth c ls B hP hS hl => ?_)
  have C := B.1
  have hl : lv_has ls 3 [(0, .ref (q 0)), (1, .int (zI t))] := hl
  refine z_iln C hl 1 rfl dX8_old_0 ?_
  refine z_ic C dX8_old_1 ?_
  refine z_ldc C (n := 99999) wg_424 (by decide) dX8_old_2 ?_
  refine z_sRO C hP hl (c_X8_within (σ := σ) t 0 99999 (by omega) (by omega) (by omega))  wg_212 wg_1 wg_210 wg_211 cw_X8_within ⟨Nat.le_of_ble_eq_true rfl, Nat.le_of_ble_eq_true rfl⟩ rfl rfl (Nat.le_of_ble_eq_true rfl) dX8_old_4 ?_
  refine z_bif_ne C 13 (by decide) dX8_old_7 (fun w1 => ?_) (fun w1 => ?_)
  · skip
    refine z_aln C hl 0 rfl dX8_old_13 ?_
    refine gf_X8_26 C hP dX8_old_14 ?_
    refine z_vRWi C hP hS hl (c_X1_agree (σ := σ) hq  hJ) (z_recv C hP (i := 3) (by decide) rfl (ci := 1) rfl) wg_451 wg_5 wg_448 wg_449 wg_450 cw_X1_agree ⟨Nat.le_of_ble_eq_true rfl, Nat.le_of_ble_eq_true rfl⟩ rfl rfl (Nat.le_of_ble_eq_true rfl) dX8_old_17 (fun r17 τ17 H locs hp17 hP hS => ?_)
    obtain ⟨hF, hr, ht⟩ := hp17
    have hag := kAg_c (co σ)
    have hJc := JI_cc hJ
    have hb := ag_b hJc 4 (Nat.le_refl 4)
    refine z_isn C hl [(2, .int (zI r17)), (0, .ref (q 0)), (1, .int (zI t))] (by decide) rfl dX8_old_20 (fun ls hl => ?_)
    refine z_iln C hl 0 rfl dX8_old_21 ?_
    refine z_bp C dX8_old_22 rfl ?_
    refine z_icmp_eq C 29 (by decide) (by omega) (by omega) dX8_old_24 (fun w2 => ?_) (fun w2 => ?_)
    · skip
      have ht2 := ht (by omega)
      have ht3 : τ17 (14 + 4) 0 = τ17 18 0 ∧ τ17 (14 + 4) 1 = τ17 18 1 := ⟨rfl, rfl⟩
      refine z_aln C hl 1 rfl dX8_old_29 ?_
      refine gf_X8_26 C hP dX8_old_30 ?_
      refine gf_X8_193 C hP dX8_old_33 ?_
      refine gf_X8_197 C hP (j := 4) (by omega) dX8_old_36 ?_
      refine z_iln C hl 2 rfl dX8_old_39 ?_
      refine z_icmp_ge C 45 (by decide) (by omega) (by omega) dX8_old_40 (fun w3 => ?_) (fun w3 => ?_)
      · skip
        refine z_aln C hl 1 rfl dX8_old_45 ?_
        refine gf_X8_26 C hP dX8_old_46 ?_
        refine gf_X8_193 C hP dX8_old_49 ?_
        refine gf_X8_200 C hP (j := 4) (by omega) dX8_old_52 ?_
        refine z_iln C hl 2 rfl dX8_old_55 ?_
        refine z_icmp_lt C 63 (by decide) (by omega) (by omega) dX8_old_56 (fun w4 => ?_) (fun w4 => ?_)
        · skip
          refine z_ic C dX8_old_63 ?_
          exact z_iretW B hP hS ⟨hF, by unfold kOld; rw [if_neg (by omega), if_pos (show kAg (co σ) = -6 by omega)]; split <;> (try split) <;> omega⟩ dX8_old_64
        · skip
          refine z_ic C dX8_old_59 ?_
          refine z_goto C 64 (by decide) dX8_old_60 ?_
          exact z_iretW B hP hS ⟨hF, by unfold kOld; rw [if_neg (by omega), if_pos (show kAg (co σ) = -6 by omega)]; split <;> (try split) <;> omega⟩ dX8_old_64
      · skip
        refine z_ic C dX8_old_43 ?_
        exact z_iretW B hP hS ⟨hF, by unfold kOld; rw [if_neg (by omega), if_pos (show kAg (co σ) = -6 by omega)]; split <;> (try split) <;> omega⟩ dX8_old_44
    · skip
      refine z_iln C hl 0 rfl dX8_old_27 ?_
      exact z_iretW B hP hS ⟨hF, by unfold kOld; rw [if_neg (by omega), if_neg (show ¬ kAg (co σ) = -6 by omega)]; exact hr⟩ dX8_old_28
  · skip
    refine z_bp C dX8_old_10 rfl ?_
    exact z_iretW B hP hS ⟨Fr_rf, by unfold kOld; rw [if_pos (by omega)]⟩ dX8_old_12

set_option maxHeartbeats 4000000 in
set_option maxRecDepth 100000 in
theorem c_X9_runner {l : Launch} {D : va_G} {q : Nat → Nat} {g : Nat → ClassId} {σ : Mem} (hq : qok q) (b v : Int) (hn : 0 ≤ σ 44 6 ∧ σ 44 6 ≤ 6) (hr_b : zR b) (hr_v : zR v) : RW l yX9_runner cX9_runner 3 (some .int) 1 25 D q g σ [.ref (q 44), .int (zI b), .int (zI v)] vI (fun r τ => if ¬ ((-3000 ≤ b ∧ b ≤ 0) ∧ (1 ≤ v ∧ v ≤ 20)) then r = -2 ∧ τ = σ else if 6 ≤ σ 44 6 then r = -4 ∧ τ = σ else r = σ 44 6 ∧ τ = mEnt σ b v) := by
  refine RW.intro (plainFor_of_name (by decide)) (Nat.le_of_ble_eq_true rfl) (fun p e s m args below meth c ls B hP hS hl => ?_)
  have C := B.1
  have hl : lv_has ls 3 [(0, .ref (q 44)), (1, .int (zI b)), (2, .int (zI v))] := hl
  refine z_iln C hl 1 rfl dX9_runner_0 ?_
  refine z_i2l C (by omega) dX9_runner_1 ?_
  refine z_ldc2 C (n := -3000) wg_676 (by decide) dX9_runner_2 ?_
  refine z_lc0 C dX9_runner_5 ?_
  refine z_sRO C hP hl (c_X9_in (σ := σ) b (-3000) 0 (by omega) (by omega) (by omega))  wg_679 wg_10 wg_677 wg_678 cw_X9_in ⟨Nat.le_of_ble_eq_true rfl, Nat.le_of_ble_eq_true rfl⟩ rfl rfl (Nat.le_of_ble_eq_true rfl) dX9_runner_6 ?_
  refine z_bif_eq C 24 (by decide) dX9_runner_9 (fun w1 => ?_) (fun w1 => ?_)
  · skip
    refine z_bp C dX9_runner_24 rfl ?_
    exact z_iretW B hP hS (by rw [if_pos (by omega)]; exact ⟨rfl, rfl⟩) dX9_runner_26
  · skip
    refine z_iln C hl 2 rfl dX9_runner_12 ?_
    refine z_i2l C (by omega) dX9_runner_13 ?_
    refine z_lc1 C dX9_runner_14 ?_
    refine z_ldc2 C (n := 20) wg_680 (by decide) dX9_runner_15 ?_
    refine z_sRO C hP hl (c_X9_in (σ := σ) v 1 20 (by omega) (by omega) (by omega))  wg_679 wg_10 wg_677 wg_678 cw_X9_in ⟨Nat.le_of_ble_eq_true rfl, Nat.le_of_ble_eq_true rfl⟩ rfl rfl (Nat.le_of_ble_eq_true rfl) dX9_runner_18 ?_
    refine z_bif_ne C 27 (by decide) dX9_runner_21 (fun w2 => ?_) (fun w2 => ?_)
    · skip
      refine z_aln C hl 0 rfl dX9_runner_27 ?_
      refine gf_X9_66 C hP dX9_runner_28 ?_
      refine z_bp C dX9_runner_31 rfl ?_
      refine z_icmp_ne C 39 (by decide) (by omega) (by omega) dX9_runner_33 (fun w3 => ?_) (fun w3 => ?_)
      · skip
        refine z_aln C hl 0 rfl dX9_runner_39 ?_
        refine gf_X9_7 C hP dX9_runner_40 ?_
        refine z_aln C hl 0 rfl dX9_runner_43 ?_
        refine gf_X9_66 C hP dX9_runner_44 ?_
        refine z_iln C hl 1 rfl dX9_runner_47 ?_
        refine z_iast C hq hP hS (i := 45) (by decide) (fun _ => rfl) (by omega) (by decide) dX9_runner_48 (fun H locs hP hS => ?_)
        refine z_aln C hl 0 rfl dX9_runner_49 ?_
        refine gf_X9_13 C hP dX9_runner_50 ?_
        refine z_aln C hl 0 rfl dX9_runner_53 ?_
        refine gf_X9_66 C hP dX9_runner_54 ?_
        refine z_tope (b := σ 44 6) (by unfold um; rw [if_neg (by omega)]) ?_
        refine z_iln C hl 2 rfl dX9_runner_57 ?_
        refine z_iast C hq hP hS (i := 46) (by decide) (fun _ => rfl) (by omega) (by decide) dX9_runner_58 (fun H locs hP hS => ?_)
        refine z_aln C hl 0 rfl dX9_runner_59 ?_
        refine gf_X9_26 C hP dX9_runner_60 ?_
        refine z_aln C hl 0 rfl dX9_runner_63 ?_
        refine gf_X9_66 C hP dX9_runner_64 ?_
        refine z_tope (b := σ 44 6) (by unfold um; rw [if_neg (by omega), if_neg (by omega)]) ?_
        refine z_bp C dX9_runner_67 rfl ?_
        refine z_iast C hq hP hS (i := 50) (by decide) (fun _ => rfl) (by omega) (by decide) dX9_runner_69 (fun H locs hP hS => ?_)
        refine z_aln C hl 0 rfl dX9_runner_70 ?_
        refine z_dup C rfl dX9_runner_71 ?_
        refine gf_X9_66 C hP dX9_runner_72 ?_
        refine z_tope (b := σ 44 6) (by unfold um; rw [if_neg (by omega), if_neg (by omega), if_neg (by omega)]) ?_
        refine z_ic C dX9_runner_75 ?_
        refine z_iadd C dX9_runner_76 ?_
        refine pf_X9_66 C hq hP hS dX9_runner_77 (fun H locs hP hS => ?_)
        refine z_aln C hl 0 rfl dX9_runner_80 ?_
        refine gf_X9_66 C hP dX9_runner_81 ?_
        refine z_tope (b := (σ 44 6) + 1) (by unfold um; rw [if_pos ⟨rfl, rfl⟩]) ?_
        refine z_ic C dX9_runner_84 ?_
        refine z_isub C dX9_runner_85 ?_
        exact z_iretW B hP hS (by rw [if_neg (by omega), if_neg (by omega)]; exact ⟨by omega, rfl⟩) dX9_runner_86
      · skip
        refine z_bp C dX9_runner_36 rfl ?_
        exact z_iretW B hP hS (by rw [if_neg (by omega), if_pos (by omega)]; exact ⟨rfl, rfl⟩) dX9_runner_38
    · skip
      refine z_bp C dX9_runner_24 rfl ?_
      exact z_iretW B hP hS (by rw [if_pos (by omega)]; exact ⟨rfl, rfl⟩) dX9_runner_26

set_option maxHeartbeats 4000000 in
set_option maxRecDepth 100000 in
theorem c_X9_shape {l : Launch} {D : va_G} {q : Nat → Nat} {g : Nat → ClassId} {σ : Mem} (hq : qok q) (r row what a b : Int) (hn : 0 ≤ σ 44 6 ∧ σ 44 6 ≤ 6) (hr_r : zR r) (hr_row : zR row) (hr_what : zR what) (hr_a : zR a) (hr_b : zR b) : RW l yX9_shape cX9_shape 7 (some .int) 2 46 D q g σ [.ref (q 44), .int (zI r), .int (zI row), .int (zI what), .int (zI a), .int (zI b)] vI (fun res τ => if ¬ ((0 ≤ r ∧ r < σ 44 6) ∧ (0 ≤ row ∧ row ≤ 5)) then res = -1 ∧ τ = σ else if ¬ ((0 ≤ what ∧ what ≤ 1) ∧ (-9 ≤ a ∧ a ≤ 9) ∧ (-9 ≤ b ∧ b ≤ 9)) then res = -2 ∧ τ = σ else res = 1 ∧ τ = mShp σ r row what a b) := by
  refine RW.intro (plainFor_of_name (by decide)) (Nat.le_of_ble_eq_true rfl) (fun p e s m args below meth c ls B hP hS hl => ?_)
  have C := B.1
  have hl : lv_has ls 7 [(0, .ref (q 44)), (1, .int (zI r)), (2, .int (zI row)), (3, .int (zI what)), (4, .int (zI a)), (5, .int (zI b))] := hl
  refine z_aln C hl 0 rfl dX9_shape_0 ?_
  refine z_iln C hl 1 rfl dX9_shape_1 ?_
  refine z_vRO C hP hl (c_X9_isRunner (σ := σ) r (by omega) (by omega)) (z_recv C hP (i := 44) (by decide) rfl (ci := 9) rfl) wg_688 wg_10 wg_685 wg_687 ws_X9_isRunner cw_X9_isRunner ⟨Nat.le_of_ble_eq_true rfl, Nat.le_of_ble_eq_true rfl⟩ rfl rfl (Nat.le_of_ble_eq_true rfl) dX9_shape_2 ?_
  refine z_bif_eq C 15 (by decide) dX9_shape_5 (fun w1 => ?_) (fun w1 => ?_)
  · skip
    refine z_ic C dX9_shape_15 ?_
    exact z_iretW B hP hS (by rw [if_pos (by omega)]; exact ⟨rfl, rfl⟩) dX9_shape_16
  · skip
    refine z_iln C hl 2 rfl dX9_shape_8 ?_
    refine z_sRO C hP hl (c_X9_isRow (σ := σ) row (by omega))  wg_691 wg_10 wg_689 wg_690 cw_X9_isRow ⟨Nat.le_of_ble_eq_true rfl, Nat.le_of_ble_eq_true rfl⟩ rfl rfl (Nat.le_of_ble_eq_true rfl) dX9_shape_9 ?_
    refine z_bif_ne C 17 (by decide) dX9_shape_12 (fun w2 => ?_) (fun w2 => ?_)
    · skip
      refine z_iln C hl 3 rfl dX9_shape_17 ?_
      refine z_i2l C (by omega) dX9_shape_18 ?_
      refine z_lc0 C dX9_shape_19 ?_
      refine z_lc1 C dX9_shape_20 ?_
      refine z_sRO C hP hl (c_X9_in (σ := σ) what 0 1 (by omega) (by omega) (by omega))  wg_679 wg_10 wg_677 wg_678 cw_X9_in ⟨Nat.le_of_ble_eq_true rfl, Nat.le_of_ble_eq_true rfl⟩ rfl rfl (Nat.le_of_ble_eq_true rfl) dX9_shape_21 ?_
      refine z_bif_eq C 57 (by decide) dX9_shape_24 (fun w3 => ?_) (fun w3 => ?_)
      · skip
        refine z_bp C dX9_shape_57 rfl ?_
        exact z_iretW B hP hS (by rw [if_neg (by omega), if_pos (by omega)]; exact ⟨rfl, rfl⟩) dX9_shape_59
      · skip
        refine z_il C hl 4 rfl dX9_shape_27 ?_
        refine z_i2l C (by omega) dX9_shape_29 ?_
        refine z_ldc2 C (n := -9) wg_693 (by decide) dX9_shape_30 ?_
        refine z_ldc2 C (n := 9) wg_694 (by decide) dX9_shape_33 ?_
        refine z_sRO C hP hl (c_X9_in (σ := σ) a (-9) 9 (by omega) (by omega) (by omega))  wg_679 wg_10 wg_677 wg_678 cw_X9_in ⟨Nat.le_of_ble_eq_true rfl, Nat.le_of_ble_eq_true rfl⟩ rfl rfl (Nat.le_of_ble_eq_true rfl) dX9_shape_36 ?_
        refine z_bif_eq C 57 (by decide) dX9_shape_39 (fun w4 => ?_) (fun w4 => ?_)
        · skip
          refine z_bp C dX9_shape_57 rfl ?_
          exact z_iretW B hP hS (by rw [if_neg (by omega), if_pos (by omega)]; exact ⟨rfl, rfl⟩) dX9_shape_59
        · skip
          refine z_il C hl 5 rfl dX9_shape_42 ?_
          refine z_i2l C (by omega) dX9_shape_44 ?_
          refine z_ldc2 C (n := -9) wg_693 (by decide) dX9_shape_45 ?_
          refine z_ldc2 C (n := 9) wg_694 (by decide) dX9_shape_48 ?_
          refine z_sRO C hP hl (c_X9_in (σ := σ) b (-9) 9 (by omega) (by omega) (by omega))  wg_679 wg_10 wg_677 wg_678 cw_X9_in ⟨Nat.le_of_ble_eq_true rfl, Nat.le_of_ble_eq_true rfl⟩ rfl rfl (Nat.le_of_ble_eq_true rfl) dX9_shape_51 ?_
          refine z_bif_ne C 60 (by decide) dX9_shape_54 (fun w5 => ?_) (fun w5 => ?_)
          · skip
            refine z_iln C hl 1 rfl dX9_shape_60 ?_
            refine z_iln C hl 2 rfl dX9_shape_61 ?_
            refine z_iln C hl 3 rfl dX9_shape_62 ?_
            refine z_sRO C hP hl (c_X9_shapeAt (σ := σ) r row what )  wg_697 wg_10 wg_695 wg_696 cw_X9_shapeAt ⟨Nat.le_of_ble_eq_true rfl, Nat.le_of_ble_eq_true rfl⟩ rfl rfl (Nat.le_of_ble_eq_true rfl) dX9_shape_63 ?_
            refine z_ist C hl [(6, .int (zI (2 * (6 * r + row) + what))), (0, .ref (q 44)), (1, .int (zI r)), (2, .int (zI row)), (3, .int (zI what)), (4, .int (zI a)), (5, .int (zI b))] (by decide) rfl dX9_shape_66 (fun ls hl => ?_)
            refine z_aln C hl 1 rfl dX9_shape_68 ?_
            refine gf_X9_16 C hP dX9_shape_69 ?_
            refine z_il C hl 0 rfl dX9_shape_72 ?_
            refine z_il C hl 5 rfl dX9_shape_74 ?_
            refine z_il C hl 6 rfl dX9_shape_76 ?_
            refine z_icmp_gt C 85 (by decide) (by omega) (by omega) dX9_shape_78 (fun w6 => ?_) (fun w6 => ?_)
            · skip
              refine z_ic C dX9_shape_85 ?_
              refine z_zast C hq hP hS (i := 47) (by decide) (fun _ => rfl) (by omega) (by decide) (by omega) dX9_shape_86 (fun H locs hP hS => ?_)
              refine z_aln C hl 1 rfl dX9_shape_87 ?_
              refine gf_X9_20 C hP dX9_shape_88 ?_
              refine z_il C hl 0 rfl dX9_shape_91 ?_
              refine z_il C hl 5 rfl dX9_shape_93 ?_
              refine z_iast C hq hP hS (i := 48) (by decide) (fun _ => rfl) (by omega) (by decide) dX9_shape_95 (fun H locs hP hS => ?_)
              refine z_aln C hl 1 rfl dX9_shape_96 ?_
              refine gf_X9_23 C hP dX9_shape_97 ?_
              refine z_il C hl 0 rfl dX9_shape_100 ?_
              refine z_il C hl 6 rfl dX9_shape_102 ?_
              refine z_iast C hq hP hS (i := 49) (by decide) (fun _ => rfl) (by omega) (by decide) dX9_shape_104 (fun H locs hP hS => ?_)
              refine z_ic C dX9_shape_105 ?_
              exact z_iretW B hP hS (by rw [if_neg (by omega), if_neg (by omega), mShp, show (if a ≤ b then (1 : Int) else 0) = 0 by split <;> omega]; exact ⟨rfl, rfl⟩) dX9_shape_106
            · skip
              refine z_ic C dX9_shape_81 ?_
              refine z_goto C 86 (by decide) dX9_shape_82 ?_
              refine z_zast C hq hP hS (i := 47) (by decide) (fun _ => rfl) (by omega) (by decide) (by omega) dX9_shape_86 (fun H locs hP hS => ?_)
              refine z_aln C hl 1 rfl dX9_shape_87 ?_
              refine gf_X9_20 C hP dX9_shape_88 ?_
              refine z_il C hl 0 rfl dX9_shape_91 ?_
              refine z_il C hl 5 rfl dX9_shape_93 ?_
              refine z_iast C hq hP hS (i := 48) (by decide) (fun _ => rfl) (by omega) (by decide) dX9_shape_95 (fun H locs hP hS => ?_)
              refine z_aln C hl 1 rfl dX9_shape_96 ?_
              refine gf_X9_23 C hP dX9_shape_97 ?_
              refine z_il C hl 0 rfl dX9_shape_100 ?_
              refine z_il C hl 6 rfl dX9_shape_102 ?_
              refine z_iast C hq hP hS (i := 49) (by decide) (fun _ => rfl) (by omega) (by decide) dX9_shape_104 (fun H locs hP hS => ?_)
              refine z_ic C dX9_shape_105 ?_
              exact z_iretW B hP hS (by rw [if_neg (by omega), if_neg (by omega), mShp, show (if a ≤ b then (1 : Int) else 0) = 1 by split <;> omega]; exact ⟨rfl, rfl⟩) dX9_shape_106
          · skip
            refine z_bp C dX9_shape_57 rfl ?_
            exact z_iretW B hP hS (by rw [if_neg (by omega), if_pos (by omega)]; exact ⟨rfl, rfl⟩) dX9_shape_59
    · skip
      refine z_ic C dX9_shape_15 ?_
      exact z_iretW B hP hS (by rw [if_pos (by omega)]; exact ⟨rfl, rfl⟩) dX9_shape_16

set_option maxHeartbeats 4000000 in
set_option maxRecDepth 100000 in
theorem c_X9_push {l : Launch} {D : va_G} {q : Nat → Nat} {g : Nat → ClassId} {σ : Mem} (hq : qok q) (r col : Int) (hn : 0 ≤ σ 44 6 ∧ σ 44 6 ≤ 6) (hr_r : zR r) (hr_col : zR col) : RW l yX9_push cX9_push 4 (some .int) 2 46 D q g σ [.ref (q 44), .int (zI r), .int (zI col)] vI (fun res τ => if ¬ (0 ≤ r ∧ r < σ 44 6) then res = -1 ∧ τ = σ else if ¬ (-1 ≤ col ∧ col ≤ 299) then res = -2 ∧ τ = σ else res = σ 50 r.toNat ∧ τ = um σ 50 r.toNat (if col = -1 then -6 else col)) := by
  refine RW.intro (plainFor_of_name (by decide)) (Nat.le_of_ble_eq_true rfl) (fun p e s m args below meth c ls B hP hS hl => ?_)
  have C := B.1
  have hl : lv_has ls 4 [(0, .ref (q 44)), (1, .int (zI r)), (2, .int (zI col))] := hl
  refine z_aln C hl 0 rfl dX9_push_0 ?_
  refine z_iln C hl 1 rfl dX9_push_1 ?_
  refine z_vRO C hP hl (c_X9_isRunner (σ := σ) r (by omega) (by omega)) (z_recv C hP (i := 44) (by decide) rfl (ci := 9) rfl) wg_688 wg_10 wg_685 wg_687 ws_X9_isRunner cw_X9_isRunner ⟨Nat.le_of_ble_eq_true rfl, Nat.le_of_ble_eq_true rfl⟩ rfl rfl (Nat.le_of_ble_eq_true rfl) dX9_push_2 ?_
  refine z_bif_ne C 10 (by decide) dX9_push_5 (fun w1 => ?_) (fun w1 => ?_)
  · skip
    refine z_iln C hl 2 rfl dX9_push_10 ?_
    refine z_i2l C (by omega) dX9_push_11 ?_
    refine z_ldc2 C (n := -1) wg_794 (by decide) dX9_push_12 ?_
    refine z_ldc2 C (n := 299) wg_713 (by decide) dX9_push_15 ?_
    refine z_sRO C hP hl (c_X9_in (σ := σ) col (-1) 299 (by omega) (by omega) (by omega))  wg_679 wg_10 wg_677 wg_678 cw_X9_in ⟨Nat.le_of_ble_eq_true rfl, Nat.le_of_ble_eq_true rfl⟩ rfl rfl (Nat.le_of_ble_eq_true rfl) dX9_push_18 ?_
    refine z_bif_ne C 27 (by decide) dX9_push_21 (fun w2 => ?_) (fun w2 => ?_)
    · skip
      refine z_aln C hl 0 rfl dX9_push_27 ?_
      refine gf_X9_26 C hP dX9_push_28 ?_
      refine z_iln C hl 1 rfl dX9_push_31 ?_
      refine z_iald C hP (i := 50) (by decide) (fun _ => rfl) (by omega) (by decide) dX9_push_32 ?_
      refine z_isn C hl [(3, .int (zI (σ 50 r.toNat))), (0, .ref (q 44)), (1, .int (zI r)), (2, .int (zI col))] (by decide) rfl dX9_push_33 (fun ls hl => ?_)
      refine z_aln C hl 1 rfl dX9_push_34 ?_
      refine gf_X9_26 C hP dX9_push_35 ?_
      refine z_iln C hl 2 rfl dX9_push_38 ?_
      refine z_iln C hl 3 rfl dX9_push_39 ?_
      refine z_if_ge C 48 (by decide) (by omega) dX9_push_40 (fun w3 => ?_) (fun w3 => ?_)
      · skip
        refine z_iln C hl 3 rfl dX9_push_48 ?_
        refine z_iast C hq hP hS (i := 50) (by decide) (fun _ => rfl) (by omega) (by decide) dX9_push_49 (fun H locs hP hS => ?_)
        refine z_iln C hl 0 rfl dX9_push_50 ?_
        exact z_iretW B hP hS (by rw [if_neg (by omega), if_neg (by omega), show (if col = -1 then -6 else col) = col by split <;> omega]; exact ⟨rfl, rfl⟩) dX9_push_51
      · skip
        refine z_bp C dX9_push_43 rfl ?_
        refine z_goto C 49 (by decide) dX9_push_45 ?_
        refine z_iast C hq hP hS (i := 50) (by decide) (fun _ => rfl) (by omega) (by decide) dX9_push_49 (fun H locs hP hS => ?_)
        refine z_iln C hl 0 rfl dX9_push_50 ?_
        exact z_iretW B hP hS (by rw [if_neg (by omega), if_neg (by omega), show (if col = -1 then -6 else col) = -6 by split <;> omega]; exact ⟨rfl, rfl⟩) dX9_push_51
    · skip
      refine z_bp C dX9_push_24 rfl ?_
      exact z_iretW B hP hS (by rw [if_neg (by omega), if_pos (by omega)]; exact ⟨rfl, rfl⟩) dX9_push_26
  · skip
    refine z_ic C dX9_push_8 ?_
    exact z_iretW B hP hS (by rw [if_pos (by omega)]; exact ⟨rfl, rfl⟩) dX9_push_9

set_option maxHeartbeats 4000000 in
set_option maxRecDepth 100000 in
theorem c_X9_numberOf {l : Launch} {D : va_G} {q : Nat → Nat} {g : Nat → ClassId} {σ : Mem} (w : Int) (hw : 0 ≤ w ∧ w ≤ 3) : RO l yX9_numberOf cX9_numberOf 2 (some .int) 0 0 D q g σ [.ref (q 44), .int (zI w)] (some (.int (zI (σ 44 (7 + w).toNat)))) := by
  refine RO.intro (plainFor_of_name (by decide)) (Nat.le_of_ble_eq_true rfl) (fun p e s m args below meth c ls B hP hl => ?_)
  have C := B.1
  have hl : lv_has ls 2 [(0, .ref (q 44)), (1, .int (zI w))] := hl
  refine z_iln C hl 1 rfl dX9_numberOf_0 ?_
  refine z_if_ne C 11 (by decide) (by omega) dX9_numberOf_1 (fun w1 => ?_) (fun w1 => ?_)
  · skip
    refine z_iln C hl 1 rfl dX9_numberOf_11 ?_
    refine z_ic C dX9_numberOf_12 ?_
    refine z_icmp_ne C 23 (by decide) (by omega) (by omega) dX9_numberOf_13 (fun w2 => ?_) (fun w2 => ?_)
    · skip
      refine z_iln C hl 1 rfl dX9_numberOf_23 ?_
      refine z_ic C dX9_numberOf_24 ?_
      refine z_icmp_ne C 35 (by decide) (by omega) (by omega) dX9_numberOf_25 (fun w3 => ?_) (fun w3 => ?_)
      · skip
        refine z_aln C hl 0 rfl dX9_numberOf_35 ?_
        refine gf_X9_100 C hP dX9_numberOf_36 ?_
        exact z_iret B (by rw [show (7 + w).toNat = 10 by omega]) dX9_numberOf_39
      · skip
        refine z_aln C hl 0 rfl dX9_numberOf_28 ?_
        refine gf_X9_62 C hP dX9_numberOf_29 ?_
        refine z_goto C 39 (by decide) dX9_numberOf_32 ?_
        exact z_iret B (by rw [show (7 + w).toNat = 9 by omega]) dX9_numberOf_39
    · skip
      refine z_aln C hl 0 rfl dX9_numberOf_16 ?_
      refine gf_X9_97 C hP dX9_numberOf_17 ?_
      refine z_goto C 39 (by decide) dX9_numberOf_20 ?_
      exact z_iret B (by rw [show (7 + w).toNat = 8 by omega]) dX9_numberOf_39
  · skip
    refine z_aln C hl 0 rfl dX9_numberOf_4 ?_
    refine gf_X9_94 C hP dX9_numberOf_5 ?_
    refine z_goto C 39 (by decide) dX9_numberOf_8 ?_
    exact z_iret B (by rw [show (7 + w).toNat = 7 by omega]) dX9_numberOf_39

set_option maxHeartbeats 4000000 in
set_option maxRecDepth 100000 in
theorem c_X9_set {l : Launch} {D : va_G} {q : Nat → Nat} {g : Nat → ClassId} {σ : Mem} (hq : qok q) (w v : Int) (hr_w : zR w) (hr_v : zR v) : RW l yX9_set cX9_set 4 (some .int) 1 25 D q g σ [.ref (q 44), .int (zI w), .int (zI v)] vI (fun r τ => if ¬ ((0 ≤ w ∧ w ≤ 3) ∧ ((if w = 0 then -3 else 0) ≤ v ∧ v ≤ (if w = 0 then 3 else if w = 1 then 9 else if w = 2 then 200 else 1))) then r = -2 ∧ τ = σ else r = σ 44 (7 + w).toNat ∧ τ = um σ 44 (7 + w).toNat v) := by
  refine RW.intro (plainFor_of_name (by decide)) (Nat.le_of_ble_eq_true rfl) (fun p e s m args below meth c ls B hP hS hl => ?_)
  have C := B.1
  have hl : lv_has ls 4 [(0, .ref (q 44)), (1, .int (zI w)), (2, .int (zI v))] := hl
  refine z_iln C hl 1 rfl dX9_set_0 ?_
  refine z_i2l C (by omega) dX9_set_1 ?_
  refine z_lc0 C dX9_set_2 ?_
  refine z_ldc2 C (n := 3) wg_702 (by decide) dX9_set_3 ?_
  refine z_sRO C hP hl (c_X9_in (σ := σ) w 0 3 (by omega) (by omega) (by omega))  wg_679 wg_10 wg_677 wg_678 cw_X9_in ⟨Nat.le_of_ble_eq_true rfl, Nat.le_of_ble_eq_true rfl⟩ rfl rfl (Nat.le_of_ble_eq_true rfl) dX9_set_6 ?_
  refine z_bif_eq C 64 (by decide) dX9_set_9 (fun w1 => ?_) (fun w1 => ?_)
  · skip
    refine z_bp C dX9_set_64 rfl ?_
    exact z_iretW B hP hS (by rw [if_pos (by first | omega | (split <;> (try split) <;> (try split) <;> (try split) <;> omega))]; exact ⟨rfl, rfl⟩) dX9_set_66
  · skip
    refine z_iln C hl 2 rfl dX9_set_12 ?_
    refine z_i2l C (by omega) dX9_set_13 ?_
    refine z_iln C hl 1 rfl dX9_set_14 ?_
    refine z_if_ne C 24 (by decide) (by omega) dX9_set_15 (fun w2 => ?_) (fun w2 => ?_)
    · skip
      refine z_lc0 C dX9_set_24 ?_
      refine z_iln C hl 1 rfl dX9_set_25 ?_
      refine z_if_ne C 35 (by decide) (by omega) dX9_set_26 (fun _ => ?_) (fun w3 => False.elim (by omega))
      refine z_iln C hl 1 rfl dX9_set_35 ?_
      refine z_ic C dX9_set_36 ?_
      refine z_icmp_ne C 46 (by decide) (by omega) (by omega) dX9_set_37 (fun w4 => ?_) (fun w4 => ?_)
      · skip
        refine z_iln C hl 1 rfl dX9_set_46 ?_
        refine z_ic C dX9_set_47 ?_
        refine z_icmp_ne C 57 (by decide) (by omega) (by omega) dX9_set_48 (fun w5 => ?_) (fun w5 => ?_)
        · skip
          refine z_lc1 C dX9_set_57 ?_
          refine z_sRO C hP hl (c_X9_in (σ := σ) v 0 1 (by omega) (by omega) (by omega))  wg_679 wg_10 wg_677 wg_678 cw_X9_in ⟨Nat.le_of_ble_eq_true rfl, Nat.le_of_ble_eq_true rfl⟩ rfl rfl (Nat.le_of_ble_eq_true rfl) dX9_set_58 ?_
          refine z_bif_ne C 67 (by decide) dX9_set_61 (fun w6 => ?_) (fun w6 => ?_)
          · skip
            refine z_aln C hl 0 rfl dX9_set_67 ?_
            refine z_iln C hl 1 rfl dX9_set_68 ?_
            refine z_vRO C hP hl (c_X9_numberOf (σ := σ) w (by omega)) (z_recv C hP (i := 44) (by decide) rfl (ci := 9) rfl) wg_708 wg_10 wg_705 wg_707 ws_X9_numberOf cw_X9_numberOf ⟨Nat.le_of_ble_eq_true rfl, Nat.le_of_ble_eq_true rfl⟩ rfl rfl (Nat.le_of_ble_eq_true rfl) dX9_set_69 ?_
            refine z_isn C hl [(3, .int (zI (σ 44 (7 + w).toNat))), (0, .ref (q 44)), (1, .int (zI w)), (2, .int (zI v))] (by decide) rfl dX9_set_72 (fun ls hl => ?_)
            refine z_iln C hl 2 rfl dX9_set_73 ?_
            refine z_if_ne C 85 (by decide) (by omega) dX9_set_74 (fun _ => ?_) (fun w7 => False.elim (by omega))
            refine z_iln C hl 2 rfl dX9_set_85 ?_
            refine z_ic C dX9_set_86 ?_
            refine z_icmp_ne C 98 (by decide) (by omega) (by omega) dX9_set_87 (fun _ => ?_) (fun w8 => False.elim (by omega))
            refine z_iln C hl 2 rfl dX9_set_98 ?_
            refine z_ic C dX9_set_99 ?_
            refine z_icmp_ne C 111 (by decide) (by omega) (by omega) dX9_set_100 (fun _ => ?_) (fun w9 => False.elim (by omega))
            refine z_aln C hl 1 rfl dX9_set_111 ?_
            refine z_iln C hl 3 rfl dX9_set_112 ?_
            refine pf_X9_100 C hq hP hS dX9_set_113 (fun H locs hP hS => ?_)
            refine z_iln C hl 0 rfl dX9_set_116 ?_
            exact z_iretW B hP hS (by rw [if_neg (by first | omega | (split <;> (try split) <;> (try split) <;> (try split) <;> omega)), show (7 + w).toNat = 10 by omega]; exact ⟨rfl, rfl⟩) dX9_set_117
          · skip
            refine z_bp C dX9_set_64 rfl ?_
            exact z_iretW B hP hS (by rw [if_pos (by first | omega | (split <;> (try split) <;> (try split) <;> (try split) <;> omega))]; exact ⟨rfl, rfl⟩) dX9_set_66
        · skip
          refine z_ldc2 C (n := 200) wg_704 (by decide) dX9_set_51 ?_
          refine z_goto C 58 (by decide) dX9_set_54 ?_
          refine z_sRO C hP hl (c_X9_in (σ := σ) v 0 200 (by omega) (by omega) (by omega))  wg_679 wg_10 wg_677 wg_678 cw_X9_in ⟨Nat.le_of_ble_eq_true rfl, Nat.le_of_ble_eq_true rfl⟩ rfl rfl (Nat.le_of_ble_eq_true rfl) dX9_set_58 ?_
          refine z_bif_ne C 67 (by decide) dX9_set_61 (fun w10 => ?_) (fun w10 => ?_)
          · skip
            refine z_aln C hl 0 rfl dX9_set_67 ?_
            refine z_iln C hl 1 rfl dX9_set_68 ?_
            refine z_vRO C hP hl (c_X9_numberOf (σ := σ) w (by omega)) (z_recv C hP (i := 44) (by decide) rfl (ci := 9) rfl) wg_708 wg_10 wg_705 wg_707 ws_X9_numberOf cw_X9_numberOf ⟨Nat.le_of_ble_eq_true rfl, Nat.le_of_ble_eq_true rfl⟩ rfl rfl (Nat.le_of_ble_eq_true rfl) dX9_set_69 ?_
            refine z_isn C hl [(3, .int (zI (σ 44 (7 + w).toNat))), (0, .ref (q 44)), (1, .int (zI w)), (2, .int (zI v))] (by decide) rfl dX9_set_72 (fun ls hl => ?_)
            refine z_iln C hl 2 rfl dX9_set_73 ?_
            refine z_if_ne C 85 (by decide) (by omega) dX9_set_74 (fun _ => ?_) (fun w11 => False.elim (by omega))
            refine z_iln C hl 2 rfl dX9_set_85 ?_
            refine z_ic C dX9_set_86 ?_
            refine z_icmp_ne C 98 (by decide) (by omega) (by omega) dX9_set_87 (fun _ => ?_) (fun w12 => False.elim (by omega))
            refine z_iln C hl 2 rfl dX9_set_98 ?_
            refine z_ic C dX9_set_99 ?_
            refine z_icmp_ne C 111 (by decide) (by omega) (by omega) dX9_set_100 (fun w13 => False.elim (by omega)) (fun _ => ?_)
            refine z_aln C hl 1 rfl dX9_set_103 ?_
            refine z_iln C hl 3 rfl dX9_set_104 ?_
            refine pf_X9_62 C hq hP hS dX9_set_105 (fun H locs hP hS => ?_)
            refine z_goto C 116 (by decide) dX9_set_108 ?_
            refine z_iln C hl 0 rfl dX9_set_116 ?_
            exact z_iretW B hP hS (by rw [if_neg (by first | omega | (split <;> (try split) <;> (try split) <;> (try split) <;> omega)), show (7 + w).toNat = 9 by omega]; exact ⟨rfl, rfl⟩) dX9_set_117
          · skip
            refine z_bp C dX9_set_64 rfl ?_
            exact z_iretW B hP hS (by rw [if_pos (by first | omega | (split <;> (try split) <;> (try split) <;> (try split) <;> omega))]; exact ⟨rfl, rfl⟩) dX9_set_66
      · skip
        refine z_ldc2 C (n := 9) wg_694 (by decide) dX9_set_40 ?_
        refine z_goto C 58 (by decide) dX9_set_43 ?_
        refine z_sRO C hP hl (c_X9_in (σ := σ) v 0 9 (by omega) (by omega) (by omega))  wg_679 wg_10 wg_677 wg_678 cw_X9_in ⟨Nat.le_of_ble_eq_true rfl, Nat.le_of_ble_eq_true rfl⟩ rfl rfl (Nat.le_of_ble_eq_true rfl) dX9_set_58 ?_
        refine z_bif_ne C 67 (by decide) dX9_set_61 (fun w14 => ?_) (fun w14 => ?_)
        · skip
          refine z_aln C hl 0 rfl dX9_set_67 ?_
          refine z_iln C hl 1 rfl dX9_set_68 ?_
          refine z_vRO C hP hl (c_X9_numberOf (σ := σ) w (by omega)) (z_recv C hP (i := 44) (by decide) rfl (ci := 9) rfl) wg_708 wg_10 wg_705 wg_707 ws_X9_numberOf cw_X9_numberOf ⟨Nat.le_of_ble_eq_true rfl, Nat.le_of_ble_eq_true rfl⟩ rfl rfl (Nat.le_of_ble_eq_true rfl) dX9_set_69 ?_
          refine z_isn C hl [(3, .int (zI (σ 44 (7 + w).toNat))), (0, .ref (q 44)), (1, .int (zI w)), (2, .int (zI v))] (by decide) rfl dX9_set_72 (fun ls hl => ?_)
          refine z_iln C hl 2 rfl dX9_set_73 ?_
          refine z_if_ne C 85 (by decide) (by omega) dX9_set_74 (fun _ => ?_) (fun w15 => False.elim (by omega))
          refine z_iln C hl 2 rfl dX9_set_85 ?_
          refine z_ic C dX9_set_86 ?_
          refine z_icmp_ne C 98 (by decide) (by omega) (by omega) dX9_set_87 (fun w16 => False.elim (by omega)) (fun _ => ?_)
          refine z_aln C hl 1 rfl dX9_set_90 ?_
          refine z_iln C hl 3 rfl dX9_set_91 ?_
          refine pf_X9_97 C hq hP hS dX9_set_92 (fun H locs hP hS => ?_)
          refine z_goto C 116 (by decide) dX9_set_95 ?_
          refine z_iln C hl 0 rfl dX9_set_116 ?_
          exact z_iretW B hP hS (by rw [if_neg (by first | omega | (split <;> (try split) <;> (try split) <;> (try split) <;> omega)), show (7 + w).toNat = 8 by omega]; exact ⟨rfl, rfl⟩) dX9_set_117
        · skip
          refine z_bp C dX9_set_64 rfl ?_
          exact z_iretW B hP hS (by rw [if_pos (by first | omega | (split <;> (try split) <;> (try split) <;> (try split) <;> omega))]; exact ⟨rfl, rfl⟩) dX9_set_66
    · skip
      refine z_ldc2 C (n := -3) wg_703 (by decide) dX9_set_18 ?_
      refine z_goto C 25 (by decide) dX9_set_21 ?_
      refine z_iln C hl 1 rfl dX9_set_25 ?_
      refine z_if_ne C 35 (by decide) (by omega) dX9_set_26 (fun w17 => False.elim (by omega)) (fun _ => ?_)
      refine z_ldc2 C (n := 3) wg_702 (by decide) dX9_set_29 ?_
      refine z_goto C 58 (by decide) dX9_set_32 ?_
      refine z_sRO C hP hl (c_X9_in (σ := σ) v (-3) 3 (by omega) (by omega) (by omega))  wg_679 wg_10 wg_677 wg_678 cw_X9_in ⟨Nat.le_of_ble_eq_true rfl, Nat.le_of_ble_eq_true rfl⟩ rfl rfl (Nat.le_of_ble_eq_true rfl) dX9_set_58 ?_
      refine z_bif_ne C 67 (by decide) dX9_set_61 (fun w18 => ?_) (fun w18 => ?_)
      · skip
        refine z_aln C hl 0 rfl dX9_set_67 ?_
        refine z_iln C hl 1 rfl dX9_set_68 ?_
        refine z_vRO C hP hl (c_X9_numberOf (σ := σ) w (by omega)) (z_recv C hP (i := 44) (by decide) rfl (ci := 9) rfl) wg_708 wg_10 wg_705 wg_707 ws_X9_numberOf cw_X9_numberOf ⟨Nat.le_of_ble_eq_true rfl, Nat.le_of_ble_eq_true rfl⟩ rfl rfl (Nat.le_of_ble_eq_true rfl) dX9_set_69 ?_
        refine z_isn C hl [(3, .int (zI (σ 44 (7 + w).toNat))), (0, .ref (q 44)), (1, .int (zI w)), (2, .int (zI v))] (by decide) rfl dX9_set_72 (fun ls hl => ?_)
        refine z_iln C hl 2 rfl dX9_set_73 ?_
        refine z_if_ne C 85 (by decide) (by omega) dX9_set_74 (fun w19 => False.elim (by omega)) (fun _ => ?_)
        refine z_aln C hl 1 rfl dX9_set_77 ?_
        refine z_iln C hl 3 rfl dX9_set_78 ?_
        refine pf_X9_94 C hq hP hS dX9_set_79 (fun H locs hP hS => ?_)
        refine z_goto C 116 (by decide) dX9_set_82 ?_
        refine z_iln C hl 0 rfl dX9_set_116 ?_
        exact z_iretW B hP hS (by rw [if_neg (by first | omega | (split <;> (try split) <;> (try split) <;> (try split) <;> omega)), show (7 + w).toNat = 7 by omega]; exact ⟨rfl, rfl⟩) dX9_set_117
      · skip
        refine z_bp C dX9_set_64 rfl ?_
        exact z_iretW B hP hS (by rw [if_pos (by first | omega | (split <;> (try split) <;> (try split) <;> (try split) <;> omega))]; exact ⟨rfl, rfl⟩) dX9_set_66

set_option maxHeartbeats 4000000 in
set_option maxRecDepth 100000 in
theorem c_X9_told {l : Launch} {D : va_G} {q : Nat → Nat} {g : Nat → ClassId} {σ : Mem} (what : Int) (hr_what : zR what) (hR : MR σ) (h27 : σ 44 27 = σ 6 3) (h20 : σ 44 20 = σ 4 1) (h24 : σ 44 24 = σ 5 4) : RO l yX9_told cX9_told 2 (some .int) 1 25 D q g σ [.ref (q 44), .int (zI what)] (some (.int (zI (kTold σ what)))) := by
  refine RO.intro (plainFor_of_name (by decide)) (Nat.le_of_ble_eq_true rfl) (fun p e s m args below meth c ls B hP hl => ?_)
  have C := B.1
  have hl : lv_has ls 2 [(0, .ref (q 44)), (1, .int (zI what))] := hl
  have hh := hR.1
  refine z_iln C hl 1 rfl dX9_told_0 ?_
  refine z_i2l C (by omega) dX9_told_1 ?_
  refine z_ldc2 C (n := 10) wg_908 (by decide) dX9_told_2 ?_
  refine z_ldc2 C (n := 13) wg_909 (by decide) dX9_told_5 ?_
  refine z_sRO C hP hl (c_X9_in (σ := σ) what 10 13 (by omega) (by omega) (by omega))  wg_679 wg_10 wg_677 wg_678 cw_X9_in ⟨Nat.le_of_ble_eq_true rfl, Nat.le_of_ble_eq_true rfl⟩ rfl rfl (Nat.le_of_ble_eq_true rfl) dX9_told_8 ?_
  refine z_bif_eq C 23 (by decide) dX9_told_11 (fun w1 => ?_) (fun w1 => ?_)
  · skip
    refine z_iln C hl 1 rfl dX9_told_23 ?_
    refine z_if_ne C 34 (by decide) (by omega) dX9_told_24 (fun w2 => ?_) (fun w2 => ?_)
    · skip
      refine z_iln C hl 1 rfl dX9_told_34 ?_
      refine z_ic C dX9_told_35 ?_
      refine z_icmp_ne C 46 (by decide) (by omega) (by omega) dX9_told_36 (fun w3 => ?_) (fun w3 => ?_)
      · skip
        refine z_iln C hl 1 rfl dX9_told_46 ?_
        refine z_ic C dX9_told_47 ?_
        refine z_icmp_ne C 58 (by decide) (by omega) (by omega) dX9_told_48 (fun w4 => ?_) (fun w4 => ?_)
        · skip
          refine z_iln C hl 1 rfl dX9_told_58 ?_
          refine z_ic C dX9_told_59 ?_
          refine z_icmp_ne C 70 (by decide) (by omega) (by omega) dX9_told_60 (fun w5 => ?_) (fun w5 => ?_)
          · skip
            refine z_bp C dX9_told_70 rfl ?_
            exact z_iret B (by unfold kTold; split <;> (try split) <;> (try split) <;> (try split) <;> (try split) <;> omega) dX9_told_72
          · skip
            refine z_aln C hl 0 rfl dX9_told_63 ?_
            refine gf_X9_217 C hP dX9_told_64 ?_
            refine z_goto C 72 (by decide) dX9_told_67 ?_
            exact z_iret B (by unfold kTold; split <;> (try split) <;> (try split) <;> (try split) <;> (try split) <;> omega) dX9_told_72
        · skip
          refine z_aln C hl 0 rfl dX9_told_51 ?_
          refine gf_X9_198 C hP dX9_told_52 ?_
          refine z_goto C 72 (by decide) dX9_told_55 ?_
          exact z_iret B (by unfold kTold; split <;> (try split) <;> (try split) <;> (try split) <;> (try split) <;> omega) dX9_told_72
      · skip
        refine z_aln C hl 0 rfl dX9_told_39 ?_
        refine gf_X9_229 C hP dX9_told_40 ?_
        refine z_goto C 72 (by decide) dX9_told_43 ?_
        exact z_iret B (by unfold kTold; split <;> (try split) <;> (try split) <;> (try split) <;> (try split) <;> omega) dX9_told_72
    · skip
      refine z_aln C hl 0 rfl dX9_told_27 ?_
      refine gf_X9_66 C hP dX9_told_28 ?_
      refine z_goto C 72 (by decide) dX9_told_31 ?_
      exact z_iret B (by unfold kTold; split <;> (try split) <;> (try split) <;> (try split) <;> (try split) <;> omega) dX9_told_72
  · skip
    refine z_aln C hl 0 rfl dX9_told_14 ?_
    refine z_iln C hl 1 rfl dX9_told_15 ?_
    refine z_bp C dX9_told_16 rfl ?_
    refine z_isub C dX9_told_18 ?_
    refine z_vRO C hP hl (c_X9_numberOf (σ := σ) (what - 10) (by omega)) (z_recv C hP (i := 44) (by decide) rfl (ci := 9) rfl) wg_708 wg_10 wg_705 wg_707 ws_X9_numberOf cw_X9_numberOf ⟨Nat.le_of_ble_eq_true rfl, Nat.le_of_ble_eq_true rfl⟩ rfl rfl (Nat.le_of_ble_eq_true rfl) dX9_told_19 ?_
    exact z_iret B (by unfold kTold; rw [if_neg (by omega), if_neg (by omega), if_neg (by omega), if_neg (by omega), if_pos (by omega)]; have h4 : what = 10 ∨ what = 11 ∨ what = 12 ∨ what = 13 := (by omega); rcases h4 with rfl | rfl | rfl | rfl; exact hh.2.1; exact hh.2.2.1; exact hh.2.2.2.1; exact hh.2.2.2.2) dX9_told_22

set_option maxHeartbeats 4000000 in
set_option maxRecDepth 100000 in
theorem c_X9_isJudge {l : Launch} {D : va_G} {q : Nat → Nat} {g : Nat → ClassId} {σ : Mem} (v : Int) (hr_v : zR v) : RO l yX9_isJudge cX9_isJudge 1 (some .boolean) 1 25 D q g σ [.int (zI v)] (some (.int (zI (bz (0 ≤ v ∧ v ≤ 3))))) := by
  refine RO.intro (plainFor_of_name (by decide)) (Nat.le_of_ble_eq_true rfl) (fun p e s m args below meth c ls B hP hl => ?_)
  have C := B.1
  have hl : lv_has ls 1 [(0, .int (zI v))] := hl
  refine z_iln C hl 0 rfl dX9_isJudge_0 ?_
  refine z_i2l C (by omega) dX9_isJudge_1 ?_
  refine z_lc0 C dX9_isJudge_2 ?_
  refine z_ldc2 C (n := 3) wg_702 (by decide) dX9_isJudge_3 ?_
  refine z_sRO C hP hl (c_X9_in (σ := σ) v 0 3 (by omega) (by omega) (by omega))  wg_679 wg_10 wg_677 wg_678 cw_X9_in ⟨Nat.le_of_ble_eq_true rfl, Nat.le_of_ble_eq_true rfl⟩ rfl rfl (Nat.le_of_ble_eq_true rfl) dX9_isJudge_6 ?_
  exact z_bret B (by constructor <;> intros <;> omega) dX9_isJudge_9

set_option maxHeartbeats 4000000 in
set_option maxRecDepth 100000 in
theorem c_X9_isTime {l : Launch} {D : va_G} {q : Nat → Nat} {g : Nat → ClassId} {σ : Mem} (v : Int) (hr_v : zR v) : RO l yX9_isTime cX9_isTime 1 (some .boolean) 1 25 D q g σ [.int (zI v)] (some (.int (zI (bz (0 ≤ v ∧ v ≤ 99999))))) := by
  refine RO.intro (plainFor_of_name (by decide)) (Nat.le_of_ble_eq_true rfl) (fun p e s m args below meth c ls B hP hl => ?_)
  have C := B.1
  have hl : lv_has ls 1 [(0, .int (zI v))] := hl
  refine z_iln C hl 0 rfl dX9_isTime_0 ?_
  refine z_i2l C (by omega) dX9_isTime_1 ?_
  refine z_lc0 C dX9_isTime_2 ?_
  refine z_ldc2 C (n := 99999) wg_818 (by decide) dX9_isTime_3 ?_
  refine z_sRO C hP hl (c_X9_in (σ := σ) v 0 99999 (by omega) (by omega) (by omega))  wg_679 wg_10 wg_677 wg_678 cw_X9_in ⟨Nat.le_of_ble_eq_true rfl, Nat.le_of_ble_eq_true rfl⟩ rfl rfl (Nat.le_of_ble_eq_true rfl) dX9_isTime_6 ?_
  exact z_bret B (by constructor <;> intros <;> omega) dX9_isTime_9

set_option maxHeartbeats 4000000 in
set_option maxRecDepth 100000 in
theorem c_X9_isNumber {l : Launch} {D : va_G} {q : Nat → Nat} {g : Nat → ClassId} {σ : Mem} (v : Int) (hr_v : zR v) : RO l yX9_isNumber cX9_isNumber 1 (some .boolean) 1 25 D q g σ [.int (zI v)] (some (.int (zI (bz (-9999 ≤ v ∧ v ≤ 9999))))) := by
  refine RO.intro (plainFor_of_name (by decide)) (Nat.le_of_ble_eq_true rfl) (fun p e s m args below meth c ls B hP hl => ?_)
  have C := B.1
  have hl : lv_has ls 1 [(0, .int (zI v))] := hl
  refine z_iln C hl 0 rfl dX9_isNumber_0 ?_
  refine z_i2l C (by omega) dX9_isNumber_1 ?_
  refine z_ldc2 C (n := -9999) wg_877 (by decide) dX9_isNumber_2 ?_
  refine z_ldc2 C (n := 9999) wg_878 (by decide) dX9_isNumber_5 ?_
  refine z_sRO C hP hl (c_X9_in (σ := σ) v (-9999) 9999 (by omega) (by omega) (by omega))  wg_679 wg_10 wg_677 wg_678 cw_X9_in ⟨Nat.le_of_ble_eq_true rfl, Nat.le_of_ble_eq_true rfl⟩ rfl rfl (Nat.le_of_ble_eq_true rfl) dX9_isNumber_8 ?_
  exact z_bret B (by constructor <;> intros <;> omega) dX9_isNumber_11

set_option maxHeartbeats 4000000 in
set_option maxRecDepth 100000 in
theorem c_X9_known {l : Launch} {D : va_G} {q : Nat → Nat} {g : Nat → ClassId} {σ : Mem} (hq : qok q) (ju told truly : Int) (hjb : ∀ j : Nat, j < 4 → (0 ≤ σ 53 j ∧ σ 53 j ≤ 50) ∧ (0 ≤ σ 54 j ∧ σ 54 j ≤ 50)) (hr_ju : zR ju) (hr_told : zR told) (hr_truly : zR truly) : RW l yX9_known cX9_known 7 (some .int) 2 45 D q g σ [.ref (q 44), .int (zI ju), .int (zI told), .int (zI truly)] vI (fun r τ => if ¬ (0 ≤ ju ∧ ju ≤ 3) then r = -1 ∧ τ = σ else if ¬ ((0 ≤ told ∧ told ≤ 99999) ∧ (0 ≤ truly ∧ truly ≤ 99999)) then r = -2 ∧ τ = σ else if (min (σ 54 ju.toNat) (told - truly + 1)) < (max (σ 53 ju.toNat) (told - truly - 1)) then r = -5 ∧ τ = σ else r = 1 ∧ τ = um (um σ 53 ju.toNat (max (σ 53 ju.toNat) (told - truly - 1))) 54 ju.toNat (min (σ 54 ju.toNat) (told - truly + 1))) := by
  refine RW.intro (plainFor_of_name (by decide)) (Nat.le_of_ble_eq_true rfl) (fun p e s m args below meth c ls B hP hS hl => ?_)
  have C := B.1
  have hl : lv_has ls 7 [(0, .ref (q 44)), (1, .int (zI ju)), (2, .int (zI told)), (3, .int (zI truly))] := hl
  refine z_iln C hl 1 rfl dX9_known_0 ?_
  refine z_sRO C hP hl (c_X9_isJudge (σ := σ) ju (by omega))  wg_814 wg_10 wg_812 wg_813 cw_X9_isJudge ⟨Nat.le_of_ble_eq_true rfl, Nat.le_of_ble_eq_true rfl⟩ rfl rfl (Nat.le_of_ble_eq_true rfl) dX9_known_1 ?_
  refine z_bif_ne C 9 (by decide) dX9_known_4 (fun w1 => ?_) (fun w1 => ?_)
  · skip
    refine z_iln C hl 2 rfl dX9_known_9 ?_
    refine z_sRO C hP hl (c_X9_isTime (σ := σ) told (by omega))  wg_817 wg_10 wg_815 wg_816 cw_X9_isTime ⟨Nat.le_of_ble_eq_true rfl, Nat.le_of_ble_eq_true rfl⟩ rfl rfl (Nat.le_of_ble_eq_true rfl) dX9_known_10 ?_
    refine z_bif_eq C 23 (by decide) dX9_known_13 (fun w2 => ?_) (fun w2 => ?_)
    · skip
      refine z_bp C dX9_known_23 rfl ?_
      exact z_iretW B hP hS (by rw [if_neg (by omega), if_pos (by omega)]; exact ⟨rfl, rfl⟩) dX9_known_25
    · skip
      refine z_iln C hl 3 rfl dX9_known_16 ?_
      refine z_sRO C hP hl (c_X9_isTime (σ := σ) truly (by omega))  wg_817 wg_10 wg_815 wg_816 cw_X9_isTime ⟨Nat.le_of_ble_eq_true rfl, Nat.le_of_ble_eq_true rfl⟩ rfl rfl (Nat.le_of_ble_eq_true rfl) dX9_known_17 ?_
      refine z_bif_ne C 26 (by decide) dX9_known_20 (fun w3 => ?_) (fun w3 => ?_)
      · skip
        have hj := hjb ju.toNat (by omega)
        refine z_iln C hl 2 rfl dX9_known_26 ?_
        refine z_iln C hl 3 rfl dX9_known_27 ?_
        refine z_isub C dX9_known_28 ?_
        refine z_ist C hl [(4, .int (zI (told - truly))), (0, .ref (q 44)), (1, .int (zI ju)), (2, .int (zI told)), (3, .int (zI truly))] (by decide) rfl dX9_known_29 (fun ls hl => ?_)
        refine z_il C hl 0 rfl dX9_known_31 ?_
        refine z_ic C dX9_known_33 ?_
        refine z_isub C dX9_known_34 ?_
        refine z_aln C hl 1 rfl dX9_known_35 ?_
        refine gf_X9_35 C hP dX9_known_36 ?_
        refine z_iln C hl 2 rfl dX9_known_39 ?_
        refine z_iald C hP (i := 53) (by decide) (fun _ => rfl) (by omega) (by decide) dX9_known_40 ?_
        refine z_icmp_le C 51 (by decide) (by omega) (by omega) dX9_known_41 (fun w4 => ?_) (fun w4 => ?_)
        · skip
          refine z_aln C hl 1 rfl dX9_known_51 ?_
          refine gf_X9_35 C hP dX9_known_52 ?_
          refine z_iln C hl 2 rfl dX9_known_55 ?_
          refine z_iald C hP (i := 53) (by decide) (fun _ => rfl) (by omega) (by decide) dX9_known_56 ?_
          refine z_ist C hl [(5, .int (zI (σ 53 ju.toNat))), (4, .int (zI (told - truly))), (0, .ref (q 44)), (1, .int (zI ju)), (2, .int (zI told)), (3, .int (zI truly))] (by decide) rfl dX9_known_57 (fun ls hl => ?_)
          refine z_il C hl 1 rfl dX9_known_59 ?_
          refine z_ic C dX9_known_61 ?_
          refine z_iadd C dX9_known_62 ?_
          refine z_aln C hl 2 rfl dX9_known_63 ?_
          refine gf_X9_38 C hP dX9_known_64 ?_
          refine z_iln C hl 3 rfl dX9_known_67 ?_
          refine z_iald C hP (i := 54) (by decide) (fun _ => rfl) (by omega) (by decide) dX9_known_68 ?_
          refine z_icmp_ge C 79 (by decide) (by omega) (by omega) dX9_known_69 (fun w5 => ?_) (fun w5 => ?_)
          · skip
            refine z_aln C hl 2 rfl dX9_known_79 ?_
            refine gf_X9_38 C hP dX9_known_80 ?_
            refine z_iln C hl 3 rfl dX9_known_83 ?_
            refine z_iald C hP (i := 54) (by decide) (fun _ => rfl) (by omega) (by decide) dX9_known_84 ?_
            refine z_ist C hl [(6, .int (zI (σ 54 ju.toNat))), (5, .int (zI (σ 53 ju.toNat))), (4, .int (zI (told - truly))), (0, .ref (q 44)), (1, .int (zI ju)), (2, .int (zI told)), (3, .int (zI truly))] (by decide) rfl dX9_known_85 (fun ls hl => ?_)
            refine z_il C hl 1 rfl dX9_known_87 ?_
            refine z_il C hl 0 rfl dX9_known_89 ?_
            refine z_icmp_le C 97 (by decide) (by omega) (by omega) dX9_known_91 (fun w6 => ?_) (fun w6 => ?_)
            · skip
              refine z_aln C hl 3 rfl dX9_known_97 ?_
              refine gf_X9_35 C hP dX9_known_98 ?_
              refine z_iln C hl 4 rfl dX9_known_101 ?_
              refine z_il C hl 1 rfl dX9_known_102 ?_
              refine z_iast C hq hP hS (i := 53) (by decide) (fun _ => rfl) (by omega) (by decide) dX9_known_104 (fun H locs hP hS => ?_)
              refine z_aln C hl 3 rfl dX9_known_105 ?_
              refine gf_X9_38 C hP dX9_known_106 ?_
              refine z_iln C hl 4 rfl dX9_known_109 ?_
              refine z_il C hl 0 rfl dX9_known_110 ?_
              refine z_iast C hq hP hS (i := 54) (by decide) (fun _ => rfl) (by omega) (by decide) dX9_known_112 (fun H locs hP hS => ?_)
              refine z_ic C dX9_known_113 ?_
              exact z_iretW B hP hS (by rw [if_neg (by omega), if_neg (by omega), if_neg (by omega), show (max (σ 53 ju.toNat) (told - truly - 1)) = σ 53 ju.toNat by omega, show (min (σ 54 ju.toNat) (told - truly + 1)) = σ 54 ju.toNat by omega]; exact ⟨rfl, rfl⟩) dX9_known_114
            · skip
              refine z_bp C dX9_known_94 rfl ?_
              exact z_iretW B hP hS (by rw [if_neg (by omega), if_neg (by omega), if_pos (by omega)]; exact ⟨rfl, rfl⟩) dX9_known_96
          · skip
            refine z_il C hl 1 rfl dX9_known_72 ?_
            refine z_ic C dX9_known_74 ?_
            refine z_iadd C dX9_known_75 ?_
            refine z_goto C 85 (by decide) dX9_known_76 ?_
            refine z_ist C hl [(6, .int (zI ((told - truly) + 1))), (5, .int (zI (σ 53 ju.toNat))), (4, .int (zI (told - truly))), (0, .ref (q 44)), (1, .int (zI ju)), (2, .int (zI told)), (3, .int (zI truly))] (by decide) rfl dX9_known_85 (fun ls hl => ?_)
            refine z_il C hl 1 rfl dX9_known_87 ?_
            refine z_il C hl 0 rfl dX9_known_89 ?_
            refine z_icmp_le C 97 (by decide) (by omega) (by omega) dX9_known_91 (fun w7 => ?_) (fun w7 => ?_)
            · skip
              refine z_aln C hl 3 rfl dX9_known_97 ?_
              refine gf_X9_35 C hP dX9_known_98 ?_
              refine z_iln C hl 4 rfl dX9_known_101 ?_
              refine z_il C hl 1 rfl dX9_known_102 ?_
              refine z_iast C hq hP hS (i := 53) (by decide) (fun _ => rfl) (by omega) (by decide) dX9_known_104 (fun H locs hP hS => ?_)
              refine z_aln C hl 3 rfl dX9_known_105 ?_
              refine gf_X9_38 C hP dX9_known_106 ?_
              refine z_iln C hl 4 rfl dX9_known_109 ?_
              refine z_il C hl 0 rfl dX9_known_110 ?_
              refine z_iast C hq hP hS (i := 54) (by decide) (fun _ => rfl) (by omega) (by decide) dX9_known_112 (fun H locs hP hS => ?_)
              refine z_ic C dX9_known_113 ?_
              exact z_iretW B hP hS (by rw [if_neg (by omega), if_neg (by omega), if_neg (by omega), show (max (σ 53 ju.toNat) (told - truly - 1)) = σ 53 ju.toNat by omega, show (min (σ 54 ju.toNat) (told - truly + 1)) = (told - truly) + 1 by omega]; exact ⟨rfl, rfl⟩) dX9_known_114
            · skip
              refine z_bp C dX9_known_94 rfl ?_
              exact z_iretW B hP hS (by rw [if_neg (by omega), if_neg (by omega), if_pos (by omega)]; exact ⟨rfl, rfl⟩) dX9_known_96
        · skip
          refine z_il C hl 0 rfl dX9_known_44 ?_
          refine z_ic C dX9_known_46 ?_
          refine z_isub C dX9_known_47 ?_
          refine z_goto C 57 (by decide) dX9_known_48 ?_
          refine z_ist C hl [(5, .int (zI ((told - truly) - 1))), (4, .int (zI (told - truly))), (0, .ref (q 44)), (1, .int (zI ju)), (2, .int (zI told)), (3, .int (zI truly))] (by decide) rfl dX9_known_57 (fun ls hl => ?_)
          refine z_il C hl 1 rfl dX9_known_59 ?_
          refine z_ic C dX9_known_61 ?_
          refine z_iadd C dX9_known_62 ?_
          refine z_aln C hl 2 rfl dX9_known_63 ?_
          refine gf_X9_38 C hP dX9_known_64 ?_
          refine z_iln C hl 3 rfl dX9_known_67 ?_
          refine z_iald C hP (i := 54) (by decide) (fun _ => rfl) (by omega) (by decide) dX9_known_68 ?_
          refine z_icmp_ge C 79 (by decide) (by omega) (by omega) dX9_known_69 (fun w8 => ?_) (fun w8 => ?_)
          · skip
            refine z_aln C hl 2 rfl dX9_known_79 ?_
            refine gf_X9_38 C hP dX9_known_80 ?_
            refine z_iln C hl 3 rfl dX9_known_83 ?_
            refine z_iald C hP (i := 54) (by decide) (fun _ => rfl) (by omega) (by decide) dX9_known_84 ?_
            refine z_ist C hl [(6, .int (zI (σ 54 ju.toNat))), (5, .int (zI ((told - truly) - 1))), (4, .int (zI (told - truly))), (0, .ref (q 44)), (1, .int (zI ju)), (2, .int (zI told)), (3, .int (zI truly))] (by decide) rfl dX9_known_85 (fun ls hl => ?_)
            refine z_il C hl 1 rfl dX9_known_87 ?_
            refine z_il C hl 0 rfl dX9_known_89 ?_
            refine z_icmp_le C 97 (by decide) (by omega) (by omega) dX9_known_91 (fun w9 => ?_) (fun w9 => ?_)
            · skip
              refine z_aln C hl 3 rfl dX9_known_97 ?_
              refine gf_X9_35 C hP dX9_known_98 ?_
              refine z_iln C hl 4 rfl dX9_known_101 ?_
              refine z_il C hl 1 rfl dX9_known_102 ?_
              refine z_iast C hq hP hS (i := 53) (by decide) (fun _ => rfl) (by omega) (by decide) dX9_known_104 (fun H locs hP hS => ?_)
              refine z_aln C hl 3 rfl dX9_known_105 ?_
              refine gf_X9_38 C hP dX9_known_106 ?_
              refine z_iln C hl 4 rfl dX9_known_109 ?_
              refine z_il C hl 0 rfl dX9_known_110 ?_
              refine z_iast C hq hP hS (i := 54) (by decide) (fun _ => rfl) (by omega) (by decide) dX9_known_112 (fun H locs hP hS => ?_)
              refine z_ic C dX9_known_113 ?_
              exact z_iretW B hP hS (by rw [if_neg (by omega), if_neg (by omega), if_neg (by omega), show (max (σ 53 ju.toNat) (told - truly - 1)) = (told - truly) - 1 by omega, show (min (σ 54 ju.toNat) (told - truly + 1)) = σ 54 ju.toNat by omega]; exact ⟨rfl, rfl⟩) dX9_known_114
            · skip
              refine z_bp C dX9_known_94 rfl ?_
              exact z_iretW B hP hS (by rw [if_neg (by omega), if_neg (by omega), if_pos (by omega)]; exact ⟨rfl, rfl⟩) dX9_known_96
          · skip
            refine z_il C hl 1 rfl dX9_known_72 ?_
            refine z_ic C dX9_known_74 ?_
            refine z_iadd C dX9_known_75 ?_
            refine z_goto C 85 (by decide) dX9_known_76 ?_
            refine z_ist C hl [(6, .int (zI ((told - truly) + 1))), (5, .int (zI ((told - truly) - 1))), (4, .int (zI (told - truly))), (0, .ref (q 44)), (1, .int (zI ju)), (2, .int (zI told)), (3, .int (zI truly))] (by decide) rfl dX9_known_85 (fun ls hl => ?_)
            refine z_il C hl 1 rfl dX9_known_87 ?_
            refine z_il C hl 0 rfl dX9_known_89 ?_
            refine z_icmp_le C 97 (by decide) (by omega) (by omega) dX9_known_91 (fun w10 => ?_) (fun w10 => ?_)
            · skip
              refine z_aln C hl 3 rfl dX9_known_97 ?_
              refine gf_X9_35 C hP dX9_known_98 ?_
              refine z_iln C hl 4 rfl dX9_known_101 ?_
              refine z_il C hl 1 rfl dX9_known_102 ?_
              refine z_iast C hq hP hS (i := 53) (by decide) (fun _ => rfl) (by omega) (by decide) dX9_known_104 (fun H locs hP hS => ?_)
              refine z_aln C hl 3 rfl dX9_known_105 ?_
              refine gf_X9_38 C hP dX9_known_106 ?_
              refine z_iln C hl 4 rfl dX9_known_109 ?_
              refine z_il C hl 0 rfl dX9_known_110 ?_
              refine z_iast C hq hP hS (i := 54) (by decide) (fun _ => rfl) (by omega) (by decide) dX9_known_112 (fun H locs hP hS => ?_)
              refine z_ic C dX9_known_113 ?_
              exact z_iretW B hP hS (by rw [if_neg (by omega), if_neg (by omega), if_neg (by omega), show (max (σ 53 ju.toNat) (told - truly - 1)) = (told - truly) - 1 by omega, show (min (σ 54 ju.toNat) (told - truly + 1)) = (told - truly) + 1 by omega]; exact ⟨rfl, rfl⟩) dX9_known_114
            · skip
              refine z_bp C dX9_known_94 rfl ?_
              exact z_iretW B hP hS (by rw [if_neg (by omega), if_neg (by omega), if_pos (by omega)]; exact ⟨rfl, rfl⟩) dX9_known_96
      · skip
        refine z_bp C dX9_known_23 rfl ?_
        exact z_iretW B hP hS (by rw [if_neg (by omega), if_pos (by omega)]; exact ⟨rfl, rfl⟩) dX9_known_25
  · skip
    refine z_ic C dX9_known_7 ?_
    exact z_iretW B hP hS (by rw [if_pos (by omega)]; exact ⟨rfl, rfl⟩) dX9_known_8

set_option maxHeartbeats 4000000 in
set_option maxRecDepth 100000 in
theorem c_X9_late {l : Launch} {D : va_G} {q : Nat → Nat} {g : Nat → ClassId} {σ : Mem} (ju en : Int) (hr_ju : zR ju) (hr_en : zR en) (hM : MJ σ) : RO l yX9_late cX9_late 3 (some .int) 2 45 D q g σ [.ref (q 44), .int (zI ju), .int (zI en)] (some (.int (zI (if ¬ (0 ≤ ju ∧ ju ≤ 3) then -1 else if ¬ (0 ≤ en ∧ en ≤ 1) then -2 else if en = 0 then σ (14 + ju.toNat) 0 else σ (14 + ju.toNat) 1)))) := by
  refine RO.intro (plainFor_of_name (by decide)) (Nat.le_of_ble_eq_true rfl) (fun p e s m args below meth c ls B hP hl => ?_)
  have C := B.1
  have hl : lv_has ls 3 [(0, .ref (q 44)), (1, .int (zI ju)), (2, .int (zI en))] := hl
  refine z_iln C hl 1 rfl dX9_late_0 ?_
  refine z_sRO C hP hl (c_X9_isJudge (σ := σ) ju (by omega))  wg_814 wg_10 wg_812 wg_813 cw_X9_isJudge ⟨Nat.le_of_ble_eq_true rfl, Nat.le_of_ble_eq_true rfl⟩ rfl rfl (Nat.le_of_ble_eq_true rfl) dX9_late_1 ?_
  refine z_bif_ne C 9 (by decide) dX9_late_4 (fun w1 => ?_) (fun w1 => ?_)
  · skip
    have hj := hM ju.toNat (by omega)
    refine z_iln C hl 2 rfl dX9_late_9 ?_
    refine z_if_ne C 22 (by decide) (by omega) dX9_late_10 (fun w2 => ?_) (fun w2 => ?_)
    · skip
      refine z_iln C hl 2 rfl dX9_late_22 ?_
      refine z_ic C dX9_late_23 ?_
      refine z_icmp_ne C 36 (by decide) (by omega) (by omega) dX9_late_24 (fun w3 => ?_) (fun w3 => ?_)
      · skip
        refine z_bp C dX9_late_36 rfl ?_
        exact z_iret B (by rw [if_neg (by omega), if_pos (by omega)]) dX9_late_38
      · skip
        refine z_aln C hl 0 rfl dX9_late_27 ?_
        refine gf_X9_38 C hP dX9_late_28 ?_
        refine z_iln C hl 1 rfl dX9_late_31 ?_
        refine z_iald C hP (i := 54) (by decide) (fun _ => rfl) (by omega) (by decide) dX9_late_32 ?_
        refine z_goto C 38 (by decide) dX9_late_33 ?_
        exact z_iret B (by rw [if_neg (by omega), if_neg (by omega), if_neg (by omega), hj.2.1]) dX9_late_38
    · skip
      refine z_aln C hl 0 rfl dX9_late_13 ?_
      refine gf_X9_35 C hP dX9_late_14 ?_
      refine z_iln C hl 1 rfl dX9_late_17 ?_
      refine z_iald C hP (i := 53) (by decide) (fun _ => rfl) (by omega) (by decide) dX9_late_18 ?_
      refine z_goto C 38 (by decide) dX9_late_19 ?_
      exact z_iret B (by rw [if_neg (by omega), if_neg (by omega), if_pos (by omega), hj.1]) dX9_late_38
  · skip
    refine z_ic C dX9_late_7 ?_
    exact z_iret B (by rw [if_pos (by omega)]) dX9_late_8

set_option maxHeartbeats 4000000 in
set_option maxRecDepth 100000 in
theorem c_X9_tell {l : Launch} {D : va_G} {q : Nat → Nat} {g : Nat → ClassId} {σ : Mem} (hq : qok q) (ju t : Int) (hr_ju : zR ju) (hr_t : zR t) : RW l yX9_tell cX9_tell 4 (some .int) 2 45 D q g σ [.ref (q 44), .int (zI ju), .int (zI t)] vI (fun r τ => if ¬ (0 ≤ ju ∧ ju ≤ 3) then r = -1 ∧ τ = σ else if ¬ (-1 ≤ t ∧ t ≤ 99999) then r = -2 ∧ τ = σ else r = σ 55 ju.toNat ∧ τ = um σ 55 ju.toNat (if t = -1 then -6 else t)) := by
  refine RW.intro (plainFor_of_name (by decide)) (Nat.le_of_ble_eq_true rfl) (fun p e s m args below meth c ls B hP hS hl => ?_)
  have C := B.1
  have hl : lv_has ls 4 [(0, .ref (q 44)), (1, .int (zI ju)), (2, .int (zI t))] := hl
  refine z_iln C hl 1 rfl dX9_tell_0 ?_
  refine z_sRO C hP hl (c_X9_isJudge (σ := σ) ju (by omega))  wg_814 wg_10 wg_812 wg_813 cw_X9_isJudge ⟨Nat.le_of_ble_eq_true rfl, Nat.le_of_ble_eq_true rfl⟩ rfl rfl (Nat.le_of_ble_eq_true rfl) dX9_tell_1 ?_
  refine z_bif_ne C 9 (by decide) dX9_tell_4 (fun w1 => ?_) (fun w1 => ?_)
  · skip
    refine z_iln C hl 2 rfl dX9_tell_9 ?_
    refine z_i2l C (by omega) dX9_tell_10 ?_
    refine z_ldc2 C (n := -1) wg_794 (by decide) dX9_tell_11 ?_
    refine z_ldc2 C (n := 99999) wg_818 (by decide) dX9_tell_14 ?_
    refine z_sRO C hP hl (c_X9_in (σ := σ) t (-1) 99999 (by omega) (by omega) (by omega))  wg_679 wg_10 wg_677 wg_678 cw_X9_in ⟨Nat.le_of_ble_eq_true rfl, Nat.le_of_ble_eq_true rfl⟩ rfl rfl (Nat.le_of_ble_eq_true rfl) dX9_tell_17 ?_
    refine z_bif_ne C 26 (by decide) dX9_tell_20 (fun w2 => ?_) (fun w2 => ?_)
    · skip
      refine z_aln C hl 0 rfl dX9_tell_26 ?_
      refine gf_X9_41 C hP dX9_tell_27 ?_
      refine z_iln C hl 1 rfl dX9_tell_30 ?_
      refine z_iald C hP (i := 55) (by decide) (fun _ => rfl) (by omega) (by decide) dX9_tell_31 ?_
      refine z_isn C hl [(3, .int (zI (σ 55 ju.toNat))), (0, .ref (q 44)), (1, .int (zI ju)), (2, .int (zI t))] (by decide) rfl dX9_tell_32 (fun ls hl => ?_)
      refine z_aln C hl 1 rfl dX9_tell_33 ?_
      refine gf_X9_41 C hP dX9_tell_34 ?_
      refine z_iln C hl 2 rfl dX9_tell_37 ?_
      refine z_iln C hl 3 rfl dX9_tell_38 ?_
      refine z_if_ge C 47 (by decide) (by omega) dX9_tell_39 (fun w3 => ?_) (fun w3 => ?_)
      · skip
        refine z_iln C hl 3 rfl dX9_tell_47 ?_
        refine z_iast C hq hP hS (i := 55) (by decide) (fun _ => rfl) (by omega) (by decide) dX9_tell_48 (fun H locs hP hS => ?_)
        refine z_iln C hl 0 rfl dX9_tell_49 ?_
        exact z_iretW B hP hS (by rw [if_neg (by omega), if_neg (by omega), show (if t = -1 then -6 else t) = t by split <;> omega]; exact ⟨rfl, rfl⟩) dX9_tell_50
      · skip
        refine z_bp C dX9_tell_42 rfl ?_
        refine z_goto C 48 (by decide) dX9_tell_44 ?_
        refine z_iast C hq hP hS (i := 55) (by decide) (fun _ => rfl) (by omega) (by decide) dX9_tell_48 (fun H locs hP hS => ?_)
        refine z_iln C hl 0 rfl dX9_tell_49 ?_
        exact z_iretW B hP hS (by rw [if_neg (by omega), if_neg (by omega), show (if t = -1 then -6 else t) = -6 by split <;> omega]; exact ⟨rfl, rfl⟩) dX9_tell_50
    · skip
      refine z_bp C dX9_tell_23 rfl ?_
      exact z_iretW B hP hS (by rw [if_neg (by omega), if_pos (by omega)]; exact ⟨rfl, rfl⟩) dX9_tell_25
  · skip
    refine z_ic C dX9_tell_7 ?_
    exact z_iretW B hP hS (by rw [if_pos (by omega)]; exact ⟨rfl, rfl⟩) dX9_tell_8

set_option maxHeartbeats 4000000 in
set_option maxRecDepth 100000 in
theorem c_X9_findTrue {l : Launch} {D : va_G} {q : Nat → Nat} {g : Nat → ClassId} {σ : Mem} (hq : qok q) (hJ : JI σ) (hM : MJ σ) : RW l yX9_findTrue cX9_findTrue 5 (some .int) 0 0 D q g σ [.ref (q 44)] vI (fun r τ => Fr σ τ ∧ r = (if kAg (co σ) = -6 then 1 else kAg (co σ)) ∧ (kAg (co σ) = -6 → τ 44 17 = agL (co σ) 4 ∧ τ 44 18 = agH (co σ) 4)) := by
  refine RW.intro (plainFor_of_name (by decide)) (Nat.le_of_ble_eq_true rfl) (fun p e s m args below meth c ls B hP hS hl => ?_)
  have C := B.1
  have hl : lv_has ls 5 [(0, .ref (q 44))] := hl
  have hJc := JI_cc hJ
  have e12 : co σ 12 = σ 12 := co_at rfl
  refine z_ic C dX9_findTrue_0 ?_
  refine z_isn C hl [(1, .int (zI 0)), (0, .ref (q 44))] (by decide) rfl dX9_findTrue_1 (fun ls hl => ?_)
  refine z_ic C dX9_findTrue_2 ?_
  refine z_isn C hl [(2, .int (zI 0)), (1, .int (zI 0)), (0, .ref (q 44))] (by decide) rfl dX9_findTrue_3 (fun ls hl => ?_)
  have L4 : ∀ (n : Nat) (an : Int) (k : Int)  (τ : Mem), 4 - k < (n : Int) → (0 ≤ k ∧ k ≤ 4) → (Fr σ τ) → ((an = 0 ∧ agC (co σ) k.toNat = 0) ∨ (an = 1 ∧ 0 < agC (co σ) k.toNat)) → (an = 1 → τ 44 17 = agL (co σ) k.toNat) → (an = 1 → τ 44 18 = agH (co σ) k.toNat) → ∀ (H : Heap) (locs : List Loc), HP D q g τ H → va_S (aQ q) s.heap H locs → ∀ ls : Array Slot, lv_has ls 5 [(0, .ref (q 44)), (1, .int (zI an)), (2, .int (zI k))] → WW p l e 0 0 s m args below meth c H locs D q g vI (fun r τ => Fr σ τ ∧ r = (if kAg (co σ) = -6 then 1 else kAg (co σ)) ∧ (kAg (co σ) = -6 → τ 44 17 = agL (co σ) 4 ∧ τ 44 18 = agH (co σ) 4)) (F0 m 4 ls []) := by
    intro n
    induction n with
    | zero => intro an k τ hm hk hF hc hl0 hl1 H locs hP hS ls hl; exact False.elim (by omega)
    | succ n ih =>
      intro an k τ hm hk hF hc hl0 hl1 H locs hP hS ls hl
      have ih4 := ih; clear ih
      refine z_iln C hl 2 rfl dX9_findTrue_4 ?_
      refine z_ic C dX9_findTrue_5 ?_
      refine z_icmp_ge C 105 (by decide) (by omega) (by omega) dX9_findTrue_6 (fun w1 => ?_) (fun w1 => ?_)
      · skip
        have hb := ag_b hJc k.toNat (by omega)
        have hk4 : k.toNat = 4 := by omega
        rw [hk4] at hb hc hl0 hl1
        refine z_iln C hl 1 rfl dX9_findTrue_105 ?_
        refine z_if_ne C 114 (by decide) (by omega) dX9_findTrue_106 (fun w2 => ?_) (fun w2 => ?_)
        · skip
          refine z_aln C hl 0 rfl dX9_findTrue_114 ?_
          refine gf_X9_183 C hP dX9_findTrue_115 ?_
          refine z_aln C hl 0 rfl dX9_findTrue_118 ?_
          refine gf_X9_186 C hP dX9_findTrue_119 ?_
          refine z_icmp_le C 130 (by decide) (by omega) (by omega) dX9_findTrue_122 (fun w3 => ?_) (fun w3 => ?_)
          · skip
            refine z_ic C dX9_findTrue_130 ?_
            exact z_iretW B hP hS ⟨hF, by have hka : kAg (co σ) = -6 := (by unfold kAg; rw [if_neg (by omega), if_neg (by rw [← hl0 (by omega), ← hl1 (by omega)]; omega)]); rw [hka]; rfl, fun h => ⟨hl0 (by omega), hl1 (by omega)⟩⟩ dX9_findTrue_131
          · skip
            refine z_bp C dX9_findTrue_125 rfl ?_
            refine z_goto C 131 (by decide) dX9_findTrue_127 ?_
            exact z_iretW B hP hS ⟨hF, by have hka : kAg (co σ) = -5 := (by unfold kAg; rw [if_neg (by omega), if_pos (by rw [← hl0 (by omega), ← hl1 (by omega)]; omega)]); rw [hka]; rfl, fun h => ⟨hl0 (by omega), hl1 (by omega)⟩⟩ dX9_findTrue_131
        · skip
          refine z_bp C dX9_findTrue_109 rfl ?_
          refine z_goto C 131 (by decide) dX9_findTrue_111 ?_
          exact z_iretW B hP hS ⟨hF, by have hka : kAg (co σ) = -3 := (by unfold kAg; rw [if_pos (by omega)]); rw [hka]; rfl, fun h => ⟨hl0 (by unfold kAg at h; rw [if_pos (by omega)] at h; omega), hl1 (by unfold kAg at h; rw [if_pos (by omega)] at h; omega)⟩⟩ dX9_findTrue_131
      · skip
        have hkt : (k + 1).toNat = k.toNat + 1 := by omega
        have hj := hJ k.toNat (by omega)
        have hm := hM k.toNat (by omega)
        have f55 := hF 55 k.toNat rfl
        have f53 := hF 53 k.toNat rfl
        have f54 := hF 54 k.toNat rfl
        have hb := ag_b hJc k.toNat (by omega)
        refine z_aln C hl 0 rfl dX9_findTrue_9 ?_
        refine gf_X9_41 C hP dX9_findTrue_10 ?_
        refine z_iln C hl 2 rfl dX9_findTrue_13 ?_
        refine z_iald C hP (i := 55) (by decide) (fun _ => rfl) (by omega) (by decide) dX9_findTrue_14 ?_
        refine z_if_lt C 99 (by decide) (by omega) dX9_findTrue_15 (fun w4 => ?_) (fun w4 => ?_)
        · skip
          refine z_iinc C hl 2 rfl [(2, .int (zI (k + 1))), (0, .ref (q 44)), (1, .int (zI an))] (by decide) rfl dX9_findTrue_99 (fun ls hl => ?_)
          refine z_goto C 4 (by decide) dX9_findTrue_102 ?_
          exact ih4 an (k + 1) τ (by omega) (by omega) hF (by rw [hkt, agC, if_pos (by rw [e12]; omega)]; exact hc) (fun h => by rw [hkt, agL, if_pos (by rw [e12]; omega)]; exact hl0 h) (fun h => by rw [hkt, agH, if_pos (by rw [e12]; omega)]; exact hl1 h) _ _ hP hS ls (lv_sub hl [1, 2, 0] rfl)
        · skip
          have eL : agL (co σ) (k.toNat + 1) = max (agL (co σ) k.toNat) (τ 55 k.toNat - τ 54 k.toNat) := by rw [agL, if_neg (by rw [e12]; omega), e12, co_spn (by omega), f55, f54, hm.2.2, hm.2.1]
          have eH : agH (co σ) (k.toNat + 1) = min (agH (co σ) k.toNat) (τ 55 k.toNat - τ 53 k.toNat) := by rw [agH, if_neg (by rw [e12]; omega), e12, co_spn (by omega), f55, f53, hm.2.2, hm.1]
          refine z_aln C hl 0 rfl dX9_findTrue_18 ?_
          refine gf_X9_41 C hP dX9_findTrue_19 ?_
          refine z_iln C hl 2 rfl dX9_findTrue_22 ?_
          refine z_iald C hP (i := 55) (by decide) (fun _ => rfl) (by omega) (by decide) dX9_findTrue_23 ?_
          refine z_aln C hl 0 rfl dX9_findTrue_24 ?_
          refine gf_X9_38 C hP dX9_findTrue_25 ?_
          refine z_iln C hl 2 rfl dX9_findTrue_28 ?_
          refine z_iald C hP (i := 54) (by decide) (fun _ => rfl) (by omega) (by decide) dX9_findTrue_29 ?_
          refine z_isub C dX9_findTrue_30 ?_
          refine z_isn C hl [(3, .int (zI ((τ 55 k.toNat) - (τ 54 k.toNat)))), (0, .ref (q 44)), (1, .int (zI an)), (2, .int (zI k))] (by decide) rfl dX9_findTrue_31 (fun ls hl => ?_)
          refine z_aln C hl 1 rfl dX9_findTrue_32 ?_
          refine gf_X9_41 C hP dX9_findTrue_33 ?_
          refine z_iln C hl 3 rfl dX9_findTrue_36 ?_
          refine z_iald C hP (i := 55) (by decide) (fun _ => rfl) (by omega) (by decide) dX9_findTrue_37 ?_
          refine z_aln C hl 1 rfl dX9_findTrue_38 ?_
          refine gf_X9_35 C hP dX9_findTrue_39 ?_
          refine z_iln C hl 3 rfl dX9_findTrue_42 ?_
          refine z_iald C hP (i := 53) (by decide) (fun _ => rfl) (by omega) (by decide) dX9_findTrue_43 ?_
          refine z_isub C dX9_findTrue_44 ?_
          refine z_ist C hl [(4, .int (zI ((τ 55 k.toNat) - (τ 53 k.toNat)))), (3, .int (zI ((τ 55 k.toNat) - (τ 54 k.toNat)))), (0, .ref (q 44)), (1, .int (zI an)), (2, .int (zI k))] (by decide) rfl dX9_findTrue_45 (fun ls hl => ?_)
          refine z_aln C hl 2 rfl dX9_findTrue_47 ?_
          refine z_iln C hl 3 rfl dX9_findTrue_48 ?_
          refine z_if_eq C 67 (by decide) (by omega) dX9_findTrue_49 (fun w5 => ?_) (fun w5 => ?_)
          · skip
            refine z_iln C hl 1 rfl dX9_findTrue_67 ?_
            refine pf_X9_183 C hq hP hS dX9_findTrue_68 (fun H locs hP hS => ?_)
            refine z_aln C hl 2 rfl dX9_findTrue_71 ?_
            refine z_iln C hl 3 rfl dX9_findTrue_72 ?_
            refine z_if_eq C 92 (by decide) (by omega) dX9_findTrue_73 (fun _ => ?_) (fun w6 => False.elim (by omega))
            refine z_il C hl 0 rfl dX9_findTrue_92 ?_
            refine pf_X9_186 C hq hP hS dX9_findTrue_94 (fun H locs hP hS => ?_)
            refine z_ic C dX9_findTrue_97 ?_
            refine z_isn C hl [(1, .int (zI 1)), (4, .int (zI ((τ 55 k.toNat) - (τ 53 k.toNat)))), (3, .int (zI ((τ 55 k.toNat) - (τ 54 k.toNat)))), (0, .ref (q 44)), (2, .int (zI k))] (by decide) rfl dX9_findTrue_98 (fun ls hl => ?_)
            refine z_iinc C hl 4 rfl [(2, .int (zI (k + 1))), (1, .int (zI 1)), (4, .int (zI ((τ 55 k.toNat) - (τ 53 k.toNat)))), (3, .int (zI ((τ 55 k.toNat) - (τ 54 k.toNat)))), (0, .ref (q 44))] (by decide) rfl dX9_findTrue_99 (fun ls hl => ?_)
            refine z_goto C 4 (by decide) dX9_findTrue_102 ?_
            exact ih4 1 (k + 1) (um (um τ 44 17 ((τ 55 k.toNat) - (τ 54 k.toNat))) 44 18 ((τ 55 k.toNat) - (τ 53 k.toNat))) (by omega) (by omega) (Fr_um (Fr_um hF (by simp [sc])) (by simp [sc])) (by rw [hkt, agC, if_neg (by rw [e12]; omega)]; omega) (fun _ => by rw [hkt, eL]; simp only [um]; simp; omega) (fun _ => by rw [hkt, eH]; simp only [um]; simp; omega) _ _ hP hS ls (lv_sub hl [4, 1, 0] rfl)
          · skip
            refine z_aln C hl 2 rfl dX9_findTrue_52 ?_
            refine gf_X9_183 C hP dX9_findTrue_53 ?_
            refine z_iln C hl 1 rfl dX9_findTrue_56 ?_
            refine z_icmp_le C 67 (by decide) (by omega) (by omega) dX9_findTrue_57 (fun w7 => ?_) (fun w7 => ?_)
            · skip
              refine z_iln C hl 1 rfl dX9_findTrue_67 ?_
              refine pf_X9_183 C hq hP hS dX9_findTrue_68 (fun H locs hP hS => ?_)
              refine z_aln C hl 2 rfl dX9_findTrue_71 ?_
              refine z_iln C hl 3 rfl dX9_findTrue_72 ?_
              refine z_if_eq C 92 (by decide) (by omega) dX9_findTrue_73 (fun w8 => False.elim (by omega)) (fun _ => ?_)
              refine z_aln C hl 2 rfl dX9_findTrue_76 ?_
              refine gf_X9_186 C hP dX9_findTrue_77 ?_
              refine z_tope (b := τ 44 18) (by unfold um; rw [if_neg (by omega)]) ?_
              refine z_il C hl 0 rfl dX9_findTrue_80 ?_
              refine z_icmp_ge C 92 (by decide) (by omega) (by omega) dX9_findTrue_82 (fun w9 => ?_) (fun w9 => ?_)
              · skip
                refine z_il C hl 0 rfl dX9_findTrue_92 ?_
                refine pf_X9_186 C hq hP hS dX9_findTrue_94 (fun H locs hP hS => ?_)
                refine z_ic C dX9_findTrue_97 ?_
                refine z_isn C hl [(1, .int (zI 1)), (4, .int (zI ((τ 55 k.toNat) - (τ 53 k.toNat)))), (3, .int (zI ((τ 55 k.toNat) - (τ 54 k.toNat)))), (0, .ref (q 44)), (2, .int (zI k))] (by decide) rfl dX9_findTrue_98 (fun ls hl => ?_)
                refine z_iinc C hl 4 rfl [(2, .int (zI (k + 1))), (1, .int (zI 1)), (4, .int (zI ((τ 55 k.toNat) - (τ 53 k.toNat)))), (3, .int (zI ((τ 55 k.toNat) - (τ 54 k.toNat)))), (0, .ref (q 44))] (by decide) rfl dX9_findTrue_99 (fun ls hl => ?_)
                refine z_goto C 4 (by decide) dX9_findTrue_102 ?_
                exact ih4 1 (k + 1) (um (um τ 44 17 ((τ 55 k.toNat) - (τ 54 k.toNat))) 44 18 ((τ 55 k.toNat) - (τ 53 k.toNat))) (by omega) (by omega) (Fr_um (Fr_um hF (by simp [sc])) (by simp [sc])) (by rw [hkt, agC, if_neg (by rw [e12]; omega)]; omega) (fun _ => by rw [hkt, eL]; simp only [um]; simp; omega) (fun _ => by rw [hkt, eH]; simp only [um]; simp; omega) _ _ hP hS ls (lv_sub hl [4, 1, 0] rfl)
              · skip
                refine z_aln C hl 2 rfl dX9_findTrue_85 ?_
                refine gf_X9_186 C hP dX9_findTrue_86 ?_
                refine z_tope (b := τ 44 18) (by unfold um; rw [if_neg (by omega)]) ?_
                refine z_goto C 94 (by decide) dX9_findTrue_89 ?_
                refine pf_X9_186 C hq hP hS dX9_findTrue_94 (fun H locs hP hS => ?_)
                refine z_ic C dX9_findTrue_97 ?_
                refine z_isn C hl [(1, .int (zI 1)), (4, .int (zI ((τ 55 k.toNat) - (τ 53 k.toNat)))), (3, .int (zI ((τ 55 k.toNat) - (τ 54 k.toNat)))), (0, .ref (q 44)), (2, .int (zI k))] (by decide) rfl dX9_findTrue_98 (fun ls hl => ?_)
                refine z_iinc C hl 4 rfl [(2, .int (zI (k + 1))), (1, .int (zI 1)), (4, .int (zI ((τ 55 k.toNat) - (τ 53 k.toNat)))), (3, .int (zI ((τ 55 k.toNat) - (τ 54 k.toNat)))), (0, .ref (q 44))] (by decide) rfl dX9_findTrue_99 (fun ls hl => ?_)
                refine z_goto C 4 (by decide) dX9_findTrue_102 ?_
                exact ih4 1 (k + 1) (um (um τ 44 17 ((τ 55 k.toNat) - (τ 54 k.toNat))) 44 18 (τ 44 18)) (by omega) (by omega) (Fr_um (Fr_um hF (by simp [sc])) (by simp [sc])) (by rw [hkt, agC, if_neg (by rw [e12]; omega)]; omega) (fun _ => by rw [hkt, eL]; simp only [um]; simp; omega) (fun _ => by rw [hkt, eH]; simp only [um]; simp; omega) _ _ hP hS ls (lv_sub hl [4, 1, 0] rfl)
            · skip
              refine z_aln C hl 2 rfl dX9_findTrue_60 ?_
              refine gf_X9_183 C hP dX9_findTrue_61 ?_
              refine z_goto C 68 (by decide) dX9_findTrue_64 ?_
              refine pf_X9_183 C hq hP hS dX9_findTrue_68 (fun H locs hP hS => ?_)
              refine z_aln C hl 2 rfl dX9_findTrue_71 ?_
              refine z_iln C hl 3 rfl dX9_findTrue_72 ?_
              refine z_if_eq C 92 (by decide) (by omega) dX9_findTrue_73 (fun w10 => False.elim (by omega)) (fun _ => ?_)
              refine z_aln C hl 2 rfl dX9_findTrue_76 ?_
              refine gf_X9_186 C hP dX9_findTrue_77 ?_
              refine z_tope (b := τ 44 18) (by unfold um; rw [if_neg (by omega)]) ?_
              refine z_il C hl 0 rfl dX9_findTrue_80 ?_
              refine z_icmp_ge C 92 (by decide) (by omega) (by omega) dX9_findTrue_82 (fun w11 => ?_) (fun w11 => ?_)
              · skip
                refine z_il C hl 0 rfl dX9_findTrue_92 ?_
                refine pf_X9_186 C hq hP hS dX9_findTrue_94 (fun H locs hP hS => ?_)
                refine z_ic C dX9_findTrue_97 ?_
                refine z_isn C hl [(1, .int (zI 1)), (4, .int (zI ((τ 55 k.toNat) - (τ 53 k.toNat)))), (3, .int (zI ((τ 55 k.toNat) - (τ 54 k.toNat)))), (0, .ref (q 44)), (2, .int (zI k))] (by decide) rfl dX9_findTrue_98 (fun ls hl => ?_)
                refine z_iinc C hl 4 rfl [(2, .int (zI (k + 1))), (1, .int (zI 1)), (4, .int (zI ((τ 55 k.toNat) - (τ 53 k.toNat)))), (3, .int (zI ((τ 55 k.toNat) - (τ 54 k.toNat)))), (0, .ref (q 44))] (by decide) rfl dX9_findTrue_99 (fun ls hl => ?_)
                refine z_goto C 4 (by decide) dX9_findTrue_102 ?_
                exact ih4 1 (k + 1) (um (um τ 44 17 (τ 44 17)) 44 18 ((τ 55 k.toNat) - (τ 53 k.toNat))) (by omega) (by omega) (Fr_um (Fr_um hF (by simp [sc])) (by simp [sc])) (by rw [hkt, agC, if_neg (by rw [e12]; omega)]; omega) (fun _ => by rw [hkt, eL]; simp only [um]; simp; omega) (fun _ => by rw [hkt, eH]; simp only [um]; simp; omega) _ _ hP hS ls (lv_sub hl [4, 1, 0] rfl)
              · skip
                refine z_aln C hl 2 rfl dX9_findTrue_85 ?_
                refine gf_X9_186 C hP dX9_findTrue_86 ?_
                refine z_tope (b := τ 44 18) (by unfold um; rw [if_neg (by omega)]) ?_
                refine z_goto C 94 (by decide) dX9_findTrue_89 ?_
                refine pf_X9_186 C hq hP hS dX9_findTrue_94 (fun H locs hP hS => ?_)
                refine z_ic C dX9_findTrue_97 ?_
                refine z_isn C hl [(1, .int (zI 1)), (4, .int (zI ((τ 55 k.toNat) - (τ 53 k.toNat)))), (3, .int (zI ((τ 55 k.toNat) - (τ 54 k.toNat)))), (0, .ref (q 44)), (2, .int (zI k))] (by decide) rfl dX9_findTrue_98 (fun ls hl => ?_)
                refine z_iinc C hl 4 rfl [(2, .int (zI (k + 1))), (1, .int (zI 1)), (4, .int (zI ((τ 55 k.toNat) - (τ 53 k.toNat)))), (3, .int (zI ((τ 55 k.toNat) - (τ 54 k.toNat)))), (0, .ref (q 44))] (by decide) rfl dX9_findTrue_99 (fun ls hl => ?_)
                refine z_goto C 4 (by decide) dX9_findTrue_102 ?_
                exact ih4 1 (k + 1) (um (um τ 44 17 (τ 44 17)) 44 18 (τ 44 18)) (by omega) (by omega) (Fr_um (Fr_um hF (by simp [sc])) (by simp [sc])) (by rw [hkt, agC, if_neg (by rw [e12]; omega)]; omega) (fun _ => by rw [hkt, eL]; simp only [um]; simp; omega) (fun _ => by rw [hkt, eH]; simp only [um]; simp; omega) _ _ hP hS ls (lv_sub hl [4, 1, 0] rfl)
  exact L4 ((4 - 0 : Int).toNat + 1) 0 0 σ (by omega) (by omega) Fr_rf (Or.inl ⟨rfl, rfl⟩) (fun h => by omega) (fun h => by omega) _ _ hP hS ls (lv_sub hl [2, 1, 0] rfl)

set_option maxHeartbeats 4000000 in
set_option maxRecDepth 100000 in
theorem c_X9_time {l : Launch} {D : va_G} {q : Nat → Nat} {g : Nat → ClassId} {σ : Mem} (hq : qok q) (en : Int) (hJ : JI σ) (hM : MJ σ) (hr_en : zR en) : RW l yX9_time cX9_time 3 (some .int) 1 25 D q g σ [.ref (q 44), .int (zI en)] vI (fun r τ => Fr σ τ ∧ r = kTime (co σ) en) := by
  refine RW.intro (plainFor_of_name (by decide)) (Nat.le_of_ble_eq_true rfl) (fun p e s m args below meth c ls B hP hS hl => ?_)
  have C := B.1
  have hl : lv_has ls 3 [(0, .ref (q 44)), (1, .int (zI en))] := hl
  refine z_iln C hl 1 rfl dX9_time_0 ?_
  refine z_i2l C (by omega) dX9_time_1 ?_
  refine z_lc0 C dX9_time_2 ?_
  refine z_lc1 C dX9_time_3 ?_
  refine z_sRO C hP hl (c_X9_in (σ := σ) en 0 1 (by omega) (by omega) (by omega))  wg_679 wg_10 wg_677 wg_678 cw_X9_in ⟨Nat.le_of_ble_eq_true rfl, Nat.le_of_ble_eq_true rfl⟩ rfl rfl (Nat.le_of_ble_eq_true rfl) dX9_time_4 ?_
  refine z_bif_ne C 13 (by decide) dX9_time_7 (fun w1 => ?_) (fun w1 => ?_)
  · skip
    refine z_aln C hl 0 rfl dX9_time_13 ?_
    refine z_vRWi C hP hS hl (c_X9_findTrue (σ := σ) hq  hJ hM) (z_recv C hP (i := 44) (by decide) rfl (ci := 9) rfl) wg_834 wg_10 wg_831 wg_833 ws_X9_findTrue cw_X9_findTrue ⟨Nat.le_of_ble_eq_true rfl, Nat.le_of_ble_eq_true rfl⟩ rfl rfl (Nat.le_of_ble_eq_true rfl) dX9_time_14 (fun r14 τ14 H locs hp14 hP hS => ?_)
    obtain ⟨hF, hr, ht⟩ := hp14
    have hag := kAg_c (co σ)
    have hJc := JI_cc hJ
    have hb := ag_b hJc 4 (Nat.le_refl 4)
    have hr2 : (kAg (co σ) = -6 ∧ r14 = 1) ∨ (kAg (co σ) ≠ -6 ∧ r14 = kAg (co σ)) := by (rw [hr]; split <;> omega)
    refine z_isn C hl [(2, .int (zI r14)), (0, .ref (q 44)), (1, .int (zI en))] (by decide) rfl dX9_time_17 (fun ls hl => ?_)
    refine z_iln C hl 0 rfl dX9_time_18 ?_
    refine z_if_ge C 26 (by decide) (by omega) dX9_time_19 (fun w2 => ?_) (fun w2 => ?_)
    · skip
      have ht2 := ht (by omega)
      refine z_ldc C (n := 1000000) wg_835 (by decide) dX9_time_26 ?_
      refine z_iln C hl 2 rfl dX9_time_28 ?_
      refine z_if_ne C 39 (by decide) (by omega) dX9_time_29 (fun w3 => ?_) (fun w3 => ?_)
      · skip
        refine z_aln C hl 1 rfl dX9_time_39 ?_
        refine gf_X9_186 C hP dX9_time_40 ?_
        refine z_iadd C dX9_time_43 ?_
        exact z_iretW B hP hS ⟨hF, by unfold kTime; rw [if_neg (show ¬ ¬ (0 ≤ en ∧ en ≤ 1) by omega), if_pos (show kAg (co σ) = -6 by omega), ← ht2.1, ← ht2.2]; split <;> omega⟩ dX9_time_44
      · skip
        refine z_aln C hl 1 rfl dX9_time_32 ?_
        refine gf_X9_183 C hP dX9_time_33 ?_
        refine z_goto C 43 (by decide) dX9_time_36 ?_
        refine z_iadd C dX9_time_43 ?_
        exact z_iretW B hP hS ⟨hF, by unfold kTime; rw [if_neg (show ¬ ¬ (0 ≤ en ∧ en ≤ 1) by omega), if_pos (show kAg (co σ) = -6 by omega), ← ht2.1, ← ht2.2]; split <;> omega⟩ dX9_time_44
    · skip
      refine z_iln C hl 0 rfl dX9_time_22 ?_
      refine z_goto C 44 (by decide) dX9_time_23 ?_
      exact z_iretW B hP hS ⟨hF, by unfold kTime; rw [if_neg (show ¬ ¬ (0 ≤ en ∧ en ≤ 1) by omega), if_neg (show ¬ kAg (co σ) = -6 by omega)]; omega⟩ dX9_time_44
  · skip
    refine z_bp C dX9_time_10 rfl ?_
    exact z_iretW B hP hS ⟨Fr_rf, by unfold kTime; rw [if_pos (by omega)]⟩ dX9_time_12

set_option maxHeartbeats 4000000 in
set_option maxRecDepth 100000 in
theorem c_X9_old {l : Launch} {D : va_G} {q : Nat → Nat} {g : Nat → ClassId} {σ : Mem} (hq : qok q) (t : Int) (hJ : JI σ) (hM : MJ σ) (hr_t : zR t) : RW l yX9_old cX9_old 3 (some .int) 2 45 D q g σ [.ref (q 44), .int (zI t)] vI (fun r τ => Fr σ τ ∧ r = kOld (co σ) t) := by
  refine RW.intro (plainFor_of_name (by decide)) (Nat.le_of_ble_eq_true rfl) (fun p e s m args below meth c ls B hP hS hl => ?_)
  have C := B.1
  have hl : lv_has ls 3 [(0, .ref (q 44)), (1, .int (zI t))] := hl
  refine z_iln C hl 1 rfl dX9_old_0 ?_
  refine z_sRO C hP hl (c_X9_isTime (σ := σ) t (by omega))  wg_817 wg_10 wg_815 wg_816 cw_X9_isTime ⟨Nat.le_of_ble_eq_true rfl, Nat.le_of_ble_eq_true rfl⟩ rfl rfl (Nat.le_of_ble_eq_true rfl) dX9_old_1 ?_
  refine z_bif_ne C 10 (by decide) dX9_old_4 (fun w1 => ?_) (fun w1 => ?_)
  · skip
    refine z_aln C hl 0 rfl dX9_old_10 ?_
    refine z_vRWi C hP hS hl (c_X9_findTrue (σ := σ) hq  hJ hM) (z_recv C hP (i := 44) (by decide) rfl (ci := 9) rfl) wg_834 wg_10 wg_831 wg_833 ws_X9_findTrue cw_X9_findTrue ⟨Nat.le_of_ble_eq_true rfl, Nat.le_of_ble_eq_true rfl⟩ rfl rfl (Nat.le_of_ble_eq_true rfl) dX9_old_11 (fun r11 τ11 H locs hp11 hP hS => ?_)
    obtain ⟨hF, hr, ht⟩ := hp11
    have hag := kAg_c (co σ)
    have hJc := JI_cc hJ
    have hb := ag_b hJc 4 (Nat.le_refl 4)
    have hr2 : (kAg (co σ) = -6 ∧ r11 = 1) ∨ (kAg (co σ) ≠ -6 ∧ r11 = kAg (co σ)) := by (rw [hr]; split <;> omega)
    refine z_isn C hl [(2, .int (zI r11)), (0, .ref (q 44)), (1, .int (zI t))] (by decide) rfl dX9_old_14 (fun ls hl => ?_)
    refine z_iln C hl 0 rfl dX9_old_15 ?_
    refine z_if_ge C 23 (by decide) (by omega) dX9_old_16 (fun w2 => ?_) (fun w2 => ?_)
    · skip
      have ht2 := ht (by omega)
      refine z_aln C hl 1 rfl dX9_old_23 ?_
      refine gf_X9_186 C hP dX9_old_24 ?_
      refine z_iln C hl 2 rfl dX9_old_27 ?_
      refine z_icmp_ge C 35 (by decide) (by omega) (by omega) dX9_old_28 (fun w3 => ?_) (fun w3 => ?_)
      · skip
        refine z_aln C hl 1 rfl dX9_old_35 ?_
        refine gf_X9_183 C hP dX9_old_36 ?_
        refine z_iln C hl 2 rfl dX9_old_39 ?_
        refine z_icmp_lt C 47 (by decide) (by omega) (by omega) dX9_old_40 (fun w4 => ?_) (fun w4 => ?_)
        · skip
          refine z_ic C dX9_old_47 ?_
          exact z_iretW B hP hS ⟨hF, by unfold kOld; rw [if_neg (by omega), if_pos (show kAg (co σ) = -6 by omega)]; split <;> (try split) <;> omega⟩ dX9_old_48
        · skip
          refine z_ic C dX9_old_43 ?_
          refine z_goto C 48 (by decide) dX9_old_44 ?_
          exact z_iretW B hP hS ⟨hF, by unfold kOld; rw [if_neg (by omega), if_pos (show kAg (co σ) = -6 by omega)]; split <;> (try split) <;> omega⟩ dX9_old_48
      · skip
        refine z_ic C dX9_old_31 ?_
        refine z_goto C 48 (by decide) dX9_old_32 ?_
        exact z_iretW B hP hS ⟨hF, by unfold kOld; rw [if_neg (by omega), if_pos (show kAg (co σ) = -6 by omega)]; split <;> (try split) <;> omega⟩ dX9_old_48
    · skip
      refine z_iln C hl 0 rfl dX9_old_19 ?_
      refine z_goto C 48 (by decide) dX9_old_20 ?_
      exact z_iretW B hP hS ⟨hF, by unfold kOld; rw [if_neg (by omega), if_neg (show ¬ kAg (co σ) = -6 by omega)]; omega⟩ dX9_old_48
  · skip
    refine z_bp C dX9_old_7 rfl ?_
    exact z_iretW B hP hS ⟨Fr_rf, by unfold kOld; rw [if_pos (by omega)]⟩ dX9_old_9
