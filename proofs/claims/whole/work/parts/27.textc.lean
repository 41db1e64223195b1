set_option maxHeartbeats 4000000 in
set_option maxRecDepth 100000 in
theorem c_X5_add {l : Launch} {D : va_G} {q : Nat → Nat} {g : Nat → ClassId} {σ : Mem} (hq : qok q) (sg : Int) (hS0 : 0 ≤ σ 4 1 ∧ σ 4 1 ≤ 30) : RW l yX5_add cX5_add 2 (some .int) 0 0 D q g σ [.ref (q 4), .int (zI sg)] vI (fun r τ => if 30 ≤ σ 4 1 then r = -4 ∧ τ = σ else r = σ 4 1 + 1 ∧ τ = um (um σ 13 (σ 4 1).toNat sg) 4 1 (σ 4 1 + 1)) := by
  refine RW.intro (plainFor_of_name (by decide)) (Nat.le_of_ble_eq_true rfl) (fun p e s m args below meth c ls B hP hS hl => ?_)
  have C := B.1
  have hl : lv_has ls 2 [(0, .ref (q 4)), (1, .int (zI sg))] := hl
  refine z_aln C hl 0 rfl dX5_add_0 ?_
  refine gf_X5_15 C hP dX5_add_1 ?_
  refine z_bp C dX5_add_4 rfl ?_
  refine z_icmp_lt C 12 (by decide) (by omega) (by omega) dX5_add_6 (fun w1 => ?_) (fun w1 => ?_)
  · skip
    refine z_aln C hl 0 rfl dX5_add_12 ?_
    refine gf_X5_9 C hP dX5_add_13 ?_
    refine z_aln C hl 0 rfl dX5_add_16 ?_
    refine gf_X5_15 C hP dX5_add_17 ?_
    refine z_iln C hl 1 rfl dX5_add_20 ?_
    refine z_iast C hq hP hS (i := 13) (by decide) (fun _ => rfl) (by omega) (by decide) dX5_add_21 (fun H locs hP hS => ?_)
    refine z_aln C hl 0 rfl dX5_add_22 ?_
    refine z_dup C rfl dX5_add_23 ?_
    refine gf_X5_15 C hP dX5_add_24 ?_
    refine z_tope (b := σ 4 1) (by unfold um; rw [if_neg (by omega)]) ?_
    refine z_ic C dX5_add_27 ?_
    refine z_iadd C dX5_add_28 ?_
    refine pf_X5_15 C hq hP hS dX5_add_29 (fun H locs hP hS => ?_)
    refine z_aln C hl 0 rfl dX5_add_32 ?_
    refine gf_X5_15 C hP dX5_add_33 ?_
    refine z_tope (b := (σ 4 1) + 1) (by unfold um; rw [if_pos ⟨rfl, rfl⟩]) ?_
    exact z_iretW B hP hS (by rw [if_neg (by omega)]; exact ⟨rfl, rfl⟩) dX5_add_36
  · skip
    refine z_bp C dX5_add_9 rfl ?_
    exact z_iretW B hP hS (by rw [if_pos (by omega)]; exact ⟨rfl, rfl⟩) dX5_add_11

set_option maxHeartbeats 4000000 in
set_option maxRecDepth 100000 in
theorem c_X5_isFactSign {l : Launch} {D : va_G} {q : Nat → Nat} {g : Nat → ClassId} {σ : Mem} (sg : Int) (hr_sg : zR sg) : RO l yX5_isFactSign cX5_isFactSign 1 (some .boolean) 0 0 D q g σ [.int (zI sg)] (some (.int (zI (bz (isF sg))))) := by
  refine RO.intro (plainFor_of_name (by decide)) (Nat.le_of_ble_eq_true rfl) (fun p e s m args below meth c ls B hP hl => ?_)
  have C := B.1
  have hl : lv_has ls 1 [(0, .int (zI sg))] := hl
  refine z_iln C hl 0 rfl dX5_isFactSign_0 ?_
  refine z_bp C dX5_isFactSign_1 rfl ?_
  refine z_icmp_eq C 24 (by decide) (by omega) (by omega) dX5_isFactSign_3 (fun w1 => ?_) (fun w1 => ?_)
  · skip
    refine z_ic C dX5_isFactSign_24 ?_
    refine z_goto C 29 (by decide) dX5_isFactSign_25 ?_
    exact z_bret1 B (by omega) dX5_isFactSign_29
  · skip
    refine z_iln C hl 0 rfl dX5_isFactSign_6 ?_
    refine z_bp C dX5_isFactSign_7 rfl ?_
    refine z_icmp_eq C 24 (by decide) (by omega) (by omega) dX5_isFactSign_9 (fun w2 => ?_) (fun w2 => ?_)
    · skip
      refine z_ic C dX5_isFactSign_24 ?_
      refine z_goto C 29 (by decide) dX5_isFactSign_25 ?_
      exact z_bret1 B (by omega) dX5_isFactSign_29
    · skip
      refine z_iln C hl 0 rfl dX5_isFactSign_12 ?_
      refine z_bp C dX5_isFactSign_13 rfl ?_
      refine z_icmp_eq C 24 (by decide) (by omega) (by omega) dX5_isFactSign_15 (fun w3 => ?_) (fun w3 => ?_)
      · skip
        refine z_ic C dX5_isFactSign_24 ?_
        refine z_goto C 29 (by decide) dX5_isFactSign_25 ?_
        exact z_bret1 B (by omega) dX5_isFactSign_29
      · skip
        refine z_iln C hl 0 rfl dX5_isFactSign_18 ?_
        refine z_bp C dX5_isFactSign_19 rfl ?_
        refine z_icmp_ne C 28 (by decide) (by omega) (by omega) dX5_isFactSign_21 (fun w4 => ?_) (fun w4 => ?_)
        · skip
          refine z_ic C dX5_isFactSign_28 ?_
          exact z_bret0 B (by omega) dX5_isFactSign_29
        · skip
          refine z_ic C dX5_isFactSign_24 ?_
          refine z_goto C 29 (by decide) dX5_isFactSign_25 ?_
          exact z_bret1 B (by omega) dX5_isFactSign_29

set_option maxHeartbeats 4000000 in
set_option maxRecDepth 100000 in
theorem c_X5_isRelation {l : Launch} {D : va_G} {q : Nat → Nat} {g : Nat → ClassId} {σ : Mem} (sg : Int) (hr_sg : zR sg) : RO l yX5_isRelation cX5_isRelation 1 (some .boolean) 0 0 D q g σ [.int (zI sg)] (some (.int (zI (bz (isH sg))))) := by
  refine RO.intro (plainFor_of_name (by decide)) (Nat.le_of_ble_eq_true rfl) (fun p e s m args below meth c ls B hP hl => ?_)
  have C := B.1
  have hl : lv_has ls 1 [(0, .int (zI sg))] := hl
  refine z_iln C hl 0 rfl dX5_isRelation_0 ?_
  refine z_bp C dX5_isRelation_1 rfl ?_
  refine z_icmp_eq C 18 (by decide) (by omega) (by omega) dX5_isRelation_3 (fun w1 => ?_) (fun w1 => ?_)
  · skip
    refine z_ic C dX5_isRelation_18 ?_
    refine z_goto C 23 (by decide) dX5_isRelation_19 ?_
    exact z_bret1 B (by omega) dX5_isRelation_23
  · skip
    refine z_iln C hl 0 rfl dX5_isRelation_6 ?_
    refine z_bp C dX5_isRelation_7 rfl ?_
    refine z_icmp_eq C 18 (by decide) (by omega) (by omega) dX5_isRelation_9 (fun w2 => ?_) (fun w2 => ?_)
    · skip
      refine z_ic C dX5_isRelation_18 ?_
      refine z_goto C 23 (by decide) dX5_isRelation_19 ?_
      exact z_bret1 B (by omega) dX5_isRelation_23
    · skip
      refine z_iln C hl 0 rfl dX5_isRelation_12 ?_
      refine z_bp C dX5_isRelation_13 rfl ?_
      refine z_icmp_ne C 22 (by decide) (by omega) (by omega) dX5_isRelation_15 (fun w3 => ?_) (fun w3 => ?_)
      · skip
        refine z_ic C dX5_isRelation_22 ?_
        exact z_bret0 B (by omega) dX5_isRelation_23
      · skip
        refine z_ic C dX5_isRelation_18 ?_
        refine z_goto C 23 (by decide) dX5_isRelation_19 ?_
        exact z_bret1 B (by omega) dX5_isRelation_23

set_option maxHeartbeats 4000000 in
set_option maxRecDepth 100000 in
theorem c_X5_isDigit {l : Launch} {D : va_G} {q : Nat → Nat} {g : Nat → ClassId} {σ : Mem} (sg : Int) (hr_sg : zR sg) : RO l yX5_isDigit cX5_isDigit 1 (some .boolean) 1 22 D q g σ [.int (zI sg)] (some (.int (zI (bz (dig sg))))) := by
  refine RO.intro (plainFor_of_name (by decide)) (Nat.le_of_ble_eq_true rfl) (fun p e s m args below meth c ls B hP hl => ?_)
  have C := B.1
  have hl : lv_has ls 1 [(0, .int (zI sg))] := hl
  refine z_iln C hl 0 rfl dX5_isDigit_0 ?_
  refine z_bp C dX5_isDigit_1 rfl ?_
  refine z_bp C dX5_isDigit_3 rfl ?_
  refine z_snRO C hP hl (c_X8_within (σ := σ) sg 48 57 (by omega) (by omega) (by omega))  wg_212 wg_1 wm_492 wg_211 cw_X8_within ⟨Nat.le_of_ble_eq_true rfl, Nat.le_of_ble_eq_true rfl⟩ rfl rfl (Nat.le_of_ble_eq_true rfl) dX5_isDigit_5 ?_
  exact z_bret B (by constructor <;> intros <;> omega) dX5_isDigit_8

set_option maxHeartbeats 4000000 in
set_option maxRecDepth 100000 in
theorem c_X5_afterDigit {l : Launch} {D : va_G} {q : Nat → Nat} {g : Nat → ClassId} {σ : Mem} (st sg : Int) (hr_st : zR st) (hr_sg : zR sg) : RO l yX5_afterDigit cX5_afterDigit 2 (some .int) 2 42 D q g σ [.int (zI st), .int (zI sg)] (some (.int (zI (if sg = 59 then 0 else if dig sg ∧ st < 7 then st + 1 else -1)))) := by
  refine RO.intro (plainFor_of_name (by decide)) (Nat.le_of_ble_eq_true rfl) (fun p e s m args below meth c ls B hP hl => ?_)
  have C := B.1
  have hl : lv_has ls 2 [(0, .int (zI st)), (1, .int (zI sg))] := hl
  refine z_iln C hl 1 rfl dX5_afterDigit_0 ?_
  refine z_bp C dX5_afterDigit_1 rfl ?_
  refine z_icmp_ne C 8 (by decide) (by omega) (by omega) dX5_afterDigit_3 (fun w1 => ?_) (fun w1 => ?_)
  · skip
    refine z_iln C hl 1 rfl dX5_afterDigit_8 ?_
    refine z_sRO C hP hl (c_X5_isDigit (σ := σ) sg (by omega))  wg_491 wg_7 wg_489 wg_490 cw_X5_isDigit ⟨Nat.le_of_ble_eq_true rfl, Nat.le_of_ble_eq_true rfl⟩ rfl rfl (Nat.le_of_ble_eq_true rfl) dX5_afterDigit_9 ?_
    refine z_bif_eq C 27 (by decide) dX5_afterDigit_12 (fun w2 => ?_) (fun w2 => ?_)
    · skip
      refine z_ic C dX5_afterDigit_27 ?_
      exact z_iret B (by split <;> (try split) <;> omega) dX5_afterDigit_28
    · skip
      refine z_iln C hl 0 rfl dX5_afterDigit_15 ?_
      refine z_bp C dX5_afterDigit_16 rfl ?_
      refine z_icmp_ge C 27 (by decide) (by omega) (by omega) dX5_afterDigit_18 (fun w3 => ?_) (fun w3 => ?_)
      · skip
        refine z_ic C dX5_afterDigit_27 ?_
        exact z_iret B (by split <;> (try split) <;> omega) dX5_afterDigit_28
      · skip
        refine z_iln C hl 0 rfl dX5_afterDigit_21 ?_
        refine z_ic C dX5_afterDigit_22 ?_
        refine z_iadd C dX5_afterDigit_23 ?_
        refine z_goto C 28 (by decide) dX5_afterDigit_24 ?_
        exact z_iret B (by split <;> (try split) <;> omega) dX5_afterDigit_28
  · skip
    refine z_ic C dX5_afterDigit_6 ?_
    exact z_iret B (by split <;> (try split) <;> omega) dX5_afterDigit_7

set_option maxHeartbeats 4000000 in
set_option maxRecDepth 100000 in
theorem c_X5_next {l : Launch} {D : va_G} {q : Nat → Nat} {g : Nat → ClassId} {σ : Mem} (st sg : Int) (hr_st : zR st) (hr_sg : zR sg) : RO l yX5_next cX5_next 2 (some .int) 3 63 D q g σ [.int (zI st), .int (zI sg)] (some (.int (zI (tStep st sg)))) := by
  refine RO.intro (plainFor_of_name (by decide)) (Nat.le_of_ble_eq_true rfl) (fun p e s m args below meth c ls B hP hl => ?_)
  have C := B.1
  have hl : lv_has ls 2 [(0, .int (zI st)), (1, .int (zI sg))] := hl
  refine z_iln C hl 0 rfl dX5_next_0 ?_
  by_cases hc1 : st = 0
  · refine z_tsI C 0 (by omega) (by omega) rfl 32 (by decide) dX5_next_1 ?_
    refine z_iln C hl 1 rfl dX5_next_32 ?_
    refine z_sRO C hP hl (c_X5_isFactSign (σ := σ) sg (by omega))  wg_485 wg_7 wg_483 wg_484 cw_X5_isFactSign ⟨Nat.le_of_ble_eq_true rfl, Nat.le_of_ble_eq_true rfl⟩ rfl rfl (Nat.le_of_ble_eq_true rfl) dX5_next_33 ?_
    refine z_bif_eq C 43 (by decide) dX5_next_36 (fun w2 => ?_) (fun w2 => ?_)
    · skip
      refine z_ic C dX5_next_43 ?_
      exact z_iret B (by unfold tStep; rw [if_pos (by omega)]; split <;> (try split) <;> omega) dX5_next_44
    · skip
      refine z_ic C dX5_next_39 ?_
      refine z_goto C 44 (by decide) dX5_next_40 ?_
      exact z_iret B (by unfold tStep; rw [if_pos (by omega)]; split <;> (try split) <;> omega) dX5_next_44
  by_cases hc3 : st = 1
  · refine z_tsI C 1 (by omega) (by omega) rfl 45 (by decide) dX5_next_1 ?_
    refine z_iln C hl 1 rfl dX5_next_45 ?_
    refine z_sRO C hP hl (c_X5_isRelation (σ := σ) sg (by omega))  wg_488 wg_7 wg_486 wg_487 cw_X5_isRelation ⟨Nat.le_of_ble_eq_true rfl, Nat.le_of_ble_eq_true rfl⟩ rfl rfl (Nat.le_of_ble_eq_true rfl) dX5_next_46 ?_
    refine z_bif_eq C 56 (by decide) dX5_next_49 (fun w4 => ?_) (fun w4 => ?_)
    · skip
      refine z_ic C dX5_next_56 ?_
      exact z_iret B (by unfold tStep; rw [if_neg (by omega), if_pos (by omega)]; split <;> (try split) <;> omega) dX5_next_57
    · skip
      refine z_ic C dX5_next_52 ?_
      refine z_goto C 57 (by decide) dX5_next_53 ?_
      exact z_iret B (by unfold tStep; rw [if_neg (by omega), if_pos (by omega)]; split <;> (try split) <;> omega) dX5_next_57
  by_cases hc5 : st = 2
  · refine z_tsI C 2 (by omega) (by omega) rfl 58 (by decide) dX5_next_1 ?_
    refine z_iln C hl 1 rfl dX5_next_58 ?_
    refine z_bp C dX5_next_59 rfl ?_
    refine z_icmp_ne C 68 (by decide) (by omega) (by omega) dX5_next_61 (fun w6 => ?_) (fun w6 => ?_)
    · skip
      refine z_iln C hl 1 rfl dX5_next_68 ?_
      refine z_sRO C hP hl (c_X5_isDigit (σ := σ) sg (by omega))  wg_491 wg_7 wg_489 wg_490 cw_X5_isDigit ⟨Nat.le_of_ble_eq_true rfl, Nat.le_of_ble_eq_true rfl⟩ rfl rfl (Nat.le_of_ble_eq_true rfl) dX5_next_69 ?_
      refine z_bif_eq C 79 (by decide) dX5_next_72 (fun w7 => ?_) (fun w7 => ?_)
      · skip
        refine z_ic C dX5_next_79 ?_
        exact z_iret B (by unfold tStep; rw [if_neg (by omega), if_neg (by omega), if_pos (by omega)]; split <;> (try split) <;> omega) dX5_next_80
      · skip
        refine z_ic C dX5_next_75 ?_
        refine z_goto C 80 (by decide) dX5_next_76 ?_
        exact z_iret B (by unfold tStep; rw [if_neg (by omega), if_neg (by omega), if_pos (by omega)]; split <;> (try split) <;> omega) dX5_next_80
    · skip
      refine z_ic C dX5_next_64 ?_
      refine z_goto C 80 (by decide) dX5_next_65 ?_
      exact z_iret B (by unfold tStep; rw [if_neg (by omega), if_neg (by omega), if_pos (by omega)]; split <;> (try split) <;> omega) dX5_next_80
  by_cases hc8 : st = 3
  · refine z_tsI C 3 (by omega) (by omega) rfl 81 (by decide) dX5_next_1 ?_
    refine z_iln C hl 1 rfl dX5_next_81 ?_
    refine z_sRO C hP hl (c_X5_isDigit (σ := σ) sg (by omega))  wg_491 wg_7 wg_489 wg_490 cw_X5_isDigit ⟨Nat.le_of_ble_eq_true rfl, Nat.le_of_ble_eq_true rfl⟩ rfl rfl (Nat.le_of_ble_eq_true rfl) dX5_next_82 ?_
    refine z_bif_eq C 92 (by decide) dX5_next_85 (fun w9 => ?_) (fun w9 => ?_)
    · skip
      refine z_ic C dX5_next_92 ?_
      exact z_iret B (by unfold tStep; rw [if_neg (by omega), if_neg (by omega), if_neg (by omega), if_pos (by omega)]; split <;> (try split) <;> omega) dX5_next_93
    · skip
      refine z_ic C dX5_next_88 ?_
      refine z_goto C 93 (by decide) dX5_next_89 ?_
      exact z_iret B (by unfold tStep; rw [if_neg (by omega), if_neg (by omega), if_neg (by omega), if_pos (by omega)]; split <;> (try split) <;> omega) dX5_next_93
  refine z_tsO C (by omega) (by omega) 94 (by decide) dX5_next_1 ?_
  refine z_iln C hl 0 rfl dX5_next_94 ?_
  refine z_iln C hl 1 rfl dX5_next_95 ?_
  refine z_sRO C hP hl (c_X5_afterDigit (σ := σ) st sg (by omega) (by omega))  wg_495 wg_7 wg_493 wg_494 cw_X5_afterDigit ⟨Nat.le_of_ble_eq_true rfl, Nat.le_of_ble_eq_true rfl⟩ rfl rfl (Nat.le_of_ble_eq_true rfl) dX5_next_96 ?_
  exact z_iret B (by unfold tStep; rw [if_neg (show ¬ st = 0 by omega), if_neg (show ¬ st = 1 by omega), if_neg (show ¬ st = 2 by omega), if_neg (show ¬ st = 3 by omega)]) dX5_next_99

set_option maxHeartbeats 4000000 in
set_option maxRecDepth 100000 in
theorem c_X5_firstFault {l : Launch} {D : va_G} {q : Nat → Nat} {g : Nat → ClassId} {σ : Mem} (hSi : SI σ) : RO l yX5_firstFault cX5_firstFault 3 (some .int) 4 84 D q g σ [.ref (q 4)] (some (.int (zI (kFault (co σ))))) := by
  refine RO.intro (plainFor_of_name (by decide)) (Nat.le_of_ble_eq_true rfl) (fun p e s m args below meth c ls B hP hl => ?_)
  have C := B.1
  have hl : lv_has ls 3 [(0, .ref (q 4))] := hl
  have h1 := hSi.1
  have e1 : co σ 4 1 = σ 4 1 := rfl
  refine z_ic C dX5_firstFault_0 ?_
  refine z_isn C hl [(1, .int (zI 0)), (0, .ref (q 4))] (by decide) rfl dX5_firstFault_1 (fun ls hl => ?_)
  refine z_ic C dX5_firstFault_2 ?_
  refine z_isn C hl [(2, .int (zI 0)), (1, .int (zI 0)), (0, .ref (q 4))] (by decide) rfl dX5_firstFault_3 (fun ls hl => ?_)
  have L4 : ∀ (n : Nat) (st : Int) (i : Int)  , σ 4 1 - i < (n : Int) → (0 ≤ i ∧ i ≤ σ 4 1) → (0 ≤ st ∧ st ≤ 7) → (kFault (co σ) = tFF (σ 13) (σ 4 1 - i).toNat i st) → ∀ ls : Array Slot, lv_has ls 3 [(0, .ref (q 4)), (1, .int (zI st)), (2, .int (zI i))] → WO p l e 4 84 s m args below meth c (some (.int (zI (kFault (co σ))))) (F0 m 4 ls []) := by
    intro n
    induction n with
    | zero => intro st i hm hi hst he ls hl; exact False.elim (by omega)
    | succ n ih =>
      intro st i hm hi hst he ls hl
      have ih4 := ih; clear ih
      refine z_iln C hl 2 rfl dX5_firstFault_4 ?_
      refine z_aln C hl 0 rfl dX5_firstFault_5 ?_
      refine gf_X5_15 C hP dX5_firstFault_6 ?_
      refine z_icmp_ge C 36 (by decide) (by omega) (by omega) dX5_firstFault_9 (fun w1 => ?_) (fun w1 => ?_)
      · skip
        refine z_iln C hl 1 rfl dX5_firstFault_36 ?_
        refine z_ic C dX5_firstFault_37 ?_
        refine z_icmp_lt C 46 (by decide) (by omega) (by omega) dX5_firstFault_38 (fun w2 => ?_) (fun w2 => ?_)
        · skip
          refine z_aln C hl 0 rfl dX5_firstFault_46 ?_
          refine gf_X5_15 C hP dX5_firstFault_47 ?_
          exact z_iret B (by rw [he, show (σ 4 1 - i).toNat = 0 by omega, tFF, if_neg (by omega)]; omega) dX5_firstFault_50
        · skip
          refine z_bp C dX5_firstFault_41 rfl ?_
          refine z_goto C 50 (by decide) dX5_firstFault_43 ?_
          exact z_iret B (by rw [he, show (σ 4 1 - i).toNat = 0 by omega, tFF, if_pos (by omega)]) dX5_firstFault_50
      · skip
        rw [show (σ 4 1 - i).toNat = (σ 4 1 - (i + 1)).toNat + 1 by omega, tFF] at he
        have hv := hSi.2 i.toNat (by omega)
        have hb := tStep_b (c := σ 13 i.toNat) hst
        refine z_iln C hl 1 rfl dX5_firstFault_12 ?_
        refine z_aln C hl 0 rfl dX5_firstFault_13 ?_
        refine gf_X5_9 C hP dX5_firstFault_14 ?_
        refine z_iln C hl 2 rfl dX5_firstFault_17 ?_
        refine z_iald C hP (i := 13) (by decide) (fun _ => rfl) (by omega) (by decide) dX5_firstFault_18 ?_
        refine z_sRO C hP hl (c_X5_next (σ := σ) st (σ 13 i.toNat) (by omega) (by omega))  wg_482 wg_7 wg_480 wg_481 cw_X5_next ⟨Nat.le_of_ble_eq_true rfl, Nat.le_of_ble_eq_true rfl⟩ rfl rfl (Nat.le_of_ble_eq_true rfl) dX5_firstFault_19 ?_
        refine z_isn C hl [(1, .int (zI (tStep st (σ 13 i.toNat)))), (0, .ref (q 4)), (2, .int (zI i))] (by decide) rfl dX5_firstFault_22 (fun ls hl => ?_)
        refine z_iln C hl 0 rfl dX5_firstFault_23 ?_
        refine z_ic C dX5_firstFault_24 ?_
        refine z_icmp_ne C 30 (by decide) (by omega) (by omega) dX5_firstFault_25 (fun w3 => ?_) (fun w3 => ?_)
        · skip
          refine z_iinc C hl 2 rfl [(2, .int (zI (i + 1))), (1, .int (zI (tStep st (σ 13 i.toNat)))), (0, .ref (q 4))] (by decide) rfl dX5_firstFault_30 (fun ls hl => ?_)
          refine z_goto C 4 (by decide) dX5_firstFault_33 ?_
          exact ih4 (tStep st (σ 13 i.toNat)) (i + 1) (by omega) (by omega) (by omega) (by rw [he, if_neg (by omega)]) ls (lv_sub hl [2, 1, 0] rfl)
        · skip
          refine z_iln C hl 2 rfl dX5_firstFault_28 ?_
          exact z_iret B (by rw [he, if_pos (by omega)]) dX5_firstFault_29
  exact L4 ((σ 4 1 - 0 : Int).toNat + 1) 0 0 (by omega) (by omega) (by omega) (by rw [Int.sub_zero]; rfl) ls (lv_sub hl [2, 1, 0] rfl)

set_option maxHeartbeats 4000000 in
set_option maxRecDepth 100000 in
theorem c_X8_say {l : Launch} {D : va_G} {q : Nat → Nat} {g : Nat → ClassId} {σ : Mem} (hq : qok q) (sg : Int) (hSi : SI σ) (hr_sg : zR sg) : RW l yX8_say cX8_say 2 (some .int) 1 22 D q g σ [.ref (q 0), .int (zI sg)] vI (fun r τ => if ¬ (33 ≤ sg ∧ sg ≤ 126) then r = -2 ∧ τ = σ else if 30 ≤ σ 4 1 then r = -4 ∧ τ = σ else r = σ 4 1 + 1 ∧ τ = um (um σ 13 (σ 4 1).toNat sg) 4 1 (σ 4 1 + 1)) := by
  refine RW.intro (plainFor_of_name (by decide)) (Nat.le_of_ble_eq_true rfl) (fun p e s m args below meth c ls B hP hS hl => ?_)
  have C := B.1
  have hl : lv_has ls 2 [(0, .ref (q 0)), (1, .int (zI sg))] := hl
  have h1 := hSi.1
  refine z_iln C hl 1 rfl dX8_say_0 ?_
  refine z_bp C dX8_say_1 rfl ?_
  refine z_bp C dX8_say_3 rfl ?_
  refine z_sRO C hP hl (c_X8_within (σ := σ) sg 33 126 (by omega) (by omega) (by omega))  wg_212 wg_1 wg_210 wg_211 cw_X8_within ⟨Nat.le_of_ble_eq_true rfl, Nat.le_of_ble_eq_true rfl⟩ rfl rfl (Nat.le_of_ble_eq_true rfl) dX8_say_5 ?_
  refine z_bif_ne C 14 (by decide) dX8_say_8 (fun w1 => ?_) (fun w1 => ?_)
  · skip
    refine z_aln C hl 0 rfl dX8_say_14 ?_
    refine gf_X8_33 C hP dX8_say_15 ?_
    refine z_iln C hl 1 rfl dX8_say_18 ?_
    refine z_vRWi C hP hS hl (c_X5_add (σ := σ) hq sg (by omega)) (z_recv C hP (i := 4) (by decide) rfl (ci := 5) rfl) wg_467 wg_7 wg_464 wg_465 wg_466 cw_X5_add ⟨Nat.le_of_ble_eq_true rfl, Nat.le_of_ble_eq_true rfl⟩ rfl rfl (Nat.le_of_ble_eq_true rfl) dX8_say_19 (fun r19 τ19 H locs hp19 hP hS => ?_)
    exact z_iretW B hP hS (by rw [if_neg (by omega)]; exact hp19) dX8_say_22
  · skip
    refine z_bp C dX8_say_11 rfl ?_
    exact z_iretW B hP hS (by rw [if_pos (by omega)]; exact ⟨rfl, rfl⟩) dX8_say_13

set_option maxHeartbeats 4000000 in
set_option maxRecDepth 100000 in
theorem c_X8_wipe {l : Launch} {D : va_G} {q : Nat → Nat} {g : Nat → ClassId} {σ : Mem} (hq : qok q)  : RW l yX8_wipe cX8_wipe 2 (some .int) 0 0 D q g σ [.ref (q 0)] vI (fun r τ => r = σ 4 1 ∧ τ = um σ 4 1 0) := by
  refine RW.intro (plainFor_of_name (by decide)) (Nat.le_of_ble_eq_true rfl) (fun p e s m args below meth c ls B hP hS hl => ?_)
  have C := B.1
  have hl : lv_has ls 2 [(0, .ref (q 0))] := hl
  refine z_aln C hl 0 rfl dX8_wipe_0 ?_
  refine gf_X8_33 C hP dX8_wipe_1 ?_
  refine gf_X8_206 C hP dX8_wipe_4 ?_
  refine z_isn C hl [(1, .int (zI (σ 4 1))), (0, .ref (q 0))] (by decide) rfl dX8_wipe_7 (fun ls hl => ?_)
  refine z_aln C hl 1 rfl dX8_wipe_8 ?_
  refine gf_X8_33 C hP dX8_wipe_9 ?_
  refine z_ic C dX8_wipe_12 ?_
  refine pf_X8_206 C hq hP hS dX8_wipe_13 (fun H locs hP hS => ?_)
  refine z_iln C hl 0 rfl dX8_wipe_16 ?_
  exact z_iretW B hP hS ⟨rfl, rfl⟩ dX8_wipe_17

set_option maxHeartbeats 4000000 in
set_option maxRecDepth 100000 in
theorem c_X8_fault {l : Launch} {D : va_G} {q : Nat → Nat} {g : Nat → ClassId} {σ : Mem} (hSi : SI σ) : RO l yX8_fault cX8_fault 1 (some .int) 5 106 D q g σ [.ref (q 0)] (some (.int (zI (kFault (co σ))))) := by
  refine RO.intro (plainFor_of_name (by decide)) (Nat.le_of_ble_eq_true rfl) (fun p e s m args below meth c ls B hP hl => ?_)
  have C := B.1
  have hl : lv_has ls 1 [(0, .ref (q 0))] := hl
  refine z_aln C hl 0 rfl dX8_fault_0 ?_
  refine gf_X8_33 C hP dX8_fault_1 ?_
  refine z_vRO C hP hl (c_X5_firstFault (σ := σ)  hSi) (z_recv C hP (i := 4) (by decide) rfl (ci := 5) rfl) wg_479 wg_7 wg_476 wg_477 wg_478 cw_X5_firstFault ⟨Nat.le_of_ble_eq_true rfl, Nat.le_of_ble_eq_true rfl⟩ rfl rfl (Nat.le_of_ble_eq_true rfl) dX8_fault_4 ?_
  exact z_iret B (by first | rfl | omega) dX8_fault_7

set_option maxHeartbeats 4000000 in
set_option maxRecDepth 100000 in
theorem c_X0_open {l : Launch} {D : va_G} {q : Nat → Nat} {g : Nat → ClassId} {σ : Mem} (hq : qok q) (sg : Int) (hc5 : 0 ≤ σ 5 4 ∧ σ 5 4 ≤ 8) : RW l yX0_open cX0_open 2 none 0 0 D q g σ [.ref (q 5), .int (zI sg)] vV (fun _ τ => τ = if 8 ≤ σ 5 4 then σ else um (um (um (um σ 19 (σ 5 4).toNat sg) 21 (σ 5 4).toNat 1) 22 (σ 5 4).toNat 0) 5 4 (σ 5 4 + 1)) := by
  refine RW.intro (plainFor_of_name (by decide)) (Nat.le_of_ble_eq_true rfl) (fun p e s m args below meth c ls B hP hS hl => ?_)
  have C := B.1
  have hl : lv_has ls 2 [(0, .ref (q 5)), (1, .int (zI sg))] := hl
  refine z_aln C hl 0 rfl dX0_open_0 ?_
  refine gf_X0_24 C hP dX0_open_1 ?_
  refine z_bp C dX0_open_4 rfl ?_
  refine z_icmp_lt C 10 (by decide) (by omega) (by omega) dX0_open_6 (fun w1 => ?_) (fun w1 => ?_)
  · skip
    refine z_aln C hl 0 rfl dX0_open_10 ?_
    refine gf_X0_9 C hP dX0_open_11 ?_
    refine z_aln C hl 0 rfl dX0_open_14 ?_
    refine gf_X0_24 C hP dX0_open_15 ?_
    refine z_iln C hl 1 rfl dX0_open_18 ?_
    refine z_iast C hq hP hS (i := 19) (by decide) (fun _ => rfl) (by omega) (by decide) dX0_open_19 (fun H locs hP hS => ?_)
    refine z_aln C hl 0 rfl dX0_open_20 ?_
    refine gf_X0_18 C hP dX0_open_21 ?_
    refine z_aln C hl 0 rfl dX0_open_24 ?_
    refine gf_X0_24 C hP dX0_open_25 ?_
    refine z_tope (b := σ 5 4) (by unfold um; rw [if_neg (by omega)]) ?_
    refine z_ic C dX0_open_28 ?_
    refine z_iast C hq hP hS (i := 21) (by decide) (fun _ => rfl) (by omega) (by decide) dX0_open_29 (fun H locs hP hS => ?_)
    refine z_aln C hl 0 rfl dX0_open_30 ?_
    refine gf_X0_21 C hP dX0_open_31 ?_
    refine z_aln C hl 0 rfl dX0_open_34 ?_
    refine gf_X0_24 C hP dX0_open_35 ?_
    refine z_tope (b := σ 5 4) (by unfold um; rw [if_neg (by omega), if_neg (by omega)]) ?_
    refine z_ic C dX0_open_38 ?_
    refine z_iast C hq hP hS (i := 22) (by decide) (fun _ => rfl) (by omega) (by decide) dX0_open_39 (fun H locs hP hS => ?_)
    refine z_aln C hl 0 rfl dX0_open_40 ?_
    refine z_dup C rfl dX0_open_41 ?_
    refine gf_X0_24 C hP dX0_open_42 ?_
    refine z_tope (b := σ 5 4) (by unfold um; rw [if_neg (by omega), if_neg (by omega), if_neg (by omega)]) ?_
    refine z_ic C dX0_open_45 ?_
    refine z_iadd C dX0_open_46 ?_
    refine pf_X0_24 C hq hP hS dX0_open_47 (fun H locs hP hS => ?_)
    exact z_vretW B hP hS (by rw [if_neg (by omega)]) dX0_open_50
  · skip
    exact z_vretW B hP hS (by rw [if_pos (by omega)]) dX0_open_9

set_option maxHeartbeats 4000000 in
set_option maxRecDepth 100000 in
theorem c_X0_take {l : Launch} {D : va_G} {q : Nat → Nat} {g : Nat → ClassId} {σ : Mem} (hq : qok q) (sg : Int) (hc5 : 0 ≤ σ 5 4 ∧ σ 5 4 ≤ 8) (hr_sg : zR sg) : RW l yX0_take cX0_take 3 none 2 42 D q g σ [.ref (q 5), .int (zI sg)] vV (fun _ τ => τ = tk σ sg) := by
  refine RW.intro (plainFor_of_name (by decide)) (Nat.le_of_ble_eq_true rfl) (fun p e s m args below meth c ls B hP hS hl => ?_)
  have C := B.1
  have hl : lv_has ls 3 [(0, .ref (q 5)), (1, .int (zI sg))] := hl
  refine z_iln C hl 1 rfl dX0_take_0 ?_
  refine z_sRO C hP hl (c_X5_isFactSign (σ := σ) sg (by omega))  wg_485 wg_7 wg_508 wg_484 cw_X5_isFactSign ⟨Nat.le_of_ble_eq_true rfl, Nat.le_of_ble_eq_true rfl⟩ rfl rfl (Nat.le_of_ble_eq_true rfl) dX0_take_1 ?_
  refine z_bif_eq C 13 (by decide) dX0_take_4 (fun w1 => ?_) (fun w1 => ?_)
  · skip
    refine z_aln C hl 0 rfl dX0_take_13 ?_
    refine gf_X0_24 C hP dX0_take_14 ?_
    refine z_ic C dX0_take_17 ?_
    refine z_isub C dX0_take_18 ?_
    refine z_isn C hl [(2, .int (zI ((σ 5 4) - 1))), (0, .ref (q 5)), (1, .int (zI sg))] (by decide) rfl dX0_take_19 (fun ls hl => ?_)
    refine z_iln C hl 0 rfl dX0_take_20 ?_
    refine z_if_ge C 25 (by decide) (by omega) dX0_take_21 (fun w2 => ?_) (fun w2 => ?_)
    · skip
      refine z_iln C hl 2 rfl dX0_take_25 ?_
      refine z_sRO C hP hl (c_X5_isRelation (σ := σ) sg (by omega))  wg_488 wg_7 wg_513 wg_487 cw_X5_isRelation ⟨Nat.le_of_ble_eq_true rfl, Nat.le_of_ble_eq_true rfl⟩ rfl rfl (Nat.le_of_ble_eq_true rfl) dX0_take_26 ?_
      refine z_bif_eq C 42 (by decide) dX0_take_29 (fun w3 => ?_) (fun w3 => ?_)
      · skip
        refine z_iln C hl 2 rfl dX0_take_42 ?_
        refine z_bp C dX0_take_43 rfl ?_
        refine z_icmp_ne C 58 (by decide) (by omega) (by omega) dX0_take_45 (fun w4 => ?_) (fun w4 => ?_)
        · skip
          refine z_iln C hl 2 rfl dX0_take_58 ?_
          refine z_sRO C hP hl (c_X5_isDigit (σ := σ) sg (by omega))  wg_491 wg_7 wg_514 wg_490 cw_X5_isDigit ⟨Nat.le_of_ble_eq_true rfl, Nat.le_of_ble_eq_true rfl⟩ rfl rfl (Nat.le_of_ble_eq_true rfl) dX0_take_59 ?_
          refine z_bif_eq C 85 (by decide) dX0_take_62 (fun w5 => ?_) (fun w5 => ?_)
          · skip
            exact z_vretW B hP hS (by unfold tk; rw [if_neg (by omega), if_neg (by omega), if_neg (by omega), if_neg (by omega), if_neg (by omega)]) dX0_take_85
          · skip
            refine z_aln C hl 1 rfl dX0_take_65 ?_
            refine gf_X0_21 C hP dX0_take_66 ?_
            refine z_iln C hl 0 rfl dX0_take_69 ?_
            refine z_bp C dX0_take_70 rfl ?_
            refine z_aln C hl 1 rfl dX0_take_72 ?_
            refine gf_X0_21 C hP dX0_take_73 ?_
            refine z_iln C hl 0 rfl dX0_take_76 ?_
            refine z_iald C hP (i := 22) (by decide) (fun _ => rfl) (by omega) (by decide) dX0_take_77 ?_
            refine z_imul C dX0_take_78 ?_
            refine z_iln C hl 2 rfl dX0_take_79 ?_
            refine z_iadd C dX0_take_80 ?_
            refine z_bp C dX0_take_81 rfl ?_
            refine z_isub C dX0_take_83 ?_
            refine z_iast C hq hP hS (i := 22) (by decide) (fun _ => rfl) (by omega) (by decide) dX0_take_84 (fun H locs hP hS => ?_)
            exact z_vretW B hP hS (by unfold tk; rw [if_neg (by omega), if_neg (by omega), if_neg (by omega), if_neg (by omega), if_pos (by omega)]) dX0_take_85
        · skip
          refine z_aln C hl 1 rfl dX0_take_48 ?_
          refine gf_X0_18 C hP dX0_take_49 ?_
          refine z_iln C hl 0 rfl dX0_take_52 ?_
          refine z_ic C dX0_take_53 ?_
          refine z_iast C hq hP hS (i := 21) (by decide) (fun _ => rfl) (by omega) (by decide) dX0_take_54 (fun H locs hP hS => ?_)
          refine z_goto C 85 (by decide) dX0_take_55 ?_
          exact z_vretW B hP hS (by unfold tk; rw [if_neg (by omega), if_neg (by omega), if_neg (by omega), if_pos (by omega)]) dX0_take_85
      · skip
        refine z_aln C hl 1 rfl dX0_take_32 ?_
        refine gf_X0_15 C hP dX0_take_33 ?_
        refine z_iln C hl 0 rfl dX0_take_36 ?_
        refine z_iln C hl 2 rfl dX0_take_37 ?_
        refine z_iast C hq hP hS (i := 20) (by decide) (fun _ => rfl) (by omega) (by decide) dX0_take_38 (fun H locs hP hS => ?_)
        refine z_goto C 85 (by decide) dX0_take_39 ?_
        exact z_vretW B hP hS (by unfold tk; rw [if_neg (by omega), if_neg (by omega), if_pos (by omega)]) dX0_take_85
    · skip
      exact z_vretW B hP hS (by unfold tk; rw [if_neg (by omega), if_pos (by omega)]) dX0_take_24
  · skip
    refine z_aln C hl 0 rfl dX0_take_7 ?_
    refine z_iln C hl 1 rfl dX0_take_8 ?_
    refine z_vRWv C hP hS hl (c_X0_open (σ := σ) hq sg (by omega)) (z_recv C hP (i := 5) (by decide) rfl (ci := 0) rfl) wg_512 wg_8 wg_509 wg_510 wg_511 cw_X0_open ⟨Nat.le_of_ble_eq_true rfl, Nat.le_of_ble_eq_true rfl⟩ rfl rfl (Nat.le_of_ble_eq_true rfl) dX0_take_9 (fun r9 τ9 H locs hp9 hP hS => ?_)
    exact z_vretW B hP hS (by unfold tk; rw [if_pos (by omega)]; exact hp9) dX0_take_12

set_option maxHeartbeats 4000000 in
set_option maxRecDepth 100000 in
theorem c_X0_read {l : Launch} {D : va_G} {q : Nat → Nat} {g : Nat → ClassId} {σ : Mem} (hq : qok q) (hSi : SI σ) : RW l yX0_read cX0_read 3 none 3 64 D q g σ [.ref (q 5), .ref (q 4)] vV (fun _ τ => τ = rdG σ (σ 13) (σ 4 1).toNat) := by
  refine RW.intro (plainFor_of_name (by decide)) (Nat.le_of_ble_eq_true rfl) (fun p e s m args below meth c ls B hP hS hl => ?_)
  have C := B.1
  have hl : lv_has ls 3 [(0, .ref (q 5)), (1, .ref (q 4))] := hl
  have h1 := hSi.1
  refine z_aln C hl 0 rfl dX0_read_0 ?_
  refine z_ic C dX0_read_1 ?_
  refine pf_X0_24 C hq hP hS dX0_read_2 (fun H locs hP hS => ?_)
  refine z_ic C dX0_read_5 ?_
  refine z_isn C hl [(2, .int (zI 0)), (0, .ref (q 5)), (1, .ref (q 4))] (by decide) rfl dX0_read_6 (fun ls hl => ?_)
  have L7 : ∀ (n : Nat) (i : Int)  (τ : Mem), σ 4 1 - i < (n : Int) → (0 ≤ i ∧ i ≤ σ 4 1) → (τ = rdG σ (σ 13) i.toNat) → ∀ (H : Heap) (locs : List Loc), HP D q g τ H → va_S (aQ q) s.heap H locs → ∀ ls : Array Slot, lv_has ls 3 [(0, .ref (q 5)), (1, .ref (q 4)), (2, .int (zI i))] → WW p l e 3 64 s m args below meth c H locs D q g vV (fun _ τ => τ = rdG σ (σ 13) (σ 4 1).toNat) (F0 m 7 ls []) := by
    intro n
    induction n with
    | zero => intro i τ hm hi hm H locs hP hS ls hl; exact False.elim (by omega)
    | succ n ih =>
      intro i τ hm hi hm H locs hP hS ls hl
      have ih7 := ih; clear ih
      refine z_iln C hl 2 rfl dX0_read_7 ?_
      have h41 : τ 4 1 = σ 4 1 := by rw [hm]; exact rdG_row (by decide) _
      have h13 : τ 13 i.toNat = σ 13 i.toNat := by rw [hm]; exact rdG_row (by simp) _
      have hcb := rdG_b (β := σ) (s := σ 13) i.toNat
      rw [← hm] at hcb
      refine z_aln C hl 1 rfl dX0_read_8 ?_
      refine gf_X0_28 C hP dX0_read_9 ?_
      refine z_icmp_ge C 31 (by decide) (by omega) (by omega) dX0_read_12 (fun w1 => ?_) (fun w1 => ?_)
      · skip
        exact z_vretW B hP hS (by rw [hm, show (σ 4 1).toNat = i.toNat by omega]) dX0_read_31
      · skip
        have hv := hSi.2 i.toNat (by omega)
        refine z_aln C hl 0 rfl dX0_read_15 ?_
        refine z_aln C hl 1 rfl dX0_read_16 ?_
        refine gf_X0_31 C hP dX0_read_17 ?_
        refine z_iln C hl 2 rfl dX0_read_20 ?_
        refine z_iald C hP (i := 13) (by decide) (fun _ => rfl) (by omega) (by decide) dX0_read_21 ?_
        refine z_vRWv C hP hS hl (c_X0_take (σ := τ) hq (τ 13 i.toNat) (by omega) (by omega)) (z_recv C hP (i := 5) (by decide) rfl (ci := 0) rfl) wg_507 wg_8 wg_504 wg_505 wg_506 cw_X0_take ⟨Nat.le_of_ble_eq_true rfl, Nat.le_of_ble_eq_true rfl⟩ rfl rfl (Nat.le_of_ble_eq_true rfl) dX0_read_22 (fun r22 τ22 H locs hp22 hP hS => ?_)
        refine z_iinc C hl 2 rfl [(2, .int (zI (i + 1))), (0, .ref (q 5)), (1, .ref (q 4))] (by decide) rfl dX0_read_25 (fun ls hl => ?_)
        refine z_goto C 7 (by decide) dX0_read_28 ?_
        exact ih7 (i + 1) τ22 (by omega) (by omega) (by rw [show (i + 1).toNat = i.toNat + 1 by omega, rdG, ← hm, hp22, h13]) _ _ hP hS ls (lv_sub hl [1, 2, 0] rfl)
  exact L7 ((σ 4 1 - 0 : Int).toNat + 1) 0 (um σ 5 4 0) (by omega) (by omega) rfl _ _ hP hS ls (lv_sub hl [1, 2, 0] rfl)

set_option maxHeartbeats 4000000 in
set_option maxRecDepth 100000 in
theorem c_X8_rule {l : Launch} {D : va_G} {q : Nat → Nat} {g : Nat → ClassId} {σ : Mem} (hq : qok q) (hSi : SI σ) : RW l yX8_rule cX8_rule 1 (some .int) 5 106 D q g σ [.ref (q 0)] vI (fun r τ => if kFault (co σ) ≠ -6 then r = -5 ∧ τ = σ else r = rdG σ (σ 13) (σ 4 1).toNat 5 4 ∧ τ = um (rdG σ (σ 13) (σ 4 1).toNat) 4 1 0) := by
  refine RW.intro (plainFor_of_name (by decide)) (Nat.le_of_ble_eq_true rfl) (fun p e s m args below meth c ls B hP hS hl => ?_)
  have C := B.1
  have hl : lv_has ls 1 [(0, .ref (q 0))] := hl
  have h1 := hSi.1
  have hfb := tFF_b (s := co σ 13) (co σ 4 1).toNat 0 0 (by omega)
  have hfk : kFault (co σ) = tFF (co σ 13) (co σ 4 1).toNat 0 0 := rfl
  have e41 : co σ 4 1 = σ 4 1 := rfl
  refine z_aln C hl 0 rfl dX8_rule_0 ?_
  refine gf_X8_33 C hP dX8_rule_1 ?_
  refine z_vRO C hP hl (c_X5_firstFault (σ := σ)  hSi) (z_recv C hP (i := 4) (by decide) rfl (ci := 5) rfl) wg_479 wg_7 wg_476 wg_477 wg_478 cw_X5_firstFault ⟨Nat.le_of_ble_eq_true rfl, Nat.le_of_ble_eq_true rfl⟩ rfl rfl (Nat.le_of_ble_eq_true rfl) dX8_rule_4 ?_
  refine z_bp C dX8_rule_7 rfl ?_
  refine z_icmp_eq C 15 (by decide) (by omega) (by omega) dX8_rule_9 (fun w1 => ?_) (fun w1 => ?_)
  · skip
    refine z_aln C hl 0 rfl dX8_rule_15 ?_
    refine gf_X8_40 C hP dX8_rule_16 ?_
    refine z_aln C hl 0 rfl dX8_rule_19 ?_
    refine gf_X8_33 C hP dX8_rule_20 ?_
    refine z_vRWv C hP hS hl (c_X0_read (σ := σ) hq  hSi) (z_recv C hP (i := 5) (by decide) rfl (ci := 0) rfl) wg_503 wg_8 wg_500 wg_501 wg_502 cw_X0_read ⟨Nat.le_of_ble_eq_true rfl, Nat.le_of_ble_eq_true rfl⟩ rfl rfl (Nat.le_of_ble_eq_true rfl) dX8_rule_23 (fun r23 τ23 H locs hp23 hP hS => ?_)
    refine z_aln C hl 0 rfl dX8_rule_26 ?_
    refine gf_X8_33 C hP dX8_rule_27 ?_
    refine z_ic C dX8_rule_30 ?_
    refine pf_X8_206 C hq hP hS dX8_rule_31 (fun H locs hP hS => ?_)
    refine z_aln C hl 0 rfl dX8_rule_34 ?_
    refine gf_X8_40 C hP dX8_rule_35 ?_
    refine gf_X8_214 C hP dX8_rule_38 ?_
    refine z_tope (b := τ23 5 4) (by unfold um; rw [if_neg (by omega)]) ?_
    exact z_iretW B hP hS (by rw [if_neg (by omega), ← hp23]; exact ⟨rfl, rfl⟩) dX8_rule_41
  · skip
    refine z_bp C dX8_rule_12 rfl ?_
    exact z_iretW B hP hS (by rw [if_pos (by omega)]; exact ⟨rfl, rfl⟩) dX8_rule_14

set_option maxHeartbeats 4000000 in
set_option maxRecDepth 100000 in
theorem c_X8_chosen {l : Launch} {D : va_G} {q : Nat → Nat} {g : Nat → ClassId} {σ : Mem} (f t w h ea : Int) (hr_f : zR f) (hr_t : zR t) (hr_w : zR w) (hr_h : zR h) (hr_ea : zR ea) : RO l yX8_chosen cX8_chosen 5 (some .int) 0 0 D q g σ [.int (zI f), .int (zI t), .int (zI w), .int (zI h), .int (zI ea)] (some (.int (zI (kCh f t w h ea)))) := by
  refine RO.intro (plainFor_of_name (by decide)) (Nat.le_of_ble_eq_true rfl) (fun p e s m args below meth c ls B hP hl => ?_)
  have C := B.1
  have hl : lv_has ls 5 [(0, .int (zI f)), (1, .int (zI t)), (2, .int (zI w)), (3, .int (zI h)), (4, .int (zI ea))] := hl
  refine z_iln C hl 0 rfl dX8_chosen_0 ?_
  by_cases hc1 : f = 104
  · refine z_lk C (by omega) (by decide) (off := 39) (by rw [hc1]; decide) 40 (by decide) dX8_chosen_1 ?_
    refine z_iln C hl 3 rfl dX8_chosen_40 ?_
    exact z_iret B (by unfold kCh; split <;> (try split) <;> (try split) <;> omega) dX8_chosen_41
  by_cases hc2 : f = 116
  · refine z_lk C (by omega) (by decide) (off := 35) (by rw [hc2]; decide) 36 (by decide) dX8_chosen_1 ?_
    refine z_iln C hl 1 rfl dX8_chosen_36 ?_
    exact z_iret B (by unfold kCh; split <;> (try split) <;> (try split) <;> omega) dX8_chosen_37
  by_cases hc3 : f = 119
  · refine z_lk C (by omega) (by decide) (off := 37) (by rw [hc3]; decide) 38 (by decide) dX8_chosen_1 ?_
    refine z_iln C hl 2 rfl dX8_chosen_38 ?_
    exact z_iret B (by unfold kCh; split <;> (try split) <;> (try split) <;> omega) dX8_chosen_39
  refine z_lk C (by omega) (by decide) (off := 41) (by simp [Op.lookupswitch.offset, Ne.symm hc1, Ne.symm hc2, Ne.symm hc3]) 42 (by decide) dX8_chosen_1 ?_
  refine z_il C hl 4 rfl dX8_chosen_42 ?_
  exact z_iret B (by unfold kCh; split <;> (try split) <;> (try split) <;> omega) dX8_chosen_44

set_option maxHeartbeats 4000000 in
set_option maxRecDepth 100000 in
theorem c_X0_isSo {l : Launch} {D : va_G} {q : Nat → Nat} {g : Nat → ClassId} {σ : Mem} (ln v : Int) (hL : LI σ) (hll : 0 ≤ ln ∧ ln < σ 5 4) (hr_v : zR v) : RO l yX0_isSo cX0_isSo 4 (some .boolean) 0 0 D q g σ [.ref (q 5), .int (zI ln), .int (zI v)] (some (.int (zI (bz (kSo σ ln.toNat v = true))))) := by
  refine RO.intro (plainFor_of_name (by decide)) (Nat.le_of_ble_eq_true rfl) (fun p e s m args below meth c ls B hP hl => ?_)
  have C := B.1
  have hl : lv_has ls 4 [(0, .ref (q 5)), (1, .int (zI ln)), (2, .int (zI v))] := hl
  have h1 := hL.1
  have hv := hL.2 ln.toNat (by omega)
  have hb := lim_b hL (l := ln.toNat) (by omega)
  refine z_aln C hl 0 rfl dX0_isSo_0 ?_
  refine gf_X0_18 C hP dX0_isSo_1 ?_
  refine z_iln C hl 1 rfl dX0_isSo_4 ?_
  refine z_iald C hP (i := 21) (by decide) (fun _ => rfl) (by omega) (by decide) dX0_isSo_5 ?_
  refine z_aln C hl 0 rfl dX0_isSo_6 ?_
  refine gf_X0_21 C hP dX0_isSo_7 ?_
  refine z_iln C hl 1 rfl dX0_isSo_10 ?_
  refine z_iald C hP (i := 22) (by decide) (fun _ => rfl) (by omega) (by decide) dX0_isSo_11 ?_
  refine z_imul C dX0_isSo_12 ?_
  refine z_isn C hl [(3, .int (zI ((σ 21 ln.toNat) * (σ 22 ln.toNat)))), (0, .ref (q 5)), (1, .int (zI ln)), (2, .int (zI v))] (by decide) rfl dX0_isSo_13 (fun ls hl => ?_)
  refine z_aln C hl 1 rfl dX0_isSo_14 ?_
  refine gf_X0_15 C hP dX0_isSo_15 ?_
  refine z_iln C hl 2 rfl dX0_isSo_18 ?_
  refine z_iald C hP (i := 20) (by decide) (fun _ => rfl) (by omega) (by decide) dX0_isSo_19 ?_
  by_cases hc1 : σ 20 ln.toNat = 60
  · refine z_lk C (by omega) (by decide) (off := 28) (by rw [hc1]; decide) 48 (by decide) dX0_isSo_20 ?_
    refine z_iln C hl 3 rfl dX0_isSo_48 ?_
    refine z_iln C hl 0 rfl dX0_isSo_49 ?_
    refine z_icmp_ge C 57 (by decide) (by omega) (by omega) dX0_isSo_50 (fun w2 => ?_) (fun w2 => ?_)
    · skip
      refine z_ic C dX0_isSo_57 ?_
      exact z_bret0 B (by unfold kSo; split <;> (try split) <;> (try simp) <;> omega) dX0_isSo_58
    · skip
      refine z_ic C dX0_isSo_53 ?_
      refine z_goto C 58 (by decide) dX0_isSo_54 ?_
      exact z_bret1 B (by unfold kSo; split <;> (try split) <;> (try simp) <;> omega) dX0_isSo_58
  by_cases hc3 : σ 20 ln.toNat = 62
  · refine z_lk C (by omega) (by decide) (off := 39) (by rw [hc3]; decide) 59 (by decide) dX0_isSo_20 ?_
    refine z_iln C hl 3 rfl dX0_isSo_59 ?_
    refine z_iln C hl 0 rfl dX0_isSo_60 ?_
    refine z_icmp_le C 68 (by decide) (by omega) (by omega) dX0_isSo_61 (fun w4 => ?_) (fun w4 => ?_)
    · skip
      refine z_ic C dX0_isSo_68 ?_
      exact z_bret0 B (by unfold kSo; split <;> (try split) <;> (try simp) <;> omega) dX0_isSo_69
    · skip
      refine z_ic C dX0_isSo_64 ?_
      refine z_goto C 69 (by decide) dX0_isSo_65 ?_
      exact z_bret1 B (by unfold kSo; split <;> (try split) <;> (try simp) <;> omega) dX0_isSo_69
  refine z_lk C (by omega) (by decide) (off := 50) (by simp [Op.lookupswitch.offset, Ne.symm hc1, Ne.symm hc3]) 70 (by decide) dX0_isSo_20 ?_
  refine z_iln C hl 3 rfl dX0_isSo_70 ?_
  refine z_iln C hl 0 rfl dX0_isSo_71 ?_
  refine z_icmp_ne C 79 (by decide) (by omega) (by omega) dX0_isSo_72 (fun w5 => ?_) (fun w5 => ?_)
  · skip
    refine z_ic C dX0_isSo_79 ?_
    exact z_bret0 B (by unfold kSo; split <;> (try split) <;> (try simp) <;> omega) dX0_isSo_80
  · skip
    refine z_ic C dX0_isSo_75 ?_
    refine z_goto C 80 (by decide) dX0_isSo_76 ?_
    exact z_bret1 B (by unfold kSo; split <;> (try split) <;> (try simp) <;> omega) dX0_isSo_80

set_option maxHeartbeats 4000000 in
set_option maxRecDepth 100000 in
theorem c_X8_record {l : Launch} {D : va_G} {q : Nat → Nat} {g : Nat → ClassId} {σ : Mem} (t w h ea : Int) (hL : LI σ) (hr_t : zR t) (hr_w : zR w) (hr_h : zR h) (hr_ea : zR ea) : RO l yX8_record cX8_record 7 (some .int) 2 42 D q g σ [.ref (q 0), .int (zI t), .int (zI w), .int (zI h), .int (zI ea)] (some (.int (zI (kRec σ t w h ea)))) := by
  refine RO.intro (plainFor_of_name (by decide)) (Nat.le_of_ble_eq_true rfl) (fun p e s m args below meth c ls B hP hl => ?_)
  have C := B.1
  have hl : lv_has ls 7 [(0, .ref (q 0)), (1, .int (zI t)), (2, .int (zI w)), (3, .int (zI h)), (4, .int (zI ea))] := hl
  have h1 := hL.1
  refine z_iln C hl 1 rfl dX8_record_0 ?_
  refine z_sRO C hP hl (c_X8_isFact (σ := σ) t (by omega))  wg_521 wg_1 wg_519 wg_520 cw_X8_isFact ⟨Nat.le_of_ble_eq_true rfl, Nat.le_of_ble_eq_true rfl⟩ rfl rfl (Nat.le_of_ble_eq_true rfl) dX8_record_1 ?_
  refine z_bif_eq C 29 (by decide) dX8_record_4 (fun w1 => ?_) (fun w1 => ?_)
  · skip
    refine z_bp C dX8_record_29 rfl ?_
    exact z_iret B (by unfold kRec; rw [if_pos (by omega)]) dX8_record_31
  · skip
    refine z_iln C hl 2 rfl dX8_record_7 ?_
    refine z_sRO C hP hl (c_X8_isFact (σ := σ) w (by omega))  wg_521 wg_1 wg_519 wg_520 cw_X8_isFact ⟨Nat.le_of_ble_eq_true rfl, Nat.le_of_ble_eq_true rfl⟩ rfl rfl (Nat.le_of_ble_eq_true rfl) dX8_record_8 ?_
    refine z_bif_eq C 29 (by decide) dX8_record_11 (fun w2 => ?_) (fun w2 => ?_)
    · skip
      refine z_bp C dX8_record_29 rfl ?_
      exact z_iret B (by unfold kRec; rw [if_pos (by omega)]) dX8_record_31
    · skip
      refine z_iln C hl 3 rfl dX8_record_14 ?_
      refine z_sRO C hP hl (c_X8_isFact (σ := σ) h (by omega))  wg_521 wg_1 wg_519 wg_520 cw_X8_isFact ⟨Nat.le_of_ble_eq_true rfl, Nat.le_of_ble_eq_true rfl⟩ rfl rfl (Nat.le_of_ble_eq_true rfl) dX8_record_15 ?_
      refine z_bif_eq C 29 (by decide) dX8_record_18 (fun w3 => ?_) (fun w3 => ?_)
      · skip
        refine z_bp C dX8_record_29 rfl ?_
        exact z_iret B (by unfold kRec; rw [if_pos (by omega)]) dX8_record_31
      · skip
        refine z_il C hl 4 rfl dX8_record_21 ?_
        refine z_sRO C hP hl (c_X8_isFact (σ := σ) ea (by omega))  wg_521 wg_1 wg_519 wg_520 cw_X8_isFact ⟨Nat.le_of_ble_eq_true rfl, Nat.le_of_ble_eq_true rfl⟩ rfl rfl (Nat.le_of_ble_eq_true rfl) dX8_record_23 ?_
        refine z_bif_ne C 32 (by decide) dX8_record_26 (fun w4 => ?_) (fun w4 => ?_)
        · skip
          refine z_aln C hl 0 rfl dX8_record_32 ?_
          refine gf_X8_40 C hP dX8_record_33 ?_
          refine gf_X8_214 C hP dX8_record_36 ?_
          refine z_if_ne C 45 (by decide) (by omega) dX8_record_39 (fun w5 => ?_) (fun w5 => ?_)
          · skip
            refine z_ic C dX8_record_45 ?_
            refine z_ist C hl [(5, .int (zI 0)), (0, .ref (q 0)), (1, .int (zI t)), (2, .int (zI w)), (3, .int (zI h)), (4, .int (zI ea))] (by decide) rfl dX8_record_46 (fun ls hl => ?_)
            have L48 : ∀ (n : Nat) (i : Int)  , σ 5 4 - i < (n : Int) → (0 ≤ i ∧ i ≤ σ 5 4) → (kRec σ t w h ea = kRecF σ t w h ea (σ 5 4 - i).toNat i) → ∀ ls : Array Slot, lv_has ls 7 [(0, .ref (q 0)), (1, .int (zI t)), (2, .int (zI w)), (3, .int (zI h)), (4, .int (zI ea)), (5, .int (zI i))] → WO p l e 2 42 s m args below meth c (some (.int (zI (kRec σ t w h ea)))) (F0 m 48 ls []) := by
              intro n
              induction n with
              | zero => intro i hm hi he ls hl; exact False.elim (by omega)
              | succ n ih =>
                intro i hm hi he ls hl
                have ih48 := ih; clear ih
                refine z_il C hl 5 rfl dX8_record_48 ?_
                refine z_aln C hl 0 rfl dX8_record_50 ?_
                refine gf_X8_40 C hP dX8_record_51 ?_
                refine gf_X8_214 C hP dX8_record_54 ?_
                refine z_icmp_ge C 103 (by decide) (by omega) (by omega) dX8_record_57 (fun w6 => ?_) (fun w6 => ?_)
                · skip
                  refine z_bp C dX8_record_103 rfl ?_
                  exact z_iret B (by rw [he, show (σ 5 4 - i).toNat = 0 by omega]; rfl) dX8_record_105
                · skip
                  rw [show (σ 5 4 - i).toNat = (σ 5 4 - (i + 1)).toNat + 1 by omega, kRecF] at he
                  have hv := hL.2 i.toNat (by omega)
                  have hcb := kCh_b (f := σ 19 i.toNat) (t := t) (w := w) (h := h) (e := ea) (by omega)
                  refine z_aln C hl 0 rfl dX8_record_60 ?_
                  refine gf_X8_40 C hP dX8_record_61 ?_
                  refine gf_X8_218 C hP dX8_record_64 ?_
                  refine z_il C hl 5 rfl dX8_record_67 ?_
                  refine z_iald C hP (i := 19) (by decide) (fun _ => rfl) (by omega) (by decide) dX8_record_69 ?_
                  refine z_iln C hl 1 rfl dX8_record_70 ?_
                  refine z_iln C hl 2 rfl dX8_record_71 ?_
                  refine z_iln C hl 3 rfl dX8_record_72 ?_
                  refine z_il C hl 4 rfl dX8_record_73 ?_
                  refine z_sRO C hP hl (c_X8_chosen (σ := σ) (σ 19 i.toNat) t w h ea (by omega) (by omega) (by omega) (by omega) (by omega))  wg_524 wg_1 wg_522 wg_523 cw_X8_chosen ⟨Nat.le_of_ble_eq_true rfl, Nat.le_of_ble_eq_true rfl⟩ rfl rfl (Nat.le_of_ble_eq_true rfl) dX8_record_75 ?_
                  refine z_ist C hl [(6, .int (zI (kCh (σ 19 i.toNat) t w h ea))), (0, .ref (q 0)), (1, .int (zI t)), (2, .int (zI w)), (3, .int (zI h)), (4, .int (zI ea)), (5, .int (zI i))] (by decide) rfl dX8_record_78 (fun ls hl => ?_)
                  refine z_aln C hl 1 rfl dX8_record_80 ?_
                  refine gf_X8_40 C hP dX8_record_81 ?_
                  refine z_il C hl 6 rfl dX8_record_84 ?_
                  refine z_il C hl 0 rfl dX8_record_86 ?_
                  refine z_vRO C hP hl (c_X0_isSo (σ := σ) i (kCh (σ 19 i.toNat) t w h ea) hL (by omega) (by omega)) (z_recv C hP (i := 5) (by decide) rfl (ci := 0) rfl) wg_528 wg_8 wg_525 wg_526 wg_527 cw_X0_isSo ⟨Nat.le_of_ble_eq_true rfl, Nat.le_of_ble_eq_true rfl⟩ rfl rfl (Nat.le_of_ble_eq_true rfl) dX8_record_88 ?_
                  refine z_bif_ne C 97 (by decide) dX8_record_91 (fun w7 => ?_) (fun w7 => ?_)
                  · skip
                    refine z_iinc C hl 6 rfl [(5, .int (zI (i + 1))), (6, .int (zI (kCh (σ 19 i.toNat) t w h ea))), (0, .ref (q 0)), (1, .int (zI t)), (2, .int (zI w)), (3, .int (zI h)), (4, .int (zI ea))] (by decide) rfl dX8_record_97 (fun ls hl => ?_)
                    refine z_goto C 48 (by decide) dX8_record_100 ?_
                    exact ih48 (i + 1) (by omega) (by omega) (by rw [he, if_pos w7]) ls (lv_sub hl [2, 3, 4, 5, 6, 0] rfl)
                  · skip
                    refine z_il C hl 6 rfl dX8_record_94 ?_
                    exact z_iret B (by rw [he, if_neg w7]) dX8_record_96
            exact L48 ((σ 5 4 - 0 : Int).toNat + 1) 0 (by omega) (by omega) (by rw [Int.sub_zero]; unfold kRec; rw [if_neg (by omega), if_neg (by omega)]) ls (lv_sub hl [1, 2, 3, 4, 5, 0] rfl)
          · skip
            refine z_bp C dX8_record_42 rfl ?_
            exact z_iret B (by unfold kRec; rw [if_neg (by omega), if_pos (by omega)]) dX8_record_44
        · skip
          refine z_bp C dX8_record_29 rfl ?_
          exact z_iret B (by unfold kRec; rw [if_pos (by omega)]) dX8_record_31
