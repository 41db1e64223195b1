set_option maxHeartbeats 4000000 in
set_option maxRecDepth 100000 in
theorem c_X9_isFact {l : Launch} {D : va_G} {q : Nat → Nat} {g : Nat → ClassId} {σ : Mem} (sg : Int) (hr_sg : zR sg) : RO l yX9_isFact cX9_isFact 1 (some .boolean) 0 0 D q g σ [.int (zI sg)] (some (.int (zI (bz (isF sg))))) := by
  refine RO.intro (plainFor_of_name (by decide)) (Nat.le_of_ble_eq_true rfl) (fun p e s m args below meth c ls B hP hl => ?_)
  have C := B.1
  have hl : lv_has ls 1 [(0, .int (zI sg))] := hl
  refine z_iln C hl 0 rfl dX9_isFact_0 ?_
  refine z_bp C dX9_isFact_1 rfl ?_
  refine z_icmp_eq C 24 (by decide) (by omega) (by omega) dX9_isFact_3 (fun w1 => ?_) (fun w1 => ?_)
  · skip
    refine z_ic C dX9_isFact_24 ?_
    refine z_goto C 29 (by decide) dX9_isFact_25 ?_
    exact z_bret1 B (by omega) dX9_isFact_29
  · skip
    refine z_iln C hl 0 rfl dX9_isFact_6 ?_
    refine z_bp C dX9_isFact_7 rfl ?_
    refine z_icmp_eq C 24 (by decide) (by omega) (by omega) dX9_isFact_9 (fun w2 => ?_) (fun w2 => ?_)
    · skip
      refine z_ic C dX9_isFact_24 ?_
      refine z_goto C 29 (by decide) dX9_isFact_25 ?_
      exact z_bret1 B (by omega) dX9_isFact_29
    · skip
      refine z_iln C hl 0 rfl dX9_isFact_12 ?_
      refine z_bp C dX9_isFact_13 rfl ?_
      refine z_icmp_eq C 24 (by decide) (by omega) (by omega) dX9_isFact_15 (fun w3 => ?_) (fun w3 => ?_)
      · skip
        refine z_ic C dX9_isFact_24 ?_
        refine z_goto C 29 (by decide) dX9_isFact_25 ?_
        exact z_bret1 B (by omega) dX9_isFact_29
      · skip
        refine z_iln C hl 0 rfl dX9_isFact_18 ?_
        refine z_bp C dX9_isFact_19 rfl ?_
        refine z_icmp_ne C 28 (by decide) (by omega) (by omega) dX9_isFact_21 (fun w4 => ?_) (fun w4 => ?_)
        · skip
          refine z_ic C dX9_isFact_28 ?_
          exact z_bret0 B (by omega) dX9_isFact_29
        · skip
          refine z_ic C dX9_isFact_24 ?_
          refine z_goto C 29 (by decide) dX9_isFact_25 ?_
          exact z_bret1 B (by omega) dX9_isFact_29

set_option maxHeartbeats 4000000 in
set_option maxRecDepth 100000 in
theorem c_X9_isHow {l : Launch} {D : va_G} {q : Nat → Nat} {g : Nat → ClassId} {σ : Mem} (sg : Int) (hr_sg : zR sg) : RO l yX9_isHow cX9_isHow 1 (some .boolean) 0 0 D q g σ [.int (zI sg)] (some (.int (zI (bz (isH sg))))) := by
  refine RO.intro (plainFor_of_name (by decide)) (Nat.le_of_ble_eq_true rfl) (fun p e s m args below meth c ls B hP hl => ?_)
  have C := B.1
  have hl : lv_has ls 1 [(0, .int (zI sg))] := hl
  refine z_iln C hl 0 rfl dX9_isHow_0 ?_
  refine z_bp C dX9_isHow_1 rfl ?_
  refine z_icmp_eq C 18 (by decide) (by omega) (by omega) dX9_isHow_3 (fun w1 => ?_) (fun w1 => ?_)
  · skip
    refine z_ic C dX9_isHow_18 ?_
    refine z_goto C 23 (by decide) dX9_isHow_19 ?_
    exact z_bret1 B (by omega) dX9_isHow_23
  · skip
    refine z_iln C hl 0 rfl dX9_isHow_6 ?_
    refine z_bp C dX9_isHow_7 rfl ?_
    refine z_icmp_eq C 18 (by decide) (by omega) (by omega) dX9_isHow_9 (fun w2 => ?_) (fun w2 => ?_)
    · skip
      refine z_ic C dX9_isHow_18 ?_
      refine z_goto C 23 (by decide) dX9_isHow_19 ?_
      exact z_bret1 B (by omega) dX9_isHow_23
    · skip
      refine z_iln C hl 0 rfl dX9_isHow_12 ?_
      refine z_bp C dX9_isHow_13 rfl ?_
      refine z_icmp_ne C 22 (by decide) (by omega) (by omega) dX9_isHow_15 (fun w3 => ?_) (fun w3 => ?_)
      · skip
        refine z_ic C dX9_isHow_22 ?_
        exact z_bret0 B (by omega) dX9_isHow_23
      · skip
        refine z_ic C dX9_isHow_18 ?_
        refine z_goto C 23 (by decide) dX9_isHow_19 ?_
        exact z_bret1 B (by omega) dX9_isHow_23

set_option maxHeartbeats 4000000 in
set_option maxRecDepth 100000 in
theorem c_X9_stepOf {l : Launch} {D : va_G} {q : Nat → Nat} {g : Nat → ClassId} {σ : Mem} (st sg : Int) (hr_st : zR st) (hr_sg : zR sg) : RO l yX9_stepOf cX9_stepOf 3 (some .int) 1 25 D q g σ [.int (zI st), .int (zI sg)] (some (.int (zI (tStep st sg)))) := by
  refine RO.intro (plainFor_of_name (by decide)) (Nat.le_of_ble_eq_true rfl) (fun p e s m args below meth c ls B hP hl => ?_)
  have C := B.1
  have hl : lv_has ls 3 [(0, .int (zI st)), (1, .int (zI sg))] := hl
  refine z_iln C hl 1 rfl dX9_stepOf_0 ?_
  refine z_i2l C (by omega) dX9_stepOf_1 ?_
  refine z_ldc2 C (n := 48) wg_857 (by decide) dX9_stepOf_2 ?_
  refine z_ldc2 C (n := 57) wg_858 (by decide) dX9_stepOf_5 ?_
  refine z_sRO C hP hl (c_X9_in (σ := σ) sg 48 57 (by omega) (by omega) (by omega))  wg_679 wg_10 wg_677 wg_678 cw_X9_in ⟨Nat.le_of_ble_eq_true rfl, Nat.le_of_ble_eq_true rfl⟩ rfl rfl (Nat.le_of_ble_eq_true rfl) dX9_stepOf_8 ?_
  refine z_isn C hl [(2, .int (zI (bz (48 ≤ sg ∧ sg ≤ 57)))), (0, .int (zI st)), (1, .int (zI sg))] (by decide) rfl dX9_stepOf_11 (fun ls hl => ?_)
  refine z_iln C hl 1 rfl dX9_stepOf_12 ?_
  by_cases hc1 : st = 0
  · refine z_tsI C 0 (by omega) (by omega) rfl 44 (by decide) dX9_stepOf_13 ?_
    refine z_iln C hl 2 rfl dX9_stepOf_44 ?_
    refine z_sRO C hP hl (c_X9_isFact (σ := σ) sg (by omega))  wg_861 wg_10 wg_859 wg_860 cw_X9_isFact ⟨Nat.le_of_ble_eq_true rfl, Nat.le_of_ble_eq_true rfl⟩ rfl rfl (Nat.le_of_ble_eq_true rfl) dX9_stepOf_45 ?_
    refine z_bif_eq C 55 (by decide) dX9_stepOf_48 (fun w2 => ?_) (fun w2 => ?_)
    · skip
      refine z_ic C dX9_stepOf_55 ?_
      exact z_iret B (by unfold tStep; rw [if_pos (by omega)]; split <;> (try split) <;> omega) dX9_stepOf_56
    · skip
      refine z_ic C dX9_stepOf_51 ?_
      refine z_goto C 56 (by decide) dX9_stepOf_52 ?_
      exact z_iret B (by unfold tStep; rw [if_pos (by omega)]; split <;> (try split) <;> omega) dX9_stepOf_56
  by_cases hc3 : st = 1
  · refine z_tsI C 1 (by omega) (by omega) rfl 57 (by decide) dX9_stepOf_13 ?_
    refine z_iln C hl 2 rfl dX9_stepOf_57 ?_
    refine z_sRO C hP hl (c_X9_isHow (σ := σ) sg (by omega))  wg_864 wg_10 wg_862 wg_863 cw_X9_isHow ⟨Nat.le_of_ble_eq_true rfl, Nat.le_of_ble_eq_true rfl⟩ rfl rfl (Nat.le_of_ble_eq_true rfl) dX9_stepOf_58 ?_
    refine z_bif_eq C 68 (by decide) dX9_stepOf_61 (fun w4 => ?_) (fun w4 => ?_)
    · skip
      refine z_ic C dX9_stepOf_68 ?_
      exact z_iret B (by unfold tStep; rw [if_neg (by omega), if_pos (by omega)]; split <;> (try split) <;> omega) dX9_stepOf_69
    · skip
      refine z_ic C dX9_stepOf_64 ?_
      refine z_goto C 69 (by decide) dX9_stepOf_65 ?_
      exact z_iret B (by unfold tStep; rw [if_neg (by omega), if_pos (by omega)]; split <;> (try split) <;> omega) dX9_stepOf_69
  by_cases hc5 : st = 2
  · refine z_tsI C 2 (by omega) (by omega) rfl 70 (by decide) dX9_stepOf_13 ?_
    refine z_iln C hl 2 rfl dX9_stepOf_70 ?_
    refine z_bp C dX9_stepOf_71 rfl ?_
    refine z_icmp_ne C 80 (by decide) (by omega) (by omega) dX9_stepOf_73 (fun w6 => ?_) (fun w6 => ?_)
    · skip
      refine z_iln C hl 0 rfl dX9_stepOf_80 ?_
      refine z_bif_eq C 88 (by decide) dX9_stepOf_81 (fun w7 => ?_) (fun w7 => ?_)
      · skip
        refine z_ic C dX9_stepOf_88 ?_
        exact z_iret B (by unfold tStep; rw [if_neg (by omega), if_neg (by omega), if_pos (by omega)]; split <;> (try split) <;> omega) dX9_stepOf_89
      · skip
        refine z_ic C dX9_stepOf_84 ?_
        refine z_goto C 89 (by decide) dX9_stepOf_85 ?_
        exact z_iret B (by unfold tStep; rw [if_neg (by omega), if_neg (by omega), if_pos (by omega)]; split <;> (try split) <;> omega) dX9_stepOf_89
    · skip
      refine z_ic C dX9_stepOf_76 ?_
      refine z_goto C 89 (by decide) dX9_stepOf_77 ?_
      exact z_iret B (by unfold tStep; rw [if_neg (by omega), if_neg (by omega), if_pos (by omega)]; split <;> (try split) <;> omega) dX9_stepOf_89
  by_cases hc8 : st = 3
  · refine z_tsI C 3 (by omega) (by omega) rfl 90 (by decide) dX9_stepOf_13 ?_
    refine z_iln C hl 0 rfl dX9_stepOf_90 ?_
    refine z_bif_eq C 98 (by decide) dX9_stepOf_91 (fun w9 => ?_) (fun w9 => ?_)
    · skip
      refine z_ic C dX9_stepOf_98 ?_
      exact z_iret B (by unfold tStep; rw [if_neg (by omega), if_neg (by omega), if_neg (by omega), if_pos (by omega)]; split <;> (try split) <;> omega) dX9_stepOf_99
    · skip
      refine z_ic C dX9_stepOf_94 ?_
      refine z_goto C 99 (by decide) dX9_stepOf_95 ?_
      exact z_iret B (by unfold tStep; rw [if_neg (by omega), if_neg (by omega), if_neg (by omega), if_pos (by omega)]; split <;> (try split) <;> omega) dX9_stepOf_99
  refine z_tsO C (by omega) (by omega) 100 (by decide) dX9_stepOf_13 ?_
  refine z_iln C hl 2 rfl dX9_stepOf_100 ?_
  refine z_bp C dX9_stepOf_101 rfl ?_
  refine z_icmp_ne C 110 (by decide) (by omega) (by omega) dX9_stepOf_103 (fun w10 => ?_) (fun w10 => ?_)
  · skip
    refine z_iln C hl 0 rfl dX9_stepOf_110 ?_
    refine z_bif_eq C 126 (by decide) dX9_stepOf_111 (fun w11 => ?_) (fun w11 => ?_)
    · skip
      refine z_ic C dX9_stepOf_126 ?_
      exact z_iret B (by unfold tStep; rw [if_neg (show ¬ st = 0 by omega), if_neg (show ¬ st = 1 by omega), if_neg (show ¬ st = 2 by omega), if_neg (show ¬ st = 3 by omega)]; split <;> (try split) <;> omega) dX9_stepOf_127
    · skip
      refine z_iln C hl 1 rfl dX9_stepOf_114 ?_
      refine z_bp C dX9_stepOf_115 rfl ?_
      refine z_icmp_ge C 126 (by decide) (by omega) (by omega) dX9_stepOf_117 (fun w12 => ?_) (fun w12 => ?_)
      · skip
        refine z_ic C dX9_stepOf_126 ?_
        exact z_iret B (by unfold tStep; rw [if_neg (show ¬ st = 0 by omega), if_neg (show ¬ st = 1 by omega), if_neg (show ¬ st = 2 by omega), if_neg (show ¬ st = 3 by omega)]; split <;> (try split) <;> omega) dX9_stepOf_127
      · skip
        refine z_iln C hl 1 rfl dX9_stepOf_120 ?_
        refine z_ic C dX9_stepOf_121 ?_
        refine z_iadd C dX9_stepOf_122 ?_
        refine z_goto C 127 (by decide) dX9_stepOf_123 ?_
        exact z_iret B (by unfold tStep; rw [if_neg (show ¬ st = 0 by omega), if_neg (show ¬ st = 1 by omega), if_neg (show ¬ st = 2 by omega), if_neg (show ¬ st = 3 by omega)]; split <;> (try split) <;> omega) dX9_stepOf_127
  · skip
    refine z_ic C dX9_stepOf_106 ?_
    refine z_goto C 127 (by decide) dX9_stepOf_107 ?_
    exact z_iret B (by unfold tStep; rw [if_neg (show ¬ st = 0 by omega), if_neg (show ¬ st = 1 by omega), if_neg (show ¬ st = 2 by omega), if_neg (show ¬ st = 3 by omega)]; split <;> (try split) <;> omega) dX9_stepOf_127

set_option maxHeartbeats 4000000 in
set_option maxRecDepth 100000 in
theorem c_X9_fault {l : Launch} {D : va_G} {q : Nat → Nat} {g : Nat → ClassId} {σ : Mem} (hn2 : 0 ≤ σ 44 20 ∧ σ 44 20 ≤ 30) (hs2 : ∀ i : Nat, (i : Int) < σ 44 20 → 33 ≤ σ 56 i ∧ σ 56 i ≤ 126) : RO l yX9_fault cX9_fault 3 (some .int) 2 47 D q g σ [.ref (q 44)] (some (.int (zI (tFF (σ 56) (σ 44 20).toNat 0 0)))) := by
  refine RO.intro (plainFor_of_name (by decide)) (Nat.le_of_ble_eq_true rfl) (fun p e s m args below meth c ls B hP hl => ?_)
  have C := B.1
  have hl : lv_has ls 3 [(0, .ref (q 44))] := hl
  refine z_ic C dX9_fault_0 ?_
  refine z_isn C hl [(1, .int (zI 0)), (0, .ref (q 44))] (by decide) rfl dX9_fault_1 (fun ls hl => ?_)
  refine z_ic C dX9_fault_2 ?_
  refine z_isn C hl [(2, .int (zI 0)), (1, .int (zI 0)), (0, .ref (q 44))] (by decide) rfl dX9_fault_3 (fun ls hl => ?_)
  have L4 : ∀ (n : Nat) (st : Int) (i : Int)  , σ 44 20 - i < (n : Int) → (0 ≤ i ∧ i ≤ σ 44 20) → (0 ≤ st ∧ st ≤ 7) → (tFF (σ 56) (σ 44 20).toNat 0 0 = tFF (σ 56) (σ 44 20 - i).toNat i st) → ∀ ls : Array Slot, lv_has ls 3 [(0, .ref (q 44)), (1, .int (zI st)), (2, .int (zI i))] → WO p l e 2 47 s m args below meth c (some (.int (zI (tFF (σ 56) (σ 44 20).toNat 0 0)))) (F0 m 4 ls []) := by
    intro n
    induction n with
    | zero => intro st i hm hi hst he ls hl; exact False.elim (by omega)
    | succ n ih =>
      intro st i hm hi hst he ls hl
      have ih4 := ih; clear ih
      refine z_iln C hl 2 rfl dX9_fault_4 ?_
      refine z_aln C hl 0 rfl dX9_fault_5 ?_
      refine gf_X9_198 C hP dX9_fault_6 ?_
      refine z_icmp_ge C 35 (by decide) (by omega) (by omega) dX9_fault_9 (fun w1 => ?_) (fun w1 => ?_)
      · skip
        refine z_iln C hl 1 rfl dX9_fault_35 ?_
        refine z_ic C dX9_fault_36 ?_
        refine z_icmp_le C 45 (by decide) (by omega) (by omega) dX9_fault_37 (fun w2 => ?_) (fun w2 => ?_)
        · skip
          refine z_aln C hl 0 rfl dX9_fault_45 ?_
          refine gf_X9_198 C hP dX9_fault_46 ?_
          exact z_iret B (by rw [he, show (σ 44 20 - i).toNat = 0 by omega, tFF, if_neg (by omega)]; omega) dX9_fault_49
        · skip
          refine z_bp C dX9_fault_40 rfl ?_
          refine z_goto C 49 (by decide) dX9_fault_42 ?_
          exact z_iret B (by rw [he, show (σ 44 20 - i).toNat = 0 by omega, tFF, if_pos (by omega)]) dX9_fault_49
      · skip
        rw [show (σ 44 20 - i).toNat = (σ 44 20 - (i + 1)).toNat + 1 by omega] at he
        conv at he => rhs; rw [tFF]
        have hv := hs2 i.toNat (by omega)
        have hb := tStep_b (c := σ 56 i.toNat) hst
        refine z_iln C hl 1 rfl dX9_fault_12 ?_
        refine z_aln C hl 0 rfl dX9_fault_13 ?_
        refine gf_X9_44 C hP dX9_fault_14 ?_
        refine z_iln C hl 2 rfl dX9_fault_17 ?_
        refine z_iald C hP (i := 56) (by decide) (fun _ => rfl) (by omega) (by decide) dX9_fault_18 ?_
        refine z_sRO C hP hl (c_X9_stepOf (σ := σ) st (σ 56 i.toNat) (by omega) (by omega))  wg_856 wg_10 wg_854 wg_855 cw_X9_stepOf ⟨Nat.le_of_ble_eq_true rfl, Nat.le_of_ble_eq_true rfl⟩ rfl rfl (Nat.le_of_ble_eq_true rfl) dX9_fault_19 ?_
        refine z_isn C hl [(1, .int (zI (tStep st (σ 56 i.toNat)))), (0, .ref (q 44)), (2, .int (zI i))] (by decide) rfl dX9_fault_22 (fun ls hl => ?_)
        refine z_iln C hl 0 rfl dX9_fault_23 ?_
        refine z_if_ge C 29 (by decide) (by omega) dX9_fault_24 (fun w3 => ?_) (fun w3 => ?_)
        · skip
          refine z_iinc C hl 2 rfl [(2, .int (zI (i + 1))), (1, .int (zI (tStep st (σ 56 i.toNat)))), (0, .ref (q 44))] (by decide) rfl dX9_fault_29 (fun ls hl => ?_)
          refine z_goto C 4 (by decide) dX9_fault_32 ?_
          exact ih4 (tStep st (σ 56 i.toNat)) (i + 1) (by omega) (by omega) (by omega) (by rw [he, if_neg (by omega)]) ls (lv_sub hl [2, 1, 0] rfl)
        · skip
          refine z_iln C hl 2 rfl dX9_fault_27 ?_
          exact z_iret B (by rw [he, if_pos (by omega)]) dX9_fault_28
  exact L4 ((σ 44 20 - 0 : Int).toNat + 1) 0 0 (by omega) (by omega) (by omega) (by rw [Int.sub_zero]) ls (lv_sub hl [2, 1, 0] rfl)

set_option maxHeartbeats 4000000 in
set_option maxRecDepth 100000 in
theorem c_X9_say {l : Launch} {D : va_G} {q : Nat → Nat} {g : Nat → ClassId} {σ : Mem} (hq : qok q) (sg : Int) (hn2 : 0 ≤ σ 44 20 ∧ σ 44 20 ≤ 30) (hr_sg : zR sg) : RW l yX9_say cX9_say 2 (some .int) 1 25 D q g σ [.ref (q 44), .int (zI sg)] vI (fun r τ => if ¬ (33 ≤ sg ∧ sg ≤ 126) then r = -2 ∧ τ = σ else if 30 ≤ σ 44 20 then r = -4 ∧ τ = σ else r = σ 44 20 + 1 ∧ τ = um (um σ 56 (σ 44 20).toNat sg) 44 20 (σ 44 20 + 1)) := by
  refine RW.intro (plainFor_of_name (by decide)) (Nat.le_of_ble_eq_true rfl) (fun p e s m args below meth c ls B hP hS hl => ?_)
  have C := B.1
  have hl : lv_has ls 2 [(0, .ref (q 44)), (1, .int (zI sg))] := hl
  refine z_iln C hl 1 rfl dX9_say_0 ?_
  refine z_i2l C (by omega) dX9_say_1 ?_
  refine z_ldc2 C (n := 33) wg_844 (by decide) dX9_say_2 ?_
  refine z_ldc2 C (n := 126) wg_845 (by decide) dX9_say_5 ?_
  refine z_sRO C hP hl (c_X9_in (σ := σ) sg 33 126 (by omega) (by omega) (by omega))  wg_679 wg_10 wg_677 wg_678 cw_X9_in ⟨Nat.le_of_ble_eq_true rfl, Nat.le_of_ble_eq_true rfl⟩ rfl rfl (Nat.le_of_ble_eq_true rfl) dX9_say_8 ?_
  refine z_bif_ne C 17 (by decide) dX9_say_11 (fun w1 => ?_) (fun w1 => ?_)
  · skip
    refine z_aln C hl 0 rfl dX9_say_17 ?_
    refine gf_X9_198 C hP dX9_say_18 ?_
    refine z_bp C dX9_say_21 rfl ?_
    refine z_icmp_ne C 29 (by decide) (by omega) (by omega) dX9_say_23 (fun w2 => ?_) (fun w2 => ?_)
    · skip
      refine z_aln C hl 0 rfl dX9_say_29 ?_
      refine gf_X9_44 C hP dX9_say_30 ?_
      refine z_aln C hl 0 rfl dX9_say_33 ?_
      refine gf_X9_198 C hP dX9_say_34 ?_
      refine z_iln C hl 1 rfl dX9_say_37 ?_
      refine z_iast C hq hP hS (i := 56) (by decide) (fun _ => rfl) (by omega) (by decide) dX9_say_38 (fun H locs hP hS => ?_)
      refine z_aln C hl 0 rfl dX9_say_39 ?_
      refine z_dup C rfl dX9_say_40 ?_
      refine gf_X9_198 C hP dX9_say_41 ?_
      refine z_tope (b := σ 44 20) (by unfold um; rw [if_neg (by omega)]) ?_
      refine z_ic C dX9_say_44 ?_
      refine z_iadd C dX9_say_45 ?_
      refine pf_X9_198 C hq hP hS dX9_say_46 (fun H locs hP hS => ?_)
      refine z_aln C hl 0 rfl dX9_say_49 ?_
      refine gf_X9_198 C hP dX9_say_50 ?_
      refine z_tope (b := (σ 44 20) + 1) (by unfold um; rw [if_pos ⟨rfl, rfl⟩]) ?_
      exact z_iretW B hP hS (by rw [if_neg (by omega), if_neg (by omega)]; exact ⟨rfl, rfl⟩) dX9_say_53
    · skip
      refine z_bp C dX9_say_26 rfl ?_
      exact z_iretW B hP hS (by rw [if_neg (by omega), if_pos (by omega)]; exact ⟨rfl, rfl⟩) dX9_say_28
  · skip
    refine z_bp C dX9_say_14 rfl ?_
    exact z_iretW B hP hS (by rw [if_pos (by omega)]; exact ⟨rfl, rfl⟩) dX9_say_16

set_option maxHeartbeats 4000000 in
set_option maxRecDepth 100000 in
theorem c_X9_wipe {l : Launch} {D : va_G} {q : Nat → Nat} {g : Nat → ClassId} {σ : Mem} (hq : qok q)  : RW l yX9_wipe cX9_wipe 2 (some .int) 0 0 D q g σ [.ref (q 44)] vI (fun r τ => r = σ 44 20 ∧ τ = um σ 44 20 0) := by
  refine RW.intro (plainFor_of_name (by decide)) (Nat.le_of_ble_eq_true rfl) (fun p e s m args below meth c ls B hP hS hl => ?_)
  have C := B.1
  have hl : lv_has ls 2 [(0, .ref (q 44))] := hl
  refine z_aln C hl 0 rfl dX9_wipe_0 ?_
  refine gf_X9_198 C hP dX9_wipe_1 ?_
  refine z_isn C hl [(1, .int (zI (σ 44 20))), (0, .ref (q 44))] (by decide) rfl dX9_wipe_4 (fun ls hl => ?_)
  refine z_aln C hl 1 rfl dX9_wipe_5 ?_
  refine z_ic C dX9_wipe_6 ?_
  refine pf_X9_198 C hq hP hS dX9_wipe_7 (fun H locs hP hS => ?_)
  refine z_iln C hl 0 rfl dX9_wipe_10 ?_
  exact z_iretW B hP hS ⟨rfl, rfl⟩ dX9_wipe_11

set_option maxHeartbeats 4000000 in
set_option maxRecDepth 100000 in
theorem c_X9_record {l : Launch} {D : va_G} {q : Nat → Nat} {g : Nat → ClassId} {σ : Mem} (t w h ea : Int) (hL : LI σ) (hML : ML σ) (hr_t : zR t) (hr_w : zR w) (hr_h : zR h) (hr_ea : zR ea) : RO l yX9_record cX9_record 9 (some .int) 2 45 D q g σ [.ref (q 44), .int (zI t), .int (zI w), .int (zI h), .int (zI ea)] (some (.int (zI (kRec σ t w h ea)))) := by
  refine RO.intro (plainFor_of_name (by decide)) (Nat.le_of_ble_eq_true rfl) (fun p e s m args below meth c ls B hP hl => ?_)
  have C := B.1
  have hl : lv_has ls 9 [(0, .ref (q 44)), (1, .int (zI t)), (2, .int (zI w)), (3, .int (zI h)), (4, .int (zI ea))] := hl
  have h1 := hL.1
  have hm0 := hML.1
  refine z_iln C hl 1 rfl dX9_record_0 ?_
  refine z_sRO C hP hl (c_X9_isNumber (σ := σ) t (by omega))  wg_876 wg_10 wg_874 wg_875 cw_X9_isNumber ⟨Nat.le_of_ble_eq_true rfl, Nat.le_of_ble_eq_true rfl⟩ rfl rfl (Nat.le_of_ble_eq_true rfl) dX9_record_1 ?_
  refine z_bif_eq C 29 (by decide) dX9_record_4 (fun w1 => ?_) (fun w1 => ?_)
  · skip
    refine z_bp C dX9_record_29 rfl ?_
    exact z_iret B (by unfold kRec; rw [if_pos (by omega)]) dX9_record_31
  · skip
    refine z_iln C hl 2 rfl dX9_record_7 ?_
    refine z_sRO C hP hl (c_X9_isNumber (σ := σ) w (by omega))  wg_876 wg_10 wg_874 wg_875 cw_X9_isNumber ⟨Nat.le_of_ble_eq_true rfl, Nat.le_of_ble_eq_true rfl⟩ rfl rfl (Nat.le_of_ble_eq_true rfl) dX9_record_8 ?_
    refine z_bif_eq C 29 (by decide) dX9_record_11 (fun w2 => ?_) (fun w2 => ?_)
    · skip
      refine z_bp C dX9_record_29 rfl ?_
      exact z_iret B (by unfold kRec; rw [if_pos (by omega)]) dX9_record_31
    · skip
      refine z_iln C hl 3 rfl dX9_record_14 ?_
      refine z_sRO C hP hl (c_X9_isNumber (σ := σ) h (by omega))  wg_876 wg_10 wg_874 wg_875 cw_X9_isNumber ⟨Nat.le_of_ble_eq_true rfl, Nat.le_of_ble_eq_true rfl⟩ rfl rfl (Nat.le_of_ble_eq_true rfl) dX9_record_15 ?_
      refine z_bif_eq C 29 (by decide) dX9_record_18 (fun w3 => ?_) (fun w3 => ?_)
      · skip
        refine z_bp C dX9_record_29 rfl ?_
        exact z_iret B (by unfold kRec; rw [if_pos (by omega)]) dX9_record_31
      · skip
        refine z_il C hl 4 rfl dX9_record_21 ?_
        refine z_sRO C hP hl (c_X9_isNumber (σ := σ) ea (by omega))  wg_876 wg_10 wg_874 wg_875 cw_X9_isNumber ⟨Nat.le_of_ble_eq_true rfl, Nat.le_of_ble_eq_true rfl⟩ rfl rfl (Nat.le_of_ble_eq_true rfl) dX9_record_23 ?_
        refine z_bif_ne C 32 (by decide) dX9_record_26 (fun w4 => ?_) (fun w4 => ?_)
        · skip
          refine z_aln C hl 0 rfl dX9_record_32 ?_
          refine gf_X9_217 C hP dX9_record_33 ?_
          refine z_if_ne C 42 (by decide) (by omega) dX9_record_36 (fun w5 => ?_) (fun w5 => ?_)
          · skip
            refine z_ic C dX9_record_42 ?_
            refine z_ist C hl [(5, .int (zI 0)), (0, .ref (q 44)), (1, .int (zI t)), (2, .int (zI w)), (3, .int (zI h)), (4, .int (zI ea))] (by decide) rfl dX9_record_43 (fun ls hl => ?_)
            have L45 : ∀ (n : Nat) (i : Int)  , σ 5 4 - i < (n : Int) → (0 ≤ i ∧ i ≤ σ 5 4) → (kRec σ t w h ea = kRecF σ t w h ea (σ 5 4 - i).toNat i) → ∀ ls : Array Slot, lv_has ls 9 [(0, .ref (q 44)), (1, .int (zI t)), (2, .int (zI w)), (3, .int (zI h)), (4, .int (zI ea)), (5, .int (zI i))] → WO p l e 2 45 s m args below meth c (some (.int (zI (kRec σ t w h ea)))) (F0 m 45 ls []) := by
              intro n
              induction n with
              | zero => intro i hm hi he ls hl; exact False.elim (by omega)
              | succ n ih =>
                intro i hm hi he ls hl
                have ih45 := ih; clear ih
                refine z_il C hl 5 rfl dX9_record_45 ?_
                refine z_aln C hl 0 rfl dX9_record_47 ?_
                refine gf_X9_217 C hP dX9_record_48 ?_
                refine z_icmp_ge C 197 (by decide) (by omega) (by omega) dX9_record_51 (fun w6 => ?_) (fun w6 => ?_)
                · skip
                  refine z_bp C dX9_record_197 rfl ?_
                  exact z_iret B (by rw [he, show (σ 5 4 - i).toNat = 0 by omega]; rfl) dX9_record_199
                · skip
                  rw [show (σ 5 4 - i).toNat = (σ 5 4 - (i + 1)).toNat + 1 by omega, kRecF] at he
                  have hv0 := hL.2 i.toNat (by omega)
                  have hm1 := hML.2 i.toNat (by omega)
                  have hb := lim_b hL (l := i.toNat) (by omega)
                  have hcb := kCh_b (f := σ 19 i.toNat) (t := t) (w := w) (h := h) (e := ea) (by omega)
                  refine z_aln C hl 0 rfl dX9_record_54 ?_
                  refine gf_X9_47 C hP dX9_record_55 ?_
                  refine z_il C hl 5 rfl dX9_record_58 ?_
                  refine z_iald C hP (i := 57) (by decide) (fun _ => rfl) (by omega) (by decide) dX9_record_60 ?_
                  refine z_ist C hl [(6, .int (zI (σ 57 i.toNat))), (0, .ref (q 44)), (1, .int (zI t)), (2, .int (zI w)), (3, .int (zI h)), (4, .int (zI ea)), (5, .int (zI i))] (by decide) rfl dX9_record_61 (fun ls hl => ?_)
                  have J98 : ∀  (v : Int) , (v = kCh (σ 19 i.toNat) t w h ea) → ∀ ls : Array Slot, lv_has ls 9 [(0, .ref (q 44)), (1, .int (zI t)), (2, .int (zI w)), (3, .int (zI h)), (4, .int (zI ea)), (5, .int (zI i)), (6, .int (zI (σ 57 i.toNat)))] → WO p l e 2 45 s m args below meth c (some (.int (zI (kRec σ t w h ea)))) (F0 m 98 ls [.int (zI v)]) := by
                    intro v hv ls hl
                    refine z_ist C hl [(7, .int (zI v)), (0, .ref (q 44)), (1, .int (zI t)), (2, .int (zI w)), (3, .int (zI h)), (4, .int (zI ea)), (5, .int (zI i)), (6, .int (zI (σ 57 i.toNat)))] (by decide) rfl dX9_record_98 (fun ls hl => ?_)
                    have J181 : ∀  (so : Int) , ((so = 1 ∧ kSo σ i.toNat (kCh (σ 19 i.toNat) t w h ea) = true) ∨ (so = 0 ∧ ¬ kSo σ i.toNat (kCh (σ 19 i.toNat) t w h ea) = true)) → ∀ ls : Array Slot, lv_has ls 9 [(0, .ref (q 44)), (1, .int (zI t)), (2, .int (zI w)), (3, .int (zI h)), (4, .int (zI ea)), (5, .int (zI i)), (6, .int (zI (σ 57 i.toNat))), (7, .int (zI v))] → WO p l e 2 45 s m args below meth c (some (.int (zI (kRec σ t w h ea)))) (F0 m 181 ls [.int (zI so)]) := by
                      intro so hso0 ls hl
                      refine z_ist C hl [(8, .int (zI so)), (0, .ref (q 44)), (1, .int (zI t)), (2, .int (zI w)), (3, .int (zI h)), (4, .int (zI ea)), (5, .int (zI i)), (6, .int (zI (σ 57 i.toNat))), (7, .int (zI v))] (by decide) rfl dX9_record_181 (fun ls hl => ?_)
                      refine z_il C hl 0 rfl dX9_record_183 ?_
                      refine z_if_ne C 191 (by decide) (by omega) dX9_record_185 (fun w7 => ?_) (fun w7 => ?_)
                      · skip
                        have hso : kSo σ i.toNat (kCh (σ 19 i.toNat) t w h ea) = true := (hso0.resolve_right (fun q => by omega)).2
                        refine z_iinc C hl 6 rfl [(5, .int (zI (i + 1))), (8, .int (zI so)), (0, .ref (q 44)), (1, .int (zI t)), (2, .int (zI w)), (3, .int (zI h)), (4, .int (zI ea)), (6, .int (zI (σ 57 i.toNat))), (7, .int (zI v))] (by decide) rfl dX9_record_191 (fun ls hl => ?_)
                        refine z_goto C 45 (by decide) dX9_record_194 ?_
                        exact ih45 (i + 1) (by omega) (by omega) (by rw [he, if_pos hso]) ls (lv_sub hl [2, 3, 4, 5, 6, 0] rfl)
                      · skip
                        have hso : ¬ kSo σ i.toNat (kCh (σ 19 i.toNat) t w h ea) = true := (hso0.resolve_left (fun q => by omega)).2
                        refine z_il C hl 6 rfl dX9_record_188 ?_
                        exact z_iret B (by rw [he, if_neg hso]) dX9_record_190
                    refine z_aln C hl 1 rfl dX9_record_100 ?_
                    refine gf_X9_50 C hP dX9_record_101 ?_
                    refine z_il C hl 6 rfl dX9_record_104 ?_
                    refine z_iald C hP (i := 58) (by decide) (fun _ => rfl) (by omega) (by decide) dX9_record_106 ?_
                    refine z_bp C dX9_record_107 rfl ?_
                    refine z_icmp_ne C 132 (by decide) (by omega) (by omega) dX9_record_109 (fun w8 => ?_) (fun w8 => ?_)
                    · skip
                      refine z_aln C hl 1 rfl dX9_record_132 ?_
                      refine gf_X9_50 C hP dX9_record_133 ?_
                      refine z_il C hl 6 rfl dX9_record_136 ?_
                      refine z_iald C hP (i := 58) (by decide) (fun _ => rfl) (by omega) (by decide) dX9_record_138 ?_
                      refine z_bp C dX9_record_139 rfl ?_
                      refine z_icmp_ne C 164 (by decide) (by omega) (by omega) dX9_record_141 (fun w9 => ?_) (fun w9 => ?_)
                      · skip
                        refine z_il C hl 0 rfl dX9_record_164 ?_
                        refine z_aln C hl 1 rfl dX9_record_166 ?_
                        refine gf_X9_53 C hP dX9_record_167 ?_
                        refine z_il C hl 6 rfl dX9_record_170 ?_
                        refine z_iald C hP (i := 59) (by decide) (fun _ => rfl) (by omega) (by decide) dX9_record_172 ?_
                        refine z_icmp_ne C 180 (by decide) (by omega) (by omega) dX9_record_173 (fun w10 => ?_) (fun w10 => ?_)
                        · skip
                          refine z_ic C dX9_record_180 ?_
                          exact J181 0 (Or.inr ⟨rfl, by rw [← hv]; unfold kSo; split <;> (try split) <;> simp <;> omega⟩) ls (lv_sub hl [1, 2, 3, 4, 5, 6, 7, 0] rfl)
                        · skip
                          refine z_ic C dX9_record_176 ?_
                          refine z_goto C 181 (by decide) dX9_record_177 ?_
                          exact J181 1 (Or.inl ⟨rfl, by rw [← hv]; unfold kSo; split <;> (try split) <;> simp <;> omega⟩) ls (lv_sub hl [1, 2, 3, 4, 5, 6, 7, 0] rfl)
                      · skip
                        refine z_il C hl 0 rfl dX9_record_144 ?_
                        refine z_aln C hl 1 rfl dX9_record_146 ?_
                        refine gf_X9_53 C hP dX9_record_147 ?_
                        refine z_il C hl 6 rfl dX9_record_150 ?_
                        refine z_iald C hP (i := 59) (by decide) (fun _ => rfl) (by omega) (by decide) dX9_record_152 ?_
                        refine z_icmp_le C 160 (by decide) (by omega) (by omega) dX9_record_153 (fun w11 => ?_) (fun w11 => ?_)
                        · skip
                          refine z_ic C dX9_record_160 ?_
                          refine z_goto C 181 (by decide) dX9_record_161 ?_
                          exact J181 0 (Or.inr ⟨rfl, by rw [← hv]; unfold kSo; split <;> (try split) <;> simp <;> omega⟩) ls (lv_sub hl [1, 2, 3, 4, 5, 6, 7, 0] rfl)
                        · skip
                          refine z_ic C dX9_record_156 ?_
                          refine z_goto C 181 (by decide) dX9_record_157 ?_
                          exact J181 1 (Or.inl ⟨rfl, by rw [← hv]; unfold kSo; split <;> (try split) <;> simp <;> omega⟩) ls (lv_sub hl [1, 2, 3, 4, 5, 6, 7, 0] rfl)
                    · skip
                      refine z_il C hl 0 rfl dX9_record_112 ?_
                      refine z_aln C hl 1 rfl dX9_record_114 ?_
                      refine gf_X9_53 C hP dX9_record_115 ?_
                      refine z_il C hl 6 rfl dX9_record_118 ?_
                      refine z_iald C hP (i := 59) (by decide) (fun _ => rfl) (by omega) (by decide) dX9_record_120 ?_
                      refine z_icmp_ge C 128 (by decide) (by omega) (by omega) dX9_record_121 (fun w12 => ?_) (fun w12 => ?_)
                      · skip
                        refine z_ic C dX9_record_128 ?_
                        refine z_goto C 181 (by decide) dX9_record_129 ?_
                        exact J181 0 (Or.inr ⟨rfl, by rw [← hv]; unfold kSo; split <;> (try split) <;> simp <;> omega⟩) ls (lv_sub hl [1, 2, 3, 4, 5, 6, 7, 0] rfl)
                      · skip
                        refine z_ic C dX9_record_124 ?_
                        refine z_goto C 181 (by decide) dX9_record_125 ?_
                        exact J181 1 (Or.inl ⟨rfl, by rw [← hv]; unfold kSo; split <;> (try split) <;> simp <;> omega⟩) ls (lv_sub hl [1, 2, 3, 4, 5, 6, 7, 0] rfl)
                  refine z_il C hl 0 rfl dX9_record_63 ?_
                  refine z_bp C dX9_record_65 rfl ?_
                  refine z_icmp_ne C 74 (by decide) (by omega) (by omega) dX9_record_67 (fun w13 => ?_) (fun w13 => ?_)
                  · skip
                    refine z_il C hl 0 rfl dX9_record_74 ?_
                    refine z_bp C dX9_record_76 rfl ?_
                    refine z_icmp_ne C 85 (by decide) (by omega) (by omega) dX9_record_78 (fun w14 => ?_) (fun w14 => ?_)
                    · skip
                      refine z_il C hl 0 rfl dX9_record_85 ?_
                      refine z_bp C dX9_record_87 rfl ?_
                      refine z_icmp_ne C 96 (by decide) (by omega) (by omega) dX9_record_89 (fun w15 => ?_) (fun w15 => ?_)
                      · skip
                        refine z_il C hl 5 rfl dX9_record_96 ?_
                        exact J98 ea (by unfold kCh; split <;> (try split) <;> (try split) <;> omega) ls (lv_sub hl [1, 2, 3, 4, 5, 6, 0] rfl)
                      · skip
                        refine z_iln C hl 4 rfl dX9_record_92 ?_
                        refine z_goto C 98 (by decide) dX9_record_93 ?_
                        exact J98 h (by unfold kCh; split <;> (try split) <;> (try split) <;> omega) ls (lv_sub hl [1, 2, 3, 4, 5, 6, 0] rfl)
                    · skip
                      refine z_iln C hl 3 rfl dX9_record_81 ?_
                      refine z_goto C 98 (by decide) dX9_record_82 ?_
                      exact J98 w (by unfold kCh; split <;> (try split) <;> (try split) <;> omega) ls (lv_sub hl [1, 2, 3, 4, 5, 6, 0] rfl)
                  · skip
                    refine z_iln C hl 2 rfl dX9_record_70 ?_
                    refine z_goto C 98 (by decide) dX9_record_71 ?_
                    exact J98 t (by unfold kCh; split <;> (try split) <;> (try split) <;> omega) ls (lv_sub hl [1, 2, 3, 4, 5, 6, 0] rfl)
            exact L45 ((σ 5 4 - 0 : Int).toNat + 1) 0 (by omega) (by omega) (by rw [Int.sub_zero]; unfold kRec; rw [if_neg (by omega), if_neg (by omega)]) ls (lv_sub hl [1, 2, 3, 4, 5, 0] rfl)
          · skip
            refine z_bp C dX9_record_39 rfl ?_
            exact z_iret B (by unfold kRec; rw [if_neg (by omega), if_pos (by omega)]) dX9_record_41
        · skip
          refine z_bp C dX9_record_29 rfl ?_
          exact z_iret B (by unfold kRec; rw [if_pos (by omega)]) dX9_record_31
