set_option maxHeartbeats 4000000 in
set_option maxRecDepth 100000 in
theorem c_J9_floorDiv_7cf53 {l : Launch} {D : va_G} {q : Nat → Nat} {g : Nat → ClassId} {σ : Mem} (a b : Int) (hr_a : zR a) (hr_b : zR b) (hb1 : 1 ≤ b) : RO l yJ9_floorDiv_7cf53 cJ9_floorDiv_7cf53 3 (some .int) 0 0 D q g σ [.int (zI a), .int (zI b)] (some (.int (zI (a / b)))) := by
  refine RO.intro (by decide +kernel) (Nat.le_of_ble_eq_true rfl) (fun p e s m args below meth c ls B hP hl => ?_)
  have C := B.1
  have hl : lv_has ls 3 [(0, .int (zI a)), (1, .int (zI b))] := hl
  have hfd := fdiv_t a hb1
  refine z_iln C hl 0 rfl dJ9_floorDiv_7cf53_0 ?_
  refine z_iln C hl 1 rfl dJ9_floorDiv_7cf53_1 ?_
  refine z_idiv C (by omega) (by omega) (by omega) dJ9_floorDiv_7cf53_2 ?_
  refine z_isn C hl [(2, .int (zI (a.tdiv b))), (0, .int (zI a)), (1, .int (zI b))] (by decide) rfl dJ9_floorDiv_7cf53_3 (fun ls hl => ?_)
  refine z_iln C hl 1 rfl dJ9_floorDiv_7cf53_4 ?_
  refine z_iln C hl 2 rfl dJ9_floorDiv_7cf53_5 ?_
  refine z_ixor_ge C 21 (by decide) (xor_neg hr_a hr_b hb1) dJ9_floorDiv_7cf53_6 dJ9_floorDiv_7cf53_7 (fun w1 => ?_) (fun w1 => ?_)
  · skip
    refine z_iln C hl 0 rfl dJ9_floorDiv_7cf53_21 ?_
    exact z_iret B (by first | rfl | omega) dJ9_floorDiv_7cf53_22
  · skip
    refine z_iln C hl 0 rfl dJ9_floorDiv_7cf53_10 ?_
    refine z_iln C hl 2 rfl dJ9_floorDiv_7cf53_11 ?_
    refine z_imul C dJ9_floorDiv_7cf53_12 ?_
    refine z_iln C hl 1 rfl dJ9_floorDiv_7cf53_13 ?_
    refine z_icmp_eq C 21 (by decide) (by omega) (by omega) dJ9_floorDiv_7cf53_14 (fun w2 => ?_) (fun w2 => ?_)
    · skip
      refine z_iln C hl 0 rfl dJ9_floorDiv_7cf53_21 ?_
      exact z_iret B (by first | rfl | omega) dJ9_floorDiv_7cf53_22
    · skip
      refine z_iln C hl 0 rfl dJ9_floorDiv_7cf53_17 ?_
      refine z_ic C dJ9_floorDiv_7cf53_18 ?_
      refine z_isub C dJ9_floorDiv_7cf53_19 ?_
      exact z_iret B (by first | rfl | omega) dJ9_floorDiv_7cf53_20

set_option maxHeartbeats 4000000 in
set_option maxRecDepth 100000 in
theorem c_J9_max_7cf53 {l : Launch} {D : va_G} {q : Nat → Nat} {g : Nat → ClassId} {σ : Mem} (a b : Int) (hr_a : zR a) (hr_b : zR b) : RO l yJ9_max_7cf53 cJ9_max_7cf53 2 (some .int) 0 0 D q g σ [.int (zI a), .int (zI b)] (some (.int (zI (max a b)))) := by
  refine RO.intro (by decide +kernel) (Nat.le_of_ble_eq_true rfl) (fun p e s m args below meth c ls B hP hl => ?_)
  have C := B.1
  have hl : lv_has ls 2 [(0, .int (zI a)), (1, .int (zI b))] := hl
  refine z_iln C hl 0 rfl dJ9_max_7cf53_0 ?_
  refine z_iln C hl 1 rfl dJ9_max_7cf53_1 ?_
  refine z_icmp_lt C 9 (by decide) (by omega) (by omega) dJ9_max_7cf53_2 (fun w1 => ?_) (fun w1 => ?_)
  · skip
    refine z_iln C hl 1 rfl dJ9_max_7cf53_9 ?_
    exact z_iret B (by first | rfl | omega) dJ9_max_7cf53_10
  · skip
    refine z_iln C hl 0 rfl dJ9_max_7cf53_5 ?_
    refine z_goto C 10 (by decide) dJ9_max_7cf53_6 ?_
    exact z_iret B (by first | rfl | omega) dJ9_max_7cf53_10

set_option maxHeartbeats 4000000 in
set_option maxRecDepth 100000 in
theorem c_J9_min_7cf53 {l : Launch} {D : va_G} {q : Nat → Nat} {g : Nat → ClassId} {σ : Mem} (a b : Int) (hr_a : zR a) (hr_b : zR b) : RO l yJ9_min_7cf53 cJ9_min_7cf53 2 (some .int) 0 0 D q g σ [.int (zI a), .int (zI b)] (some (.int (zI (min a b)))) := by
  refine RO.intro (by decide +kernel) (Nat.le_of_ble_eq_true rfl) (fun p e s m args below meth c ls B hP hl => ?_)
  have C := B.1
  have hl : lv_has ls 2 [(0, .int (zI a)), (1, .int (zI b))] := hl
  refine z_iln C hl 0 rfl dJ9_min_7cf53_0 ?_
  refine z_iln C hl 1 rfl dJ9_min_7cf53_1 ?_
  refine z_icmp_gt C 9 (by decide) (by omega) (by omega) dJ9_min_7cf53_2 (fun w1 => ?_) (fun w1 => ?_)
  · skip
    refine z_iln C hl 1 rfl dJ9_min_7cf53_9 ?_
    exact z_iret B (by first | rfl | omega) dJ9_min_7cf53_10
  · skip
    refine z_iln C hl 0 rfl dJ9_min_7cf53_5 ?_
    refine z_goto C 10 (by decide) dJ9_min_7cf53_6 ?_
    exact z_iret B (by first | rfl | omega) dJ9_min_7cf53_10

set_option maxHeartbeats 4000000 in
set_option maxRecDepth 100000 in
theorem c_J6_compare_7cf53 {l : Launch} {D : va_G} {q : Nat → Nat} {g : Nat → ClassId} {σ : Mem} (a b : Int) (hr_a : zR a) (hr_b : zR b) : RO l yJ6_compare_7cf53 cJ6_compare_7cf53 2 (some .int) 0 0 D q g σ [.int (zI a), .int (zI b)] (some (.int (zI (sgn (a - b))))) := by
  refine RO.intro (plainFor_of_name (by decide)) (Nat.le_of_ble_eq_true rfl) (fun p e s m args below meth c ls B hP hl => ?_)
  have C := B.1
  have hl : lv_has ls 2 [(0, .int (zI a)), (1, .int (zI b))] := hl
  refine z_iln C hl 0 rfl dJ6_compare_7cf53_0 ?_
  refine z_iln C hl 1 rfl dJ6_compare_7cf53_1 ?_
  refine z_icmp_ge C 9 (by decide) (by omega) (by omega) dJ6_compare_7cf53_2 (fun w1 => ?_) (fun w1 => ?_)
  · skip
    refine z_iln C hl 0 rfl dJ6_compare_7cf53_9 ?_
    refine z_iln C hl 1 rfl dJ6_compare_7cf53_10 ?_
    refine z_icmp_ne C 18 (by decide) (by omega) (by omega) dJ6_compare_7cf53_11 (fun w2 => ?_) (fun w2 => ?_)
    · skip
      refine z_ic C dJ6_compare_7cf53_18 ?_
      exact z_iret B (by unfold sgn; split <;> (try split) <;> omega) dJ6_compare_7cf53_19
    · skip
      refine z_ic C dJ6_compare_7cf53_14 ?_
      refine z_goto C 19 (by decide) dJ6_compare_7cf53_15 ?_
      exact z_iret B (by unfold sgn; split <;> (try split) <;> omega) dJ6_compare_7cf53_19
  · skip
    refine z_ic C dJ6_compare_7cf53_5 ?_
    refine z_goto C 19 (by decide) dJ6_compare_7cf53_6 ?_
    exact z_iret B (by unfold sgn; split <;> (try split) <;> omega) dJ6_compare_7cf53_19

set_option maxHeartbeats 4000000 in
set_option maxRecDepth 100000 in
theorem c_X8_within {l : Launch} {D : va_G} {q : Nat → Nat} {g : Nat → ClassId} {σ : Mem} (v lo hi : Int) (hr_v : zR v) (hr_lo : zR lo) (hr_hi : zR hi) : RO l yX8_within cX8_within 3 (some .boolean) 0 0 D q g σ [.int (zI v), .int (zI lo), .int (zI hi)] (some (.int (zI (bz (lo ≤ v ∧ v ≤ hi))))) := by
  refine RO.intro (plainFor_of_name (by decide)) (Nat.le_of_ble_eq_true rfl) (fun p e s m args below meth c ls B hP hl => ?_)
  have C := B.1
  have hl : lv_has ls 3 [(0, .int (zI v)), (1, .int (zI lo)), (2, .int (zI hi))] := hl
  refine z_iln C hl 1 rfl dX8_within_0 ?_
  refine z_iln C hl 0 rfl dX8_within_1 ?_
  refine z_icmp_gt C 14 (by decide) (by omega) (by omega) dX8_within_2 (fun w1 => ?_) (fun w1 => ?_)
  · skip
    refine z_ic C dX8_within_14 ?_
    exact z_bret0 B (by omega) dX8_within_15
  · skip
    refine z_iln C hl 0 rfl dX8_within_5 ?_
    refine z_iln C hl 2 rfl dX8_within_6 ?_
    refine z_icmp_gt C 14 (by decide) (by omega) (by omega) dX8_within_7 (fun w2 => ?_) (fun w2 => ?_)
    · skip
      refine z_ic C dX8_within_14 ?_
      exact z_bret0 B (by omega) dX8_within_15
    · skip
      refine z_ic C dX8_within_10 ?_
      refine z_goto C 15 (by decide) dX8_within_11 ?_
      exact z_bret1 B (by omega) dX8_within_15

set_option maxHeartbeats 4000000 in
set_option maxRecDepth 100000 in
theorem c_X8_isEither {l : Launch} {D : va_G} {q : Nat → Nat} {g : Nat → ClassId} {σ : Mem} (v : Int) (hr_v : zR v) : RO l yX8_isEither cX8_isEither 1 (some .boolean) 0 0 D q g σ [.int (zI v)] (some (.int (zI (bz (v = 0 ∨ v = 1))))) := by
  refine RO.intro (plainFor_of_name (by decide)) (Nat.le_of_ble_eq_true rfl) (fun p e s m args below meth c ls B hP hl => ?_)
  have C := B.1
  have hl : lv_has ls 1 [(0, .int (zI v))] := hl
  refine z_iln C hl 0 rfl dX8_isEither_0 ?_
  refine z_if_eq C 9 (by decide) (by omega) dX8_isEither_1 (fun w1 => ?_) (fun w1 => ?_)
  · skip
    refine z_ic C dX8_isEither_9 ?_
    refine z_goto C 14 (by decide) dX8_isEither_10 ?_
    exact z_bret1 B (by omega) dX8_isEither_14
  · skip
    refine z_iln C hl 0 rfl dX8_isEither_4 ?_
    refine z_ic C dX8_isEither_5 ?_
    refine z_icmp_ne C 13 (by decide) (by omega) (by omega) dX8_isEither_6 (fun w2 => ?_) (fun w2 => ?_)
    · skip
      refine z_ic C dX8_isEither_13 ?_
      exact z_bret0 B (by omega) dX8_isEither_14
    · skip
      refine z_ic C dX8_isEither_9 ?_
      refine z_goto C 14 (by decide) dX8_isEither_10 ?_
      exact z_bret1 B (by omega) dX8_isEither_14

set_option maxHeartbeats 4000000 in
set_option maxRecDepth 100000 in
theorem c_X8_isRow {l : Launch} {D : va_G} {q : Nat → Nat} {g : Nat → ClassId} {σ : Mem} (v : Int) (hr_v : zR v) : RO l yX8_isRow cX8_isRow 1 (some .boolean) 1 22 D q g σ [.int (zI v)] (some (.int (zI (bz (0 ≤ v ∧ v ≤ 5))))) := by
  refine RO.intro (plainFor_of_name (by decide)) (Nat.le_of_ble_eq_true rfl) (fun p e s m args below meth c ls B hP hl => ?_)
  have C := B.1
  have hl : lv_has ls 1 [(0, .int (zI v))] := hl
  refine z_iln C hl 0 rfl dX8_isRow_0 ?_
  refine z_ic C dX8_isRow_1 ?_
  refine z_ic C dX8_isRow_2 ?_
  refine z_sRO C hP hl (c_X8_within (σ := σ) v 0 5 (by omega) (by omega) (by omega))  wg_212 wg_1 wg_210 wg_211 cw_X8_within ⟨Nat.le_of_ble_eq_true rfl, Nat.le_of_ble_eq_true rfl⟩ rfl rfl (Nat.le_of_ble_eq_true rfl) dX8_isRow_3 ?_
  exact z_bret B (by constructor <;> intros <;> omega) dX8_isRow_6

set_option maxHeartbeats 4000000 in
set_option maxRecDepth 100000 in
theorem c_X8_isJudge {l : Launch} {D : va_G} {q : Nat → Nat} {g : Nat → ClassId} {σ : Mem} (v : Int) (hr_v : zR v) : RO l yX8_isJudge cX8_isJudge 1 (some .boolean) 1 22 D q g σ [.int (zI v)] (some (.int (zI (bz (0 ≤ v ∧ v ≤ 3))))) := by
  refine RO.intro (plainFor_of_name (by decide)) (Nat.le_of_ble_eq_true rfl) (fun p e s m args below meth c ls B hP hl => ?_)
  have C := B.1
  have hl : lv_has ls 1 [(0, .int (zI v))] := hl
  refine z_iln C hl 0 rfl dX8_isJudge_0 ?_
  refine z_ic C dX8_isJudge_1 ?_
  refine z_ic C dX8_isJudge_2 ?_
  refine z_sRO C hP hl (c_X8_within (σ := σ) v 0 3 (by omega) (by omega) (by omega))  wg_212 wg_1 wg_210 wg_211 cw_X8_within ⟨Nat.le_of_ble_eq_true rfl, Nat.le_of_ble_eq_true rfl⟩ rfl rfl (Nat.le_of_ble_eq_true rfl) dX8_isJudge_3 ?_
  exact z_bret B (by constructor <;> intros <;> omega) dX8_isJudge_6

set_option maxHeartbeats 4000000 in
set_option maxRecDepth 100000 in
theorem c_X8_isFact {l : Launch} {D : va_G} {q : Nat → Nat} {g : Nat → ClassId} {σ : Mem} (v : Int) (hr_v : zR v) : RO l yX8_isFact cX8_isFact 1 (some .boolean) 1 22 D q g σ [.int (zI v)] (some (.int (zI (bz (-9999 ≤ v ∧ v ≤ 9999))))) := by
  refine RO.intro (plainFor_of_name (by decide)) (Nat.le_of_ble_eq_true rfl) (fun p e s m args below meth c ls B hP hl => ?_)
  have C := B.1
  have hl : lv_has ls 1 [(0, .int (zI v))] := hl
  refine z_iln C hl 0 rfl dX8_isFact_0 ?_
  refine z_sp C dX8_isFact_1 rfl ?_
  refine z_sp C dX8_isFact_4 rfl ?_
  refine z_sRO C hP hl (c_X8_within (σ := σ) v (-9999) 9999 (by omega) (by omega) (by omega))  wg_212 wg_1 wg_210 wg_211 cw_X8_within ⟨Nat.le_of_ble_eq_true rfl, Nat.le_of_ble_eq_true rfl⟩ rfl rfl (Nat.le_of_ble_eq_true rfl) dX8_isFact_7 ?_
  exact z_bret B (by constructor <;> intros <;> omega) dX8_isFact_10

set_option maxHeartbeats 4000000 in
set_option maxRecDepth 100000 in
theorem c_X8_orNone {l : Launch} {D : va_G} {q : Nat → Nat} {g : Nat → ClassId} {σ : Mem} (v : Int) (hr_v : zR v) : RO l yX8_orNone cX8_orNone 1 (some .int) 0 0 D q g σ [.int (zI v)] (some (.int (zI (mN v)))) := by
  refine RO.intro (plainFor_of_name (by decide)) (Nat.le_of_ble_eq_true rfl) (fun p e s m args below meth c ls B hP hl => ?_)
  have C := B.1
  have hl : lv_has ls 1 [(0, .int (zI v))] := hl
  refine z_iln C hl 0 rfl dX8_orNone_0 ?_
  refine z_ldc C (n := 10000000) wg_304 (by decide) dX8_orNone_1 ?_
  refine z_icmp_lt C 11 (by decide) (by omega) (by omega) dX8_orNone_3 (fun w1 => ?_) (fun w1 => ?_)
  · skip
    refine z_iln C hl 0 rfl dX8_orNone_11 ?_
    exact z_iret B (by unfold mN; split <;> omega) dX8_orNone_12
  · skip
    refine z_bp C dX8_orNone_6 rfl ?_
    refine z_goto C 12 (by decide) dX8_orNone_8 ?_
    exact z_iret B (by unfold mN; split <;> omega) dX8_orNone_12

set_option maxHeartbeats 4000000 in
set_option maxRecDepth 100000 in
theorem c_X8_torsoMark {l : Launch} {D : va_G} {q : Nat → Nat} {g : Nat → ClassId} {σ : Mem} (v : Int)  : RO l yX8_torsoMark cX8_torsoMark 1 (some .int) 0 0 D q g σ [.int (zI v)] (some (.int (zI (10 * v + 1)))) := by
  refine RO.intro (plainFor_of_name (by decide)) (Nat.le_of_ble_eq_true rfl) (fun p e s m args below meth c ls B hP hl => ?_)
  have C := B.1
  have hl : lv_has ls 1 [(0, .int (zI v))] := hl
  refine z_bp C dX8_torsoMark_0 rfl ?_
  refine z_iln C hl 0 rfl dX8_torsoMark_2 ?_
  refine z_imul C dX8_torsoMark_3 ?_
  refine z_ic C dX8_torsoMark_4 ?_
  refine z_iadd C dX8_torsoMark_5 ?_
  exact z_iret B (by first | rfl | omega) dX8_torsoMark_6

set_option maxHeartbeats 4000000 in
set_option maxRecDepth 100000 in
theorem c_X8_pairsOf {l : Launch} {D : va_G} {q : Nat → Nat} {g : Nat → ClassId} {σ : Mem} (v : Int) (hp : 0 ≤ v ∧ v ≤ 32) : RO l yX8_pairsOf cX8_pairsOf 1 (some .int) 0 0 D q g σ [.int (zI v)] (some (.int (zI ((v * (v - 1)).tdiv 2)))) := by
  refine RO.intro (plainFor_of_name (by decide)) (Nat.le_of_ble_eq_true rfl) (fun p e s m args below meth c ls B hP hl => ?_)
  have C := B.1
  have hl : lv_has ls 1 [(0, .int (zI v))] := hl
  have hpp := mul_rng (a := v) (b := v - 1) (x := 32) (y := 32) (by omega) (by omega)
  refine z_iln C hl 0 rfl dX8_pairsOf_0 ?_
  refine z_iln C hl 0 rfl dX8_pairsOf_1 ?_
  refine z_ic C dX8_pairsOf_2 ?_
  refine z_isub C dX8_pairsOf_3 ?_
  refine z_imul C dX8_pairsOf_4 ?_
  refine z_ic C dX8_pairsOf_5 ?_
  refine z_idiv C (by omega) (by omega) (by omega) dX8_pairsOf_6 ?_
  exact z_iret B (by first | rfl | omega) dX8_pairsOf_7

set_option maxHeartbeats 4000000 in
set_option maxRecDepth 100000 in
theorem c_X8_floorQuotient {l : Launch} {D : va_G} {q : Nat → Nat} {g : Nat → ClassId} {σ : Mem} (u d : Int) (hr_u : zR u) (hr_d : zR d) (hd1 : 1 ≤ d) : RO l yX8_floorQuotient cX8_floorQuotient 2 (some .int) 1 22 D q g σ [.int (zI u), .int (zI d)] (some (.int (zI (u / d)))) := by
  refine RO.intro (plainFor_of_name (by decide)) (Nat.le_of_ble_eq_true rfl) (fun p e s m args below meth c ls B hP hl => ?_)
  have C := B.1
  have hl : lv_has ls 2 [(0, .int (zI u)), (1, .int (zI d))] := hl
  refine z_iln C hl 1 rfl dX8_floorQuotient_0 ?_
  refine z_ic C dX8_floorQuotient_1 ?_
  refine z_icmp_ge C 9 (by decide) (by omega) (by omega) dX8_floorQuotient_2 (fun w1 => ?_) (fun w1 => False.elim (by omega))
  refine z_iln C hl 0 rfl dX8_floorQuotient_9 ?_
  refine z_iln C hl 1 rfl dX8_floorQuotient_10 ?_
  refine z_sRO C hP hl (c_J9_floorDiv_7cf53 (σ := σ) u d (by omega) (by omega) (by omega))  wg_285 wg_11 wg_283 wg_284 cw_J9_floorDiv_7cf53 ⟨Nat.le_of_ble_eq_true rfl, Nat.le_of_ble_eq_true rfl⟩ rfl rfl (Nat.le_of_ble_eq_true rfl) dX8_floorQuotient_11 ?_
  exact z_iret B (by first | rfl | omega) dX8_floorQuotient_14

set_option maxHeartbeats 4000000 in
set_option maxRecDepth 100000 in
theorem c_X8_ceilQuotient {l : Launch} {D : va_G} {q : Nat → Nat} {g : Nat → ClassId} {σ : Mem} (u d : Int) (hr_u : zR u) (hr_d : zR d) (hd1 : 1 ≤ d) (hum : -2147483648 < u) : RO l yX8_ceilQuotient cX8_ceilQuotient 2 (some .int) 1 22 D q g σ [.int (zI u), .int (zI d)] (some (.int (zI (-((-u) / d))))) := by
  refine RO.intro (plainFor_of_name (by decide)) (Nat.le_of_ble_eq_true rfl) (fun p e s m args below meth c ls B hP hl => ?_)
  have C := B.1
  have hl : lv_has ls 2 [(0, .int (zI u)), (1, .int (zI d))] := hl
  refine z_iln C hl 1 rfl dX8_ceilQuotient_0 ?_
  refine z_ic C dX8_ceilQuotient_1 ?_
  refine z_icmp_ge C 9 (by decide) (by omega) (by omega) dX8_ceilQuotient_2 (fun w1 => ?_) (fun w1 => ?_)
  · skip
    refine z_iln C hl 0 rfl dX8_ceilQuotient_9 ?_
    refine z_ineg C dX8_ceilQuotient_10 ?_
    refine z_iln C hl 1 rfl dX8_ceilQuotient_11 ?_
    refine z_sRO C hP hl (c_J9_floorDiv_7cf53 (σ := σ) (-u) d (by omega) (by omega) (by omega))  wg_285 wg_11 wg_283 wg_284 cw_J9_floorDiv_7cf53 ⟨Nat.le_of_ble_eq_true rfl, Nat.le_of_ble_eq_true rfl⟩ rfl rfl (Nat.le_of_ble_eq_true rfl) dX8_ceilQuotient_12 ?_
    refine z_ineg C dX8_ceilQuotient_15 ?_
    exact z_iret B (by first | rfl | omega) dX8_ceilQuotient_16
  · skip
    refine z_ic C dX8_ceilQuotient_5 ?_
    refine z_goto C 16 (by decide) dX8_ceilQuotient_6 ?_
    exact z_iret B (by first | rfl | omega) dX8_ceilQuotient_16
