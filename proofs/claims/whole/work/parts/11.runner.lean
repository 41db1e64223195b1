set_option maxHeartbeats 4000000 in
set_option maxRecDepth 100000 in
theorem c_X4_covers {l : Launch} {D : va_G} {q : Nat → Nat} {g : Nat → ClassId} {σ : Mem} {j : Nat} (what row col place : Int) (hj : j < 6) (hI : TI σ) (hw : 0 ≤ what ∧ what ≤ 1) (hy : 0 ≤ row ∧ row ≤ 5) (hc : -1000 ≤ col ∧ col ≤ 1000) (hpl : -50 ≤ place ∧ place ≤ 50) : RO l yX4_covers cX4_covers 7 (some .boolean) 0 0 D q g σ [.ref (q (26 + j)), .int (zI what), .int (zI row), .int (zI col), .int (zI place)] (some (.int (zI (bz (kCov (co σ) j what row col place = true))))) := by
  refine RO.intro (plainFor_of_name (by decide)) (Nat.le_of_ble_eq_true rfl) (fun p e s m args below meth c ls B hP hl => ?_)
  have C := B.1
  have hl : lv_has ls 7 [(0, .ref (q (26 + j))), (1, .int (zI what)), (2, .int (zI row)), (3, .int (zI col)), (4, .int (zI place))] := hl
  have hb := hI.2.2.1 j hj
  have hp := hI.2.2.2 j (what * 6 + row).toNat hj (by omega)
  have hm := mul_b hb.2.1 (c := col) (by omega)
  refine z_iln C hl 1 rfl dX4_covers_0 ?_
  refine z_bp C dX4_covers_1 rfl ?_
  refine z_imul C dX4_covers_3 ?_
  refine z_iln C hl 2 rfl dX4_covers_4 ?_
  refine z_iadd C dX4_covers_5 ?_
  refine z_ist C hl [(5, .int (zI ((what * 6) + row))), (0, .ref (q (26 + j))), (1, .int (zI what)), (2, .int (zI row)), (3, .int (zI col)), (4, .int (zI place))] (by decide) rfl dX4_covers_6 (fun ls hl => ?_)
  refine z_il C hl 5 rfl dX4_covers_8 ?_
  refine z_aln C hl 1 rfl dX4_covers_10 ?_
  refine gf_X4_25 C hP (j := j) (by omega) dX4_covers_11 ?_
  refine z_aln C hl 1 rfl dX4_covers_14 ?_
  refine gf_X4_18 C hP (j := j) (by omega) dX4_covers_15 ?_
  refine z_iln C hl 4 rfl dX4_covers_18 ?_
  refine z_imul C dX4_covers_19 ?_
  refine z_iadd C dX4_covers_20 ?_
  refine z_isub C dX4_covers_21 ?_
  refine z_ist C hl [(6, .int (zI (place - ((σ (26 + j) 2) + ((σ (26 + j) 3) * col))))), (5, .int (zI ((what * 6) + row))), (0, .ref (q (26 + j))), (1, .int (zI what)), (2, .int (zI row)), (3, .int (zI col)), (4, .int (zI place))] (by decide) rfl dX4_covers_22 (fun ls hl => ?_)
  refine z_aln C hl 2 rfl dX4_covers_24 ?_
  refine gf_X4_9 C hP (j := j) (by omega) dX4_covers_25 ?_
  refine z_il C hl 1 rfl dX4_covers_28 ?_
  refine z_iald C hP (i := (32 + j)) (by omega) (cE_frm (j := j) (by omega)) (by omega) (by decide) dX4_covers_30 ?_
  refine z_il C hl 0 rfl dX4_covers_31 ?_
  refine z_icmp_gt C 52 (by decide) (by omega) (by omega) dX4_covers_33 (fun w1 => ?_) (fun w1 => ?_)
  · skip
    refine z_ic C dX4_covers_52 ?_
    exact z_bret0 B (by unfold kCov; rw [co_frm hj, co_run hj, co_to hj]; simp only [decide_eq_true_eq]; omega) dX4_covers_53
  · skip
    refine z_il C hl 0 rfl dX4_covers_36 ?_
    refine z_aln C hl 2 rfl dX4_covers_38 ?_
    refine gf_X4_15 C hP (j := j) (by omega) dX4_covers_39 ?_
    refine z_il C hl 1 rfl dX4_covers_42 ?_
    refine z_iald C hP (i := (38 + j)) (by omega) (cE_to (j := j) (by omega)) (by omega) (by decide) dX4_covers_44 ?_
    refine z_icmp_gt C 52 (by decide) (by omega) (by omega) dX4_covers_45 (fun w2 => ?_) (fun w2 => ?_)
    · skip
      refine z_ic C dX4_covers_52 ?_
      exact z_bret0 B (by unfold kCov; rw [co_frm hj, co_run hj, co_to hj]; simp only [decide_eq_true_eq]; omega) dX4_covers_53
    · skip
      refine z_ic C dX4_covers_48 ?_
      refine z_goto C 53 (by decide) dX4_covers_49 ?_
      exact z_bret1 B (by unfold kCov; rw [co_frm hj, co_run hj, co_to hj]; simp only [decide_eq_true_eq]; omega) dX4_covers_53

set_option maxHeartbeats 4000000 in
set_option maxRecDepth 100000 in
theorem c_X4_hasTorso {l : Launch} {D : va_G} {q : Nat → Nat} {g : Nat → ClassId} {σ : Mem} {j : Nat} (hj : j < 6) (hI : TI σ) : RO l yX4_hasTorso cX4_hasTorso 2 (some .boolean) 0 0 D q g σ [.ref (q (26 + j))] (some (.int (zI (bz (kHas (co σ) j = true))))) := by
  refine RO.intro (plainFor_of_name (by decide)) (Nat.le_of_ble_eq_true rfl) (fun p e s m args below meth c ls B hP hl => ?_)
  have C := B.1
  have hl : lv_has ls 2 [(0, .ref (q (26 + j)))] := hl
  refine z_ic C dX4_hasTorso_0 ?_
  refine z_isn C hl [(1, .int (zI 0)), (0, .ref (q (26 + j)))] (by decide) rfl dX4_hasTorso_1 (fun ls hl => ?_)
  have L2 : ∀ (n : Nat) (r : Int)  , 6 - r < (n : Int) → (0 ≤ r ∧ r ≤ 6) → (kHasF (co σ) j r.toNat = false) → ∀ ls : Array Slot, lv_has ls 2 [(0, .ref (q (26 + j))), (1, .int (zI r))] → WO p l e 0 0 s m args below meth c (some (.int (zI (bz (kHas (co σ) j = true))))) (F0 m 2 ls []) := by
    intro n
    induction n with
    | zero => intro r hm hr hn ls hl; exact False.elim (by omega)
    | succ n ih =>
      intro r hm hr hn ls hl
      have ih2 := ih; clear ih
      refine z_iln C hl 1 rfl dX4_hasTorso_2 ?_
      refine z_bp C dX4_hasTorso_3 rfl ?_
      refine z_icmp_ge C 31 (by decide) (by omega) (by omega) dX4_hasTorso_5 (fun w1 => ?_) (fun w1 => ?_)
      · skip
        refine z_ic C dX4_hasTorso_31 ?_
        exact z_bret0 B (by rw [kHas, show (6 : Nat) = r.toNat by omega, hn]; simp) dX4_hasTorso_32
      · skip
        have hp := hI.2.2.2 j r.toNat hj (by omega)
        refine z_aln C hl 0 rfl dX4_hasTorso_8 ?_
        refine gf_X4_9 C hP (j := j) (by omega) dX4_hasTorso_9 ?_
        refine z_iln C hl 1 rfl dX4_hasTorso_12 ?_
        refine z_iald C hP (i := (32 + j)) (by omega) (cE_frm (j := j) (by omega)) (by omega) (by decide) dX4_hasTorso_13 ?_
        refine z_aln C hl 0 rfl dX4_hasTorso_14 ?_
        refine gf_X4_15 C hP (j := j) (by omega) dX4_hasTorso_15 ?_
        refine z_iln C hl 1 rfl dX4_hasTorso_18 ?_
        refine z_iald C hP (i := (38 + j)) (by omega) (cE_to (j := j) (by omega)) (by omega) (by decide) dX4_hasTorso_19 ?_
        refine z_icmp_gt C 25 (by decide) (by omega) (by omega) dX4_hasTorso_20 (fun w2 => ?_) (fun w2 => ?_)
        · skip
          refine z_iinc C hl 1 rfl [(1, .int (zI (r + 1))), (0, .ref (q (26 + j)))] (by decide) rfl dX4_hasTorso_25 (fun ls hl => ?_)
          refine z_goto C 2 (by decide) dX4_hasTorso_28 ?_
          exact ih2 (r + 1) (by omega) (by omega) (by rw [show (r + 1).toNat = r.toNat + 1 by omega, kHasF, hn, co_frm hj, co_to hj]; simp; omega) ls (lv_sub hl [1, 0] rfl)
        · skip
          refine z_ic C dX4_hasTorso_23 ?_
          exact z_bret1 B (kHas_t (r := r.toNat) (by omega) (by rw [co_frm hj, co_to hj]; omega)) dX4_hasTorso_24
  exact L2 ((6 - 0 : Int).toNat + 1) 0 (by omega) (by omega) rfl ls (lv_sub hl [1, 0] rfl)

set_option maxHeartbeats 4000000 in
set_option maxRecDepth 100000 in
theorem c_X4_firstOver {l : Launch} {D : va_G} {q : Nat → Nat} {g : Nat → ClassId} {σ : Mem} {j : Nat} (what row place : Int) (hj : j < 6) (hI : TI σ) (hw : 0 ≤ what ∧ what ≤ 1) (hy : 0 ≤ row ∧ row ≤ 5) (hpl : -50 ≤ place ∧ place ≤ 50) : RO l yX4_firstOver cX4_firstOver 4 (some .int) 2 43 D q g σ [.ref (q (26 + j)), .int (zI what), .int (zI row), .int (zI place)] (some (.int (zI (kFO (co σ) j what row place)))) := by
  refine RO.intro (plainFor_of_name (by decide)) (Nat.le_of_ble_eq_true rfl) (fun p e s m args below meth c ls B hP hl => ?_)
  have C := B.1
  have hl : lv_has ls 4 [(0, .ref (q (26 + j))), (1, .int (zI what)), (2, .int (zI row)), (3, .int (zI place))] := hl
  have hb := hI.2.2.1 j hj
  have hp := hI.2.2.2 j (what * 6 + row).toNat hj (by omega)
  have hdv := div_b (a := -(place - σ (38 + j) (what * 6 + row).toNat - σ (26 + j) 2)) (v := σ (26 + j) 3) (by omega) (by omega)
  refine z_ic C dX4_firstOver_0 ?_
  refine z_iln C hl 3 rfl dX4_firstOver_1 ?_
  refine z_aln C hl 0 rfl dX4_firstOver_2 ?_
  refine gf_X4_15 C hP (j := j) (by omega) dX4_firstOver_3 ?_
  refine z_iln C hl 1 rfl dX4_firstOver_6 ?_
  refine z_bp C dX4_firstOver_7 rfl ?_
  refine z_imul C dX4_firstOver_9 ?_
  refine z_iln C hl 2 rfl dX4_firstOver_10 ?_
  refine z_iadd C dX4_firstOver_11 ?_
  refine z_iald C hP (i := (38 + j)) (by omega) (cE_to (j := j) (by omega)) (by omega) (by decide) dX4_firstOver_12 ?_
  refine z_isub C dX4_firstOver_13 ?_
  refine z_aln C hl 0 rfl dX4_firstOver_14 ?_
  refine gf_X4_25 C hP (j := j) (by omega) dX4_firstOver_15 ?_
  refine z_isub C dX4_firstOver_18 ?_
  refine z_aln C hl 0 rfl dX4_firstOver_19 ?_
  refine gf_X4_18 C hP (j := j) (by omega) dX4_firstOver_20 ?_
  refine z_snRO C hP hl (c_X8_ceilQuotient (σ := σ) ((place - (σ (38 + j) ((what * 6) + row).toNat)) - (σ (26 + j) 2)) (σ (26 + j) 3) (by omega) (by omega) (by omega) (by omega))  wg_295 wg_1 wm_293 wg_294 cw_X8_ceilQuotient ⟨Nat.le_of_ble_eq_true rfl, Nat.le_of_ble_eq_true rfl⟩ rfl rfl (Nat.le_of_ble_eq_true rfl) dX4_firstOver_23 ?_
  refine z_sRO C hP hl (c_J9_max_7cf53 (σ := σ) 0 (-((-((place - (σ (38 + j) ((what * 6) + row).toNat)) - (σ (26 + j) 2))) / (σ (26 + j) 3))) (by omega) (by omega))  wg_298 wg_11 wg_296 wg_297 cw_J9_max_7cf53 ⟨Nat.le_of_ble_eq_true rfl, Nat.le_of_ble_eq_true rfl⟩ rfl rfl (Nat.le_of_ble_eq_true rfl) dX4_firstOver_26 ?_
  exact z_iret B (by unfold kFO; rw [co_run hj, co_to hj]) dX4_firstOver_29

set_option maxHeartbeats 4000000 in
set_option maxRecDepth 100000 in
theorem c_X4_lastOver {l : Launch} {D : va_G} {q : Nat → Nat} {g : Nat → ClassId} {σ : Mem} {j : Nat} (what row place : Int) (hj : j < 6) (hI : TI σ) (hw : 0 ≤ what ∧ what ≤ 1) (hy : 0 ≤ row ∧ row ≤ 5) (hpl : -50 ≤ place ∧ place ≤ 50) : RO l yX4_lastOver cX4_lastOver 4 (some .int) 2 43 D q g σ [.ref (q (26 + j)), .int (zI what), .int (zI row), .int (zI place)] (some (.int (zI (kLO (co σ) j what row place)))) := by
  refine RO.intro (plainFor_of_name (by decide)) (Nat.le_of_ble_eq_true rfl) (fun p e s m args below meth c ls B hP hl => ?_)
  have C := B.1
  have hl : lv_has ls 4 [(0, .ref (q (26 + j))), (1, .int (zI what)), (2, .int (zI row)), (3, .int (zI place))] := hl
  have hb := hI.2.2.1 j hj
  have hp := hI.2.2.2 j (what * 6 + row).toNat hj (by omega)
  have hdv := div_b (a := place - σ (32 + j) (what * 6 + row).toNat - σ (26 + j) 2) (v := σ (26 + j) 3) (by omega) (by omega)
  refine z_sp C dX4_lastOver_0 rfl ?_
  refine z_iln C hl 3 rfl dX4_lastOver_3 ?_
  refine z_aln C hl 0 rfl dX4_lastOver_4 ?_
  refine gf_X4_9 C hP (j := j) (by omega) dX4_lastOver_5 ?_
  refine z_iln C hl 1 rfl dX4_lastOver_8 ?_
  refine z_bp C dX4_lastOver_9 rfl ?_
  refine z_imul C dX4_lastOver_11 ?_
  refine z_iln C hl 2 rfl dX4_lastOver_12 ?_
  refine z_iadd C dX4_lastOver_13 ?_
  refine z_iald C hP (i := (32 + j)) (by omega) (cE_frm (j := j) (by omega)) (by omega) (by decide) dX4_lastOver_14 ?_
  refine z_isub C dX4_lastOver_15 ?_
  refine z_aln C hl 0 rfl dX4_lastOver_16 ?_
  refine gf_X4_25 C hP (j := j) (by omega) dX4_lastOver_17 ?_
  refine z_isub C dX4_lastOver_20 ?_
  refine z_aln C hl 0 rfl dX4_lastOver_21 ?_
  refine gf_X4_18 C hP (j := j) (by omega) dX4_lastOver_22 ?_
  refine z_snRO C hP hl (c_X8_floorQuotient (σ := σ) ((place - (σ (32 + j) ((what * 6) + row).toNat)) - (σ (26 + j) 2)) (σ (26 + j) 3) (by omega) (by omega) (by omega))  wg_282 wg_1 wm_280 wg_281 cw_X8_floorQuotient ⟨Nat.le_of_ble_eq_true rfl, Nat.le_of_ble_eq_true rfl⟩ rfl rfl (Nat.le_of_ble_eq_true rfl) dX4_lastOver_25 ?_
  refine z_sRO C hP hl (c_J9_min_7cf53 (σ := σ) 299 (((place - (σ (32 + j) ((what * 6) + row).toNat)) - (σ (26 + j) 2)) / (σ (26 + j) 3)) (by omega) (by omega))  wg_288 wg_11 wg_286 wg_287 cw_J9_min_7cf53 ⟨Nat.le_of_ble_eq_true rfl, Nat.le_of_ble_eq_true rfl⟩ rfl rfl (Nat.le_of_ble_eq_true rfl) dX4_lastOver_28 ?_
  exact z_iret B (by unfold kLO; rw [co_run hj, co_frm hj]) dX4_lastOver_31

set_option maxHeartbeats 4000000 in
set_option maxRecDepth 100000 in
theorem c_X4_columnsOver {l : Launch} {D : va_G} {q : Nat → Nat} {g : Nat → ClassId} {σ : Mem} {j : Nat} (what row place : Int) (hj : j < 6) (hI : TI σ) (hw : 0 ≤ what ∧ what ≤ 1) (hy : 0 ≤ row ∧ row ≤ 5) (hpl : -50 ≤ place ∧ place ≤ 50) : RO l yX4_columnsOver cX4_columnsOver 4 (some .int) 3 66 D q g σ [.ref (q (26 + j)), .int (zI what), .int (zI row), .int (zI place)] (some (.int (zI (max 0 (kLO (co σ) j what row place - kFO (co σ) j what row place + 1))))) := by
  refine RO.intro (plainFor_of_name (by decide)) (Nat.le_of_ble_eq_true rfl) (fun p e s m args below meth c ls B hP hl => ?_)
  have C := B.1
  have hl : lv_has ls 4 [(0, .ref (q (26 + j))), (1, .int (zI what)), (2, .int (zI row)), (3, .int (zI place))] := hl
  have hIc := TI_cc hI
  have h1 := kFO_b hIc hj (what := what) (row := row) (place := place) (by omega) hpl
  have h2 := kLO_b hIc hj (what := what) (row := row) (place := place) (by omega) hpl
  refine z_ic C dX4_columnsOver_0 ?_
  refine z_aln C hl 0 rfl dX4_columnsOver_1 ?_
  refine z_iln C hl 1 rfl dX4_columnsOver_2 ?_
  refine z_iln C hl 2 rfl dX4_columnsOver_3 ?_
  refine z_iln C hl 3 rfl dX4_columnsOver_4 ?_
  refine z_vRO C hP hl (c_X4_lastOver (σ := σ) (j := j) what row place (by omega) hI (by omega) (by omega) (by omega)) (z_recv C hP (i := (26 + j)) (by omega) (cE_run (j := j) (by omega) _) (ci := 4) rfl) wg_279 wg_3 wg_386 wg_277 wg_278 cw_X4_lastOver ⟨Nat.le_of_ble_eq_true rfl, Nat.le_of_ble_eq_true rfl⟩ rfl rfl (Nat.le_of_ble_eq_true rfl) dX4_columnsOver_5 ?_
  refine z_aln C hl 0 rfl dX4_columnsOver_8 ?_
  refine z_iln C hl 1 rfl dX4_columnsOver_9 ?_
  refine z_iln C hl 2 rfl dX4_columnsOver_10 ?_
  refine z_iln C hl 3 rfl dX4_columnsOver_11 ?_
  refine z_vRO C hP hl (c_X4_firstOver (σ := σ) (j := j) what row place (by omega) hI (by omega) (by omega) (by omega)) (z_recv C hP (i := (26 + j)) (by omega) (cE_run (j := j) (by omega) _) (ci := 4) rfl) wg_292 wg_3 wg_315 wg_290 wg_291 cw_X4_firstOver ⟨Nat.le_of_ble_eq_true rfl, Nat.le_of_ble_eq_true rfl⟩ rfl rfl (Nat.le_of_ble_eq_true rfl) dX4_columnsOver_12 ?_
  refine z_isub C dX4_columnsOver_15 ?_
  refine z_ic C dX4_columnsOver_16 ?_
  refine z_iadd C dX4_columnsOver_17 ?_
  refine z_sRO C hP hl (c_J9_max_7cf53 (σ := σ) 0 (((kLO (co σ) j what row place) - (kFO (co σ) j what row place)) + 1) (by omega) (by omega))  wg_298 wg_11 wg_296 wg_297 cw_J9_max_7cf53 ⟨Nat.le_of_ble_eq_true rfl, Nat.le_of_ble_eq_true rfl⟩ rfl rfl (Nat.le_of_ble_eq_true rfl) dX4_columnsOver_18 ?_
  exact z_iret B (by first | rfl | omega) dX4_columnsOver_21

set_option maxHeartbeats 4000000 in
set_option maxRecDepth 100000 in
theorem c_X4_crossing {l : Launch} {D : va_G} {q : Nat → Nat} {g : Nat → ClassId} {σ : Mem} {j : Nat} (lean : Int) (hj : j < 6) (hI : TI σ) (hle : -3 ≤ lean ∧ lean ≤ 3) : RO l yX4_crossing cX4_crossing 4 (some .int) 3 66 D q g σ [.ref (q (26 + j)), .int (zI lean)] (some (.int (zI (kCr (co σ) j lean)))) := by
  refine RO.intro (plainFor_of_name (by decide)) (Nat.le_of_ble_eq_true rfl) (fun p e s m args below meth c ls B hP hl => ?_)
  have C := B.1
  have hl : lv_has ls 4 [(0, .ref (q (26 + j))), (1, .int (zI lean))] := hl
  have hIc := TI_cc hI
  refine z_ldc C (n := 10000000) wg_314 (by decide) dX4_crossing_0 ?_
  refine z_isn C hl [(2, .int (zI 10000000)), (0, .ref (q (26 + j))), (1, .int (zI lean))] (by decide) rfl dX4_crossing_2 (fun ls hl => ?_)
  refine z_ic C dX4_crossing_3 ?_
  refine z_isn C hl [(3, .int (zI 0)), (2, .int (zI 10000000)), (0, .ref (q (26 + j))), (1, .int (zI lean))] (by decide) rfl dX4_crossing_4 (fun ls hl => ?_)
  have L5 : ∀ (n : Nat) (x : Int) (r : Int)  , 6 - r < (n : Int) → (0 ≤ r ∧ r ≤ 6) → (x = kCrF (co σ) j lean r.toNat) → ∀ ls : Array Slot, lv_has ls 4 [(0, .ref (q (26 + j))), (1, .int (zI lean)), (2, .int (zI x)), (3, .int (zI r))] → WO p l e 3 66 s m args below meth c (some (.int (zI (kCr (co σ) j lean)))) (F0 m 5 ls []) := by
    intro n
    induction n with
    | zero => intro x r hm hr hx ls hl; exact False.elim (by omega)
    | succ n ih =>
      intro x r hm hr hx ls hl
      have ih5 := ih; clear ih
      refine z_iln C hl 3 rfl dX4_crossing_5 ?_
      refine z_bp C dX4_crossing_6 rfl ?_
      refine z_icmp_ge C 46 (by decide) (by omega) (by omega) dX4_crossing_8 (fun w1 => ?_) (fun w1 => ?_)
      · skip
        refine z_iln C hl 2 rfl dX4_crossing_46 ?_
        exact z_iret B (by rw [hx, show r.toNat = 6 by omega]; rfl) dX4_crossing_47
      · skip
        have hp := hI.2.2.2 j r.toNat hj (by omega)
        have hxb := kCrF_b hIc hj hle r.toNat (by omega)
        refine z_aln C hl 0 rfl dX4_crossing_11 ?_
        refine gf_X4_9 C hP (j := j) (by omega) dX4_crossing_12 ?_
        refine z_iln C hl 3 rfl dX4_crossing_15 ?_
        refine z_iald C hP (i := (32 + j)) (by omega) (cE_frm (j := j) (by omega)) (by omega) (by decide) dX4_crossing_16 ?_
        refine z_aln C hl 0 rfl dX4_crossing_17 ?_
        refine gf_X4_15 C hP (j := j) (by omega) dX4_crossing_18 ?_
        refine z_iln C hl 3 rfl dX4_crossing_21 ?_
        refine z_iald C hP (i := (38 + j)) (by omega) (cE_to (j := j) (by omega)) (by omega) (by decide) dX4_crossing_22 ?_
        refine z_icmp_gt C 40 (by decide) (by omega) (by omega) dX4_crossing_23 (fun w2 => ?_) (fun w2 => ?_)
        · skip
          refine z_iinc C hl 3 rfl [(3, .int (zI (r + 1))), (0, .ref (q (26 + j))), (1, .int (zI lean)), (2, .int (zI x))] (by decide) rfl dX4_crossing_40 (fun ls hl => ?_)
          refine z_goto C 5 (by decide) dX4_crossing_43 ?_
          exact ih5 x (r + 1) (by omega) (by omega) (by rw [show (r + 1).toNat = r.toNat + 1 by omega, kCrF, co_frm hj, co_to hj, if_neg (by omega), hx]) ls (lv_sub hl [1, 2, 3, 0] rfl)
        · skip
          have hm := mul_l hle (b := r) (by omega)
          have hfo := kFO_b hIc hj (what := 0) (row := r) (place := lean * r) (by omega) (by omega)
          refine z_iln C hl 2 rfl dX4_crossing_26 ?_
          refine z_aln C hl 0 rfl dX4_crossing_27 ?_
          refine z_ic C dX4_crossing_28 ?_
          refine z_iln C hl 3 rfl dX4_crossing_29 ?_
          refine z_iln C hl 1 rfl dX4_crossing_30 ?_
          refine z_iln C hl 3 rfl dX4_crossing_31 ?_
          refine z_imul C dX4_crossing_32 ?_
          refine z_vRO C hP hl (c_X4_firstOver (σ := σ) (j := j) 0 r (lean * r) (by omega) hI (by omega) (by omega) (by omega)) (z_recv C hP (i := (26 + j)) (by omega) (cE_run (j := j) (by omega) _) (ci := 4) rfl) wg_292 wg_3 wg_315 wg_290 wg_291 cw_X4_firstOver ⟨Nat.le_of_ble_eq_true rfl, Nat.le_of_ble_eq_true rfl⟩ rfl rfl (Nat.le_of_ble_eq_true rfl) dX4_crossing_33 ?_
          refine z_sRO C hP hl (c_J9_min_7cf53 (σ := σ) x (kFO (co σ) j 0 r (lean * r)) (by omega) (by omega))  wg_288 wg_11 wg_286 wg_287 cw_J9_min_7cf53 ⟨Nat.le_of_ble_eq_true rfl, Nat.le_of_ble_eq_true rfl⟩ rfl rfl (Nat.le_of_ble_eq_true rfl) dX4_crossing_36 ?_
          refine z_isn C hl [(2, .int (zI (min x (kFO (co σ) j 0 r (lean * r))))), (0, .ref (q (26 + j))), (1, .int (zI lean)), (3, .int (zI r))] (by decide) rfl dX4_crossing_39 (fun ls hl => ?_)
          refine z_iinc C hl 3 rfl [(3, .int (zI (r + 1))), (2, .int (zI (min x (kFO (co σ) j 0 r (lean * r))))), (0, .ref (q (26 + j))), (1, .int (zI lean))] (by decide) rfl dX4_crossing_40 (fun ls hl => ?_)
          refine z_goto C 5 (by decide) dX4_crossing_43 ?_
          exact ih5 (min x (kFO (co σ) j 0 r (lean * r))) (r + 1) (by omega) (by omega) (by rw [show (r + 1).toNat = r.toNat + 1 by omega, kCrF, co_frm hj, co_to hj, if_pos (by omega), ← hx, show ((r.toNat : Nat) : Int) = r by omega]) ls (lv_sub hl [2, 3, 1, 0] rfl)
  exact L5 ((6 - 0 : Int).toNat + 1) 10000000 0 (by omega) (by omega) rfl ls (lv_sub hl [2, 3, 1, 0] rfl)
