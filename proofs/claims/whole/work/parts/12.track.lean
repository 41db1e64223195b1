set_option maxHeartbeats 4000000 in
set_option maxRecDepth 100000 in
theorem c_X7_has {l : Launch} {D : va_G} {q : Nat → Nat} {g : Nat → ClassId} {σ : Mem} (lane : Int) (hI : TI σ) (hr_lane : zR lane) : RO l yX7_has cX7_has 2 (some .boolean) 1 22 D q g σ [.ref (q 1), .int (zI lane)] (some (.int (zI (bz (0 ≤ lane ∧ lane < σ 1 2))))) := by
  refine RO.intro (plainFor_of_name (by decide)) (Nat.le_of_ble_eq_true rfl) (fun p e s m args below meth c ls B hP hl => ?_)
  have C := B.1
  have hl : lv_has ls 2 [(0, .ref (q 1)), (1, .int (zI lane))] := hl
  have h1 := hI.1
  refine z_iln C hl 1 rfl dX7_has_0 ?_
  refine z_ic C dX7_has_1 ?_
  refine z_aln C hl 0 rfl dX7_has_2 ?_
  refine gf_X7_22 C hP dX7_has_3 ?_
  refine z_ic C dX7_has_6 ?_
  refine z_isub C dX7_has_7 ?_
  refine z_snRO C hP hl (c_X8_within (σ := σ) lane 0 ((σ 1 2) - 1) (by omega) (by omega) (by omega))  wg_212 wg_1 wm_225 wg_211 cw_X8_within ⟨Nat.le_of_ble_eq_true rfl, Nat.le_of_ble_eq_true rfl⟩ rfl rfl (Nat.le_of_ble_eq_true rfl) dX7_has_8 ?_
  exact z_bret B (by constructor <;> intros <;> omega) dX7_has_11

set_option maxHeartbeats 4000000 in
set_option maxRecDepth 100000 in
theorem c_X7_slitPlace {l : Launch} {D : va_G} {q : Nat → Nat} {g : Nat → ClassId} {σ : Mem} (row : Int)  : RO l yX7_slitPlace cX7_slitPlace 2 (some .int) 0 0 D q g σ [.ref (q 1), .int (zI row)] (some (.int (zI (co σ 8 0 * row)))) := by
  refine RO.intro (plainFor_of_name (by decide)) (Nat.le_of_ble_eq_true rfl) (fun p e s m args below meth c ls B hP hl => ?_)
  have C := B.1
  have hl : lv_has ls 2 [(0, .ref (q 1)), (1, .int (zI row))] := hl
  refine z_aln C hl 0 rfl dX7_slitPlace_0 ?_
  refine gf_X7_17 C hP dX7_slitPlace_1 ?_
  refine z_ic C dX7_slitPlace_4 ?_
  refine z_ialk C hP (i := 8) (by decide) (fun _ => rfl) 0 rfl (by decide) (by decide) dX7_slitPlace_5 ?_
  refine z_iln C hl 1 rfl dX7_slitPlace_6 ?_
  refine z_imul C dX7_slitPlace_7 ?_
  exact z_iret B rfl dX7_slitPlace_8

set_option maxHeartbeats 4000000 in
set_option maxRecDepth 100000 in
theorem c_X7_film {l : Launch} {D : va_G} {q : Nat → Nat} {g : Nat → ClassId} {σ : Mem} (side col row : Int) (hI : TI σ) (hsi : 0 ≤ side ∧ side ≤ 1) (hc : -1000 ≤ col ∧ col ≤ 1000) (hy : 0 ≤ row ∧ row ≤ 5) : RO l yX7_film cX7_film 7 (some .int) 1 26 D q g σ [.ref (q 1), .int (zI side), .int (zI col), .int (zI row)] (some (.int (zI (kFilm (co σ) side col row)))) := by
  refine RO.intro (plainFor_of_name (by decide)) (Nat.le_of_ble_eq_true rfl) (fun p e s m args below meth c ls B hP hl => ?_)
  have C := B.1
  have hl : lv_has ls 7 [(0, .ref (q 1)), (1, .int (zI side)), (2, .int (zI col)), (3, .int (zI row))] := hl
  have h1 := hI.1
  have e12 : co σ 1 2 = σ 1 2 := rfl
  have e80 : co σ 8 0 = σ 8 0 := rfl
  have hm := mul_l (a := co σ 8 0) hI.2.1.1 hy
  refine z_aln C hl 0 rfl dX7_film_0 ?_
  refine z_iln C hl 3 rfl dX7_film_1 ?_
  refine z_vRO C hP hl (c_X7_slitPlace (σ := σ) row ) (z_recv C hP (i := 1) (by decide) rfl (ci := 7) rfl) wg_255 wg_2 wg_252 wg_253 wg_254 cw_X7_slitPlace ⟨Nat.le_of_ble_eq_true rfl, Nat.le_of_ble_eq_true rfl⟩ rfl rfl (Nat.le_of_ble_eq_true rfl) dX7_film_2 ?_
  refine z_ist C hl [(4, .int (zI (co σ 8 0 * row))), (0, .ref (q 1)), (1, .int (zI side)), (2, .int (zI col)), (3, .int (zI row))] (by decide) rfl dX7_film_5 (fun ls hl => ?_)
  refine z_ic C dX7_film_7 ?_
  refine z_ist C hl [(5, .int (zI 0)), (4, .int (zI (co σ 8 0 * row))), (0, .ref (q 1)), (1, .int (zI side)), (2, .int (zI col)), (3, .int (zI row))] (by decide) rfl dX7_film_8 (fun ls hl => ?_)
  have L10 : ∀ (n : Nat) (k : Int)  , σ 1 2 - k < (n : Int) → (0 ≤ k ∧ k ≤ σ 1 2) → (kFilm (co σ) side col row = kScan (co σ) side col row (co σ 8 0 * row) (co σ 1 2 - k).toNat k) → ∀ ls : Array Slot, lv_has ls 7 [(0, .ref (q 1)), (1, .int (zI side)), (2, .int (zI col)), (3, .int (zI row)), (4, .int (zI (co σ 8 0 * row))), (5, .int (zI k))] → WO p l e 1 26 s m args below meth c (some (.int (zI (kFilm (co σ) side col row)))) (F0 m 10 ls []) := by
    intro n
    induction n with
    | zero => intro k hm hk hi ls hl; exact False.elim (by omega)
    | succ n ih =>
      intro k hm hk hi ls hl
      have ih10 := ih; clear ih
      refine z_il C hl 5 rfl dX7_film_10 ?_
      refine z_aln C hl 0 rfl dX7_film_12 ?_
      refine gf_X7_22 C hP dX7_film_13 ?_
      refine z_icmp_ge C 95 (by decide) (by omega) (by omega) dX7_film_16 (fun w1 => ?_) (fun w1 => ?_)
      · skip
        refine z_ic C dX7_film_95 ?_
        exact z_iret B (by rw [hi, show (co σ 1 2 - k).toNat = 0 by omega]; rfl) dX7_film_96
      · skip
        have hu : (co σ 1 2 - k).toNat = (co σ 1 2 - (k + 1)).toNat + 1 := by omega
        rw [hu, kScan] at hi
        refine z_iln C hl 1 rfl dX7_film_19 ?_
        refine z_if_ne C 28 (by decide) (by omega) dX7_film_20 (fun w2 => ?_) (fun w2 => ?_)
        · skip
          refine z_aln C hl 0 rfl dX7_film_28 ?_
          refine gf_X7_22 C hP dX7_film_29 ?_
          refine z_ic C dX7_film_32 ?_
          refine z_isub C dX7_film_33 ?_
          refine z_il C hl 5 rfl dX7_film_34 ?_
          refine z_isub C dX7_film_36 ?_
          have hln : kLane (co σ) side k = ((σ 1 2) - 1) - k := by unfold kLane; split <;> omega
          rw [hln] at hi
          refine z_ist C hl [(6, .int (zI (((σ 1 2) - 1) - k))), (0, .ref (q 1)), (1, .int (zI side)), (2, .int (zI col)), (3, .int (zI row)), (4, .int (zI (co σ 8 0 * row))), (5, .int (zI k))] (by decide) rfl dX7_film_37 (fun ls hl => ?_)
          refine z_aln C hl 1 rfl dX7_film_39 ?_
          refine gf_X7_11 C hP dX7_film_40 ?_
          refine z_il C hl 0 rfl dX7_film_43 ?_
          refine z_aald C hP (i := 7) (t := 2) (b := 26) (by decide) rfl (fun _ => rfl) (by omega) (by decide) dX7_film_45 ?_
          refine z_ic C dX7_film_46 ?_
          refine z_iln C hl 4 rfl dX7_film_47 ?_
          refine z_iln C hl 3 rfl dX7_film_48 ?_
          refine z_il C hl 5 rfl dX7_film_49 ?_
          refine z_vRO C hP hl (c_X4_covers (σ := σ) (j := ((((σ 1 2) - 1) - k).toNat)) 0 row col (co σ 8 0 * row) (by omega) hI (by omega) (by omega) (by omega) (by omega)) (z_recv C hP (i := (26 + (((σ 1 2) - 1) - k).toNat)) (by omega) (cE_run (j := (((σ 1 2) - 1) - k).toNat) (by omega) _) (ci := 4) rfl) wg_259 wg_3 wg_256 wg_257 wg_258 cw_X4_covers ⟨Nat.le_of_ble_eq_true rfl, Nat.le_of_ble_eq_true rfl⟩ rfl rfl (Nat.le_of_ble_eq_true rfl) dX7_film_51 ?_
          refine z_bif_eq C 63 (by decide) dX7_film_54 (fun w3 => ?_) (fun w3 => ?_)
          · skip
            refine z_aln C hl 1 rfl dX7_film_63 ?_
            refine gf_X7_11 C hP dX7_film_64 ?_
            refine z_il C hl 0 rfl dX7_film_67 ?_
            refine z_aald C hP (i := 7) (t := 2) (b := 26) (by decide) rfl (fun _ => rfl) (by omega) (by decide) dX7_film_69 ?_
            refine z_ic C dX7_film_70 ?_
            refine z_iln C hl 4 rfl dX7_film_71 ?_
            refine z_iln C hl 3 rfl dX7_film_72 ?_
            refine z_il C hl 5 rfl dX7_film_73 ?_
            refine z_vRO C hP hl (c_X4_covers (σ := σ) (j := ((((σ 1 2) - 1) - k).toNat)) 1 row col (co σ 8 0 * row) (by omega) hI (by omega) (by omega) (by omega) (by omega)) (z_recv C hP (i := (26 + (((σ 1 2) - 1) - k).toNat)) (by omega) (cE_run (j := (((σ 1 2) - 1) - k).toNat) (by omega) _) (ci := 4) rfl) wg_259 wg_3 wg_256 wg_257 wg_258 cw_X4_covers ⟨Nat.le_of_ble_eq_true rfl, Nat.le_of_ble_eq_true rfl⟩ rfl rfl (Nat.le_of_ble_eq_true rfl) dX7_film_75 ?_
            refine z_bif_eq C 89 (by decide) dX7_film_78 (fun w4 => ?_) (fun w4 => ?_)
            · skip
              refine z_iinc C hl 6 rfl [(5, .int (zI (k + 1))), (6, .int (zI (((σ 1 2) - 1) - k))), (0, .ref (q 1)), (1, .int (zI side)), (2, .int (zI col)), (3, .int (zI row)), (4, .int (zI (co σ 8 0 * row)))] (by decide) rfl dX7_film_89 (fun ls hl => ?_)
              refine z_goto C 10 (by decide) dX7_film_92 ?_
              exact ih10 (k + 1) (by omega) (by omega) (by rw [hi, if_neg w3, if_neg w4]) ls (lv_sub hl [2, 3, 4, 5, 6, 0] rfl)
            · skip
              refine z_il C hl 0 rfl dX7_film_81 ?_
              refine z_snRO C hP hl (c_X8_torsoMark (σ := σ) (((σ 1 2) - 1) - k) )  wg_262 wg_1 wm_260 wg_261 cw_X8_torsoMark ⟨Nat.le_of_ble_eq_true rfl, Nat.le_of_ble_eq_true rfl⟩ rfl rfl (Nat.le_of_ble_eq_true rfl) dX7_film_83 ?_
              refine z_ic C dX7_film_86 ?_
              refine z_iadd C dX7_film_87 ?_
              exact z_iret B (by rw [hi, if_neg w3, if_pos w4]) dX7_film_88
          · skip
            refine z_il C hl 0 rfl dX7_film_57 ?_
            refine z_snRO C hP hl (c_X8_torsoMark (σ := σ) (((σ 1 2) - 1) - k) )  wg_262 wg_1 wm_260 wg_261 cw_X8_torsoMark ⟨Nat.le_of_ble_eq_true rfl, Nat.le_of_ble_eq_true rfl⟩ rfl rfl (Nat.le_of_ble_eq_true rfl) dX7_film_59 ?_
            exact z_iret B (by rw [hi, if_pos w3]) dX7_film_62
        · skip
          refine z_il C hl 5 rfl dX7_film_23 ?_
          refine z_goto C 37 (by decide) dX7_film_25 ?_
          have hln : kLane (co σ) side k = k := by unfold kLane; split <;> omega
          rw [hln] at hi
          refine z_ist C hl [(6, .int (zI k)), (0, .ref (q 1)), (1, .int (zI side)), (2, .int (zI col)), (3, .int (zI row)), (4, .int (zI (co σ 8 0 * row))), (5, .int (zI k))] (by decide) rfl dX7_film_37 (fun ls hl => ?_)
          refine z_aln C hl 1 rfl dX7_film_39 ?_
          refine gf_X7_11 C hP dX7_film_40 ?_
          refine z_il C hl 0 rfl dX7_film_43 ?_
          refine z_aald C hP (i := 7) (t := 2) (b := 26) (by decide) rfl (fun _ => rfl) (by omega) (by decide) dX7_film_45 ?_
          refine z_ic C dX7_film_46 ?_
          refine z_iln C hl 4 rfl dX7_film_47 ?_
          refine z_iln C hl 3 rfl dX7_film_48 ?_
          refine z_il C hl 5 rfl dX7_film_49 ?_
          refine z_vRO C hP hl (c_X4_covers (σ := σ) (j := (k.toNat)) 0 row col (co σ 8 0 * row) (by omega) hI (by omega) (by omega) (by omega) (by omega)) (z_recv C hP (i := (26 + k.toNat)) (by omega) (cE_run (j := k.toNat) (by omega) _) (ci := 4) rfl) wg_259 wg_3 wg_256 wg_257 wg_258 cw_X4_covers ⟨Nat.le_of_ble_eq_true rfl, Nat.le_of_ble_eq_true rfl⟩ rfl rfl (Nat.le_of_ble_eq_true rfl) dX7_film_51 ?_
          refine z_bif_eq C 63 (by decide) dX7_film_54 (fun w5 => ?_) (fun w5 => ?_)
          · skip
            refine z_aln C hl 1 rfl dX7_film_63 ?_
            refine gf_X7_11 C hP dX7_film_64 ?_
            refine z_il C hl 0 rfl dX7_film_67 ?_
            refine z_aald C hP (i := 7) (t := 2) (b := 26) (by decide) rfl (fun _ => rfl) (by omega) (by decide) dX7_film_69 ?_
            refine z_ic C dX7_film_70 ?_
            refine z_iln C hl 4 rfl dX7_film_71 ?_
            refine z_iln C hl 3 rfl dX7_film_72 ?_
            refine z_il C hl 5 rfl dX7_film_73 ?_
            refine z_vRO C hP hl (c_X4_covers (σ := σ) (j := (k.toNat)) 1 row col (co σ 8 0 * row) (by omega) hI (by omega) (by omega) (by omega) (by omega)) (z_recv C hP (i := (26 + k.toNat)) (by omega) (cE_run (j := k.toNat) (by omega) _) (ci := 4) rfl) wg_259 wg_3 wg_256 wg_257 wg_258 cw_X4_covers ⟨Nat.le_of_ble_eq_true rfl, Nat.le_of_ble_eq_true rfl⟩ rfl rfl (Nat.le_of_ble_eq_true rfl) dX7_film_75 ?_
            refine z_bif_eq C 89 (by decide) dX7_film_78 (fun w6 => ?_) (fun w6 => ?_)
            · skip
              refine z_iinc C hl 6 rfl [(5, .int (zI (k + 1))), (6, .int (zI k)), (0, .ref (q 1)), (1, .int (zI side)), (2, .int (zI col)), (3, .int (zI row)), (4, .int (zI (co σ 8 0 * row)))] (by decide) rfl dX7_film_89 (fun ls hl => ?_)
              refine z_goto C 10 (by decide) dX7_film_92 ?_
              exact ih10 (k + 1) (by omega) (by omega) (by rw [hi, if_neg w5, if_neg w6]) ls (lv_sub hl [2, 3, 4, 5, 6, 0] rfl)
            · skip
              refine z_il C hl 0 rfl dX7_film_81 ?_
              refine z_snRO C hP hl (c_X8_torsoMark (σ := σ) k )  wg_262 wg_1 wm_260 wg_261 cw_X8_torsoMark ⟨Nat.le_of_ble_eq_true rfl, Nat.le_of_ble_eq_true rfl⟩ rfl rfl (Nat.le_of_ble_eq_true rfl) dX7_film_83 ?_
              refine z_ic C dX7_film_86 ?_
              refine z_iadd C dX7_film_87 ?_
              exact z_iret B (by rw [hi, if_neg w5, if_pos w6]) dX7_film_88
          · skip
            refine z_il C hl 0 rfl dX7_film_57 ?_
            refine z_snRO C hP hl (c_X8_torsoMark (σ := σ) k )  wg_262 wg_1 wm_260 wg_261 cw_X8_torsoMark ⟨Nat.le_of_ble_eq_true rfl, Nat.le_of_ble_eq_true rfl⟩ rfl rfl (Nat.le_of_ble_eq_true rfl) dX7_film_59 ?_
            exact z_iret B (by rw [hi, if_pos w5]) dX7_film_62
  exact L10 ((σ 1 2 - 0 : Int).toNat + 1) 0 (by omega) (by omega) (by rw [Int.sub_zero]; rfl) ls (lv_sub hl [2, 3, 4, 5, 1, 0] rfl)

set_option maxHeartbeats 4000000 in
set_option maxRecDepth 100000 in
theorem c_X7_firstShown {l : Launch} {D : va_G} {q : Nat → Nat} {g : Nat → ClassId} {σ : Mem} (side lane row : Int) (hI : TI σ) (hsi : 0 ≤ side ∧ side ≤ 1) (hla : 0 ≤ lane ∧ lane < σ 1 2) (hy : 0 ≤ row ∧ row ≤ 5) : RO l yX7_firstShown cX7_firstShown 7 (some .int) 3 66 D q g σ [.ref (q 1), .int (zI side), .int (zI lane), .int (zI row)] (some (.int (zI (kFS (co σ) side lane row)))) := by
  refine RO.intro (plainFor_of_name (by decide)) (Nat.le_of_ble_eq_true rfl) (fun p e s m args below meth c ls B hP hl => ?_)
  have C := B.1
  have hl : lv_has ls 7 [(0, .ref (q 1)), (1, .int (zI side)), (2, .int (zI lane)), (3, .int (zI row))] := hl
  have h1 := hI.1
  have hIc := TI_cc hI
  have hm := mul_l (a := co σ 8 0) hI.2.1.1 hy
  have hfo := kFO_b hIc (j := lane.toNat) (by omega) (what := 0) (row := row) (place := co σ 8 0 * row) (by omega) (by omega)
  have hlo := kLO_b hIc (j := lane.toNat) (by omega) (what := 0) (row := row) (place := co σ 8 0 * row) (by omega) (by omega)
  refine z_aln C hl 0 rfl dX7_firstShown_0 ?_
  refine z_iln C hl 3 rfl dX7_firstShown_1 ?_
  refine z_vRO C hP hl (c_X7_slitPlace (σ := σ) row ) (z_recv C hP (i := 1) (by decide) rfl (ci := 7) rfl) wg_255 wg_2 wg_252 wg_253 wg_254 cw_X7_slitPlace ⟨Nat.le_of_ble_eq_true rfl, Nat.le_of_ble_eq_true rfl⟩ rfl rfl (Nat.le_of_ble_eq_true rfl) dX7_firstShown_2 ?_
  refine z_ist C hl [(4, .int (zI (co σ 8 0 * row))), (0, .ref (q 1)), (1, .int (zI side)), (2, .int (zI lane)), (3, .int (zI row))] (by decide) rfl dX7_firstShown_5 (fun ls hl => ?_)
  refine z_aln C hl 1 rfl dX7_firstShown_7 ?_
  refine gf_X7_11 C hP dX7_firstShown_8 ?_
  refine z_iln C hl 3 rfl dX7_firstShown_11 ?_
  refine z_aald C hP (i := 7) (t := 2) (b := 26) (by decide) rfl (fun _ => rfl) (by omega) (by decide) dX7_firstShown_12 ?_
  refine z_ic C dX7_firstShown_13 ?_
  refine z_iln C hl 4 rfl dX7_firstShown_14 ?_
  refine z_il C hl 0 rfl dX7_firstShown_15 ?_
  refine z_vRO C hP hl (c_X4_lastOver (σ := σ) (j := (lane.toNat)) 0 row (co σ 8 0 * row) (by omega) hI (by omega) (by omega) (by omega)) (z_recv C hP (i := (26 + lane.toNat)) (by omega) (cE_run (j := lane.toNat) (by omega) _) (ci := 4) rfl) wg_279 wg_3 wg_276 wg_277 wg_278 cw_X4_lastOver ⟨Nat.le_of_ble_eq_true rfl, Nat.le_of_ble_eq_true rfl⟩ rfl rfl (Nat.le_of_ble_eq_true rfl) dX7_firstShown_17 ?_
  refine z_ist C hl [(5, .int (zI (kLO (co σ) (lane.toNat) 0 row (co σ 8 0 * row)))), (4, .int (zI (co σ 8 0 * row))), (0, .ref (q 1)), (1, .int (zI side)), (2, .int (zI lane)), (3, .int (zI row))] (by decide) rfl dX7_firstShown_20 (fun ls hl => ?_)
  refine z_aln C hl 2 rfl dX7_firstShown_22 ?_
  refine gf_X7_11 C hP dX7_firstShown_23 ?_
  refine z_iln C hl 4 rfl dX7_firstShown_26 ?_
  refine z_aald C hP (i := 7) (t := 2) (b := 26) (by decide) rfl (fun _ => rfl) (by omega) (by decide) dX7_firstShown_27 ?_
  refine z_ic C dX7_firstShown_28 ?_
  refine z_iln C hl 5 rfl dX7_firstShown_29 ?_
  refine z_il C hl 1 rfl dX7_firstShown_30 ?_
  refine z_vRO C hP hl (c_X4_firstOver (σ := σ) (j := (lane.toNat)) 0 row (co σ 8 0 * row) (by omega) hI (by omega) (by omega) (by omega)) (z_recv C hP (i := (26 + lane.toNat)) (by omega) (cE_run (j := lane.toNat) (by omega) _) (ci := 4) rfl) wg_292 wg_3 wg_289 wg_290 wg_291 cw_X4_firstOver ⟨Nat.le_of_ble_eq_true rfl, Nat.le_of_ble_eq_true rfl⟩ rfl rfl (Nat.le_of_ble_eq_true rfl) dX7_firstShown_32 ?_
  refine z_ist C hl [(6, .int (zI (kFO (co σ) (lane.toNat) 0 row (co σ 8 0 * row)))), (5, .int (zI (kLO (co σ) (lane.toNat) 0 row (co σ 8 0 * row)))), (4, .int (zI (co σ 8 0 * row))), (0, .ref (q 1)), (1, .int (zI side)), (2, .int (zI lane)), (3, .int (zI row))] (by decide) rfl dX7_firstShown_35 (fun ls hl => ?_)
  have L37 : ∀ (n : Nat) (x : Int)  , max 0 (kLO (co σ) lane.toNat 0 row (co σ 8 0 * row) + 1 - x) < (n : Int) → (0 ≤ x ∧ x ≤ 100001) → (kFS (co σ) side lane row = kFSF (co σ) side lane row (kLO (co σ) lane.toNat 0 row (co σ 8 0 * row) + 1 - x).toNat x) → ∀ ls : Array Slot, lv_has ls 7 [(0, .ref (q 1)), (1, .int (zI side)), (2, .int (zI lane)), (3, .int (zI row)), (4, .int (zI (co σ 8 0 * row))), (5, .int (zI (kLO (co σ) (lane.toNat) 0 row (co σ 8 0 * row)))), (6, .int (zI x))] → WO p l e 3 66 s m args below meth c (some (.int (zI (kFS (co σ) side lane row)))) (F0 m 37 ls []) := by
    intro n
    induction n with
    | zero => intro x hm hx hi ls hl; exact False.elim (by omega)
    | succ n ih =>
      intro x hm hx hi ls hl
      have ih37 := ih; clear ih
      refine z_il C hl 6 rfl dX7_firstShown_37 ?_
      refine z_il C hl 5 rfl dX7_firstShown_39 ?_
      refine z_icmp_gt C 68 (by decide) (by omega) (by omega) dX7_firstShown_41 (fun w1 => ?_) (fun w1 => ?_)
      · skip
        refine z_ldc C (n := 10000000) wg_271 (by decide) dX7_firstShown_68 ?_
        exact z_iret B (by rw [hi, show (kLO (co σ) lane.toNat 0 row (co σ 8 0 * row) + 1 - x).toNat = 0 by omega]; rfl) dX7_firstShown_70
      · skip
        have hu : (kLO (co σ) lane.toNat 0 row (co σ 8 0 * row) + 1 - x).toNat = (kLO (co σ) lane.toNat 0 row (co σ 8 0 * row) + 1 - (x + 1)).toNat + 1 := by omega
        rw [hu, kFSF] at hi
        have hfb := kFilm_b hIc side x row
        refine z_aln C hl 0 rfl dX7_firstShown_44 ?_
        refine z_iln C hl 1 rfl dX7_firstShown_45 ?_
        refine z_il C hl 6 rfl dX7_firstShown_46 ?_
        refine z_iln C hl 3 rfl dX7_firstShown_48 ?_
        refine z_vRO C hP hl (c_X7_film (σ := σ) side x row hI (by omega) (by omega) (by omega)) (z_recv C hP (i := 1) (by decide) rfl (ci := 7) rfl) wg_251 wg_2 wg_299 wg_249 wg_250 cw_X7_film ⟨Nat.le_of_ble_eq_true rfl, Nat.le_of_ble_eq_true rfl⟩ rfl rfl (Nat.le_of_ble_eq_true rfl) dX7_firstShown_49 ?_
        refine z_iln C hl 2 rfl dX7_firstShown_52 ?_
        refine z_snRO C hP hl (c_X8_torsoMark (σ := σ) lane )  wg_262 wg_1 wm_260 wg_261 cw_X8_torsoMark ⟨Nat.le_of_ble_eq_true rfl, Nat.le_of_ble_eq_true rfl⟩ rfl rfl (Nat.le_of_ble_eq_true rfl) dX7_firstShown_53 ?_
        refine z_icmp_ne C 62 (by decide) (by omega) (by omega) dX7_firstShown_56 (fun w2 => ?_) (fun w2 => ?_)
        · skip
          refine z_iinc C hl 6 rfl [(6, .int (zI (x + 1))), (0, .ref (q 1)), (1, .int (zI side)), (2, .int (zI lane)), (3, .int (zI row)), (4, .int (zI (co σ 8 0 * row))), (5, .int (zI (kLO (co σ) (lane.toNat) 0 row (co σ 8 0 * row))))] (by decide) rfl dX7_firstShown_62 (fun ls hl => ?_)
          refine z_goto C 37 (by decide) dX7_firstShown_65 ?_
          exact ih37 (x + 1) (by omega) (by omega) (by rw [hi, if_neg w2]) ls (lv_sub hl [1, 2, 3, 4, 5, 6, 0] rfl)
        · skip
          refine z_il C hl 6 rfl dX7_firstShown_59 ?_
          exact z_iret B (by rw [hi, if_pos w2]) dX7_firstShown_61
  exact L37 ((max 0 (kLO (co σ) lane.toNat 0 row (co σ 8 0 * row) + 1 - (kFO (co σ) (lane.toNat) 0 row (co σ 8 0 * row))) : Int).toNat + 1) (kFO (co σ) (lane.toNat) 0 row (co σ 8 0 * row)) (by omega) (by omega) rfl ls (lv_sub hl [3, 4, 5, 6, 2, 1, 0] rfl)

set_option maxHeartbeats 4000000 in
set_option maxRecDepth 100000 in
theorem c_X7_hair {l : Launch} {D : va_G} {q : Nat → Nat} {g : Nat → ClassId} {σ : Mem} (side lane : Int) (hI : TI σ) (hsi : 0 ≤ side ∧ side ≤ 1) (hla : 0 ≤ lane ∧ lane < σ 1 2) : RO l yX7_hair cX7_hair 5 (some .int) 4 92 D q g σ [.ref (q 1), .int (zI side), .int (zI lane)] (some (.int (zI (kHr (co σ) side lane)))) := by
  refine RO.intro (plainFor_of_name (by decide)) (Nat.le_of_ble_eq_true rfl) (fun p e s m args below meth c ls B hP hl => ?_)
  have C := B.1
  have hl : lv_has ls 5 [(0, .ref (q 1)), (1, .int (zI side)), (2, .int (zI lane))] := hl
  have h1 := hI.1
  have hIc := TI_cc hI
  refine z_ldc C (n := 10000000) wg_271 (by decide) dX7_hair_0 ?_
  refine z_isn C hl [(3, .int (zI 10000000)), (0, .ref (q 1)), (1, .int (zI side)), (2, .int (zI lane))] (by decide) rfl dX7_hair_2 (fun ls hl => ?_)
  refine z_ic C dX7_hair_3 ?_
  refine z_ist C hl [(4, .int (zI 0)), (3, .int (zI 10000000)), (0, .ref (q 1)), (1, .int (zI side)), (2, .int (zI lane))] (by decide) rfl dX7_hair_4 (fun ls hl => ?_)
  have L6 : ∀ (n : Nat) (x : Int) (r : Int)  , 6 - r < (n : Int) → (0 ≤ r ∧ r ≤ 6) → (x = kHrF (co σ) side lane r.toNat) → ∀ ls : Array Slot, lv_has ls 5 [(0, .ref (q 1)), (1, .int (zI side)), (2, .int (zI lane)), (3, .int (zI x)), (4, .int (zI r))] → WO p l e 4 92 s m args below meth c (some (.int (zI (kHr (co σ) side lane)))) (F0 m 6 ls []) := by
    intro n
    induction n with
    | zero => intro x r hm hr hx ls hl; exact False.elim (by omega)
    | succ n ih =>
      intro x r hm hr hx ls hl
      have ih6 := ih; clear ih
      refine z_il C hl 4 rfl dX7_hair_6 ?_
      refine z_bp C dX7_hair_8 rfl ?_
      refine z_icmp_ge C 32 (by decide) (by omega) (by omega) dX7_hair_10 (fun w1 => ?_) (fun w1 => ?_)
      · skip
        refine z_iln C hl 3 rfl dX7_hair_32 ?_
        exact z_iret B (by rw [hx, show r.toNat = 6 by omega]; rfl) dX7_hair_33
      · skip
        have hxb := kHrF_b hIc (side := side) (lane := lane) (by omega) r.toNat (by omega)
        have hfb := kFS_b hIc (side := side) (lane := lane) (row := r) (by omega) (by omega)
        refine z_iln C hl 3 rfl dX7_hair_13 ?_
        refine z_aln C hl 0 rfl dX7_hair_14 ?_
        refine z_iln C hl 1 rfl dX7_hair_15 ?_
        refine z_iln C hl 2 rfl dX7_hair_16 ?_
        refine z_il C hl 4 rfl dX7_hair_17 ?_
        refine z_vRO C hP hl (c_X7_firstShown (σ := σ) side lane r hI (by omega) (by omega) (by omega)) (z_recv C hP (i := 1) (by decide) rfl (ci := 7) rfl) wg_275 wg_2 wg_272 wg_273 wg_274 cw_X7_firstShown ⟨Nat.le_of_ble_eq_true rfl, Nat.le_of_ble_eq_true rfl⟩ rfl rfl (Nat.le_of_ble_eq_true rfl) dX7_hair_19 ?_
        refine z_sRO C hP hl (c_J9_min_7cf53 (σ := σ) x (kFS (co σ) side lane r) (by omega) (by omega))  wg_288 wg_11 wg_300 wg_287 cw_J9_min_7cf53 ⟨Nat.le_of_ble_eq_true rfl, Nat.le_of_ble_eq_true rfl⟩ rfl rfl (Nat.le_of_ble_eq_true rfl) dX7_hair_22 ?_
        refine z_isn C hl [(3, .int (zI (min x (kFS (co σ) side lane r)))), (0, .ref (q 1)), (1, .int (zI side)), (2, .int (zI lane)), (4, .int (zI r))] (by decide) rfl dX7_hair_25 (fun ls hl => ?_)
        refine z_iinc C hl 4 rfl [(4, .int (zI (r + 1))), (3, .int (zI (min x (kFS (co σ) side lane r)))), (0, .ref (q 1)), (1, .int (zI side)), (2, .int (zI lane))] (by decide) rfl dX7_hair_26 (fun ls hl => ?_)
        refine z_goto C 6 (by decide) dX7_hair_29 ?_
        exact ih6 (min x (kFS (co σ) side lane r)) (r + 1) (by omega) (by omega) (by rw [show (r + 1).toNat = r.toNat + 1 by omega, kHrF, ← hx, show ((r.toNat : Nat) : Int) = r by omega]) ls (lv_sub hl [2, 3, 4, 1, 0] rfl)
  exact L6 ((6 - 0 : Int).toNat + 1) 10000000 0 (by omega) (by omega) rfl ls (lv_sub hl [2, 3, 4, 1, 0] rfl)

set_option maxHeartbeats 4000000 in
set_option maxRecDepth 100000 in
theorem c_X7_joined {l : Launch} {D : va_G} {q : Nat → Nat} {g : Nat → ClassId} {σ : Mem} (lane : Int) (hI : TI σ) (hla : 0 ≤ lane ∧ lane < σ 1 2) : RO l yX7_joined cX7_joined 2 (some .int) 5 116 D q g σ [.ref (q 1), .int (zI lane)] (some (.int (zI (kJn (co σ) lane)))) := by
  refine RO.intro (plainFor_of_name (by decide)) (Nat.le_of_ble_eq_true rfl) (fun p e s m args below meth c ls B hP hl => ?_)
  have C := B.1
  have hl : lv_has ls 2 [(0, .ref (q 1)), (1, .int (zI lane))] := hl
  have h1 := hI.1
  have hIc := TI_cc hI
  have ha := kHr_b hIc (side := 0) (lane := lane) (by omega)
  have hb := kHr_b hIc (side := 1) (lane := lane) (by omega)
  refine z_aln C hl 0 rfl dX7_joined_0 ?_
  refine z_ic C dX7_joined_1 ?_
  refine z_iln C hl 1 rfl dX7_joined_2 ?_
  refine z_vRO C hP hl (c_X7_hair (σ := σ) 0 lane hI (by omega) (by omega)) (z_recv C hP (i := 1) (by decide) rfl (ci := 7) rfl) wg_270 wg_2 wg_309 wg_268 wg_269 cw_X7_hair ⟨Nat.le_of_ble_eq_true rfl, Nat.le_of_ble_eq_true rfl⟩ rfl rfl (Nat.le_of_ble_eq_true rfl) dX7_joined_3 ?_
  refine z_aln C hl 0 rfl dX7_joined_6 ?_
  refine z_ic C dX7_joined_7 ?_
  refine z_iln C hl 1 rfl dX7_joined_8 ?_
  refine z_vRO C hP hl (c_X7_hair (σ := σ) 1 lane hI (by omega) (by omega)) (z_recv C hP (i := 1) (by decide) rfl (ci := 7) rfl) wg_270 wg_2 wg_309 wg_268 wg_269 cw_X7_hair ⟨Nat.le_of_ble_eq_true rfl, Nat.le_of_ble_eq_true rfl⟩ rfl rfl (Nat.le_of_ble_eq_true rfl) dX7_joined_9 ?_
  refine z_sRO C hP hl (c_J9_min_7cf53 (σ := σ) (kHr (co σ) 0 lane) (kHr (co σ) 1 lane) (by omega) (by omega))  wg_288 wg_11 wg_300 wg_287 cw_J9_min_7cf53 ⟨Nat.le_of_ble_eq_true rfl, Nat.le_of_ble_eq_true rfl⟩ rfl rfl (Nat.le_of_ble_eq_true rfl) dX7_joined_12 ?_
  exact z_iret B rfl dX7_joined_15

set_option maxHeartbeats 4000000 in
set_option maxRecDepth 100000 in
theorem c_X7_leaned {l : Launch} {D : va_G} {q : Nat → Nat} {g : Nat → ClassId} {σ : Mem} (lane : Int) (hI : TI σ) (hla : 0 ≤ lane ∧ lane < σ 1 2) : RO l yX7_leaned cX7_leaned 2 (some .int) 4 89 D q g σ [.ref (q 1), .int (zI lane)] (some (.int (zI (kLn (co σ) lane)))) := by
  refine RO.intro (plainFor_of_name (by decide)) (Nat.le_of_ble_eq_true rfl) (fun p e s m args below meth c ls B hP hl => ?_)
  have C := B.1
  have hl : lv_has ls 2 [(0, .ref (q 1)), (1, .int (zI lane))] := hl
  have h1 := hI.1
  have h2 := hI.2.1
  refine z_aln C hl 0 rfl dX7_leaned_0 ?_
  refine gf_X7_11 C hP dX7_leaned_1 ?_
  refine z_iln C hl 1 rfl dX7_leaned_4 ?_
  refine z_aald C hP (i := 7) (t := 2) (b := 26) (by decide) rfl (fun _ => rfl) (by omega) (by decide) dX7_leaned_5 ?_
  refine z_aln C hl 0 rfl dX7_leaned_6 ?_
  refine gf_X7_17 C hP dX7_leaned_7 ?_
  refine z_ic C dX7_leaned_10 ?_
  refine z_ialk C hP (i := 8) (by decide) (fun _ => rfl) 0 rfl (by decide) (by decide) dX7_leaned_11 ?_
  refine z_vRO C hP hl (c_X4_crossing (σ := σ) (j := (lane.toNat)) (σ 8 0) (by omega) hI (by omega)) (z_recv C hP (i := (26 + lane.toNat)) (by omega) (cE_run (j := lane.toNat) (by omega) _) (ci := 4) rfl) wg_313 wg_3 wg_320 wg_311 wg_312 cw_X4_crossing ⟨Nat.le_of_ble_eq_true rfl, Nat.le_of_ble_eq_true rfl⟩ rfl rfl (Nat.le_of_ble_eq_true rfl) dX7_leaned_12 ?_
  exact z_iret B rfl dX7_leaned_15

set_option maxHeartbeats 4000000 in
set_option maxRecDepth 100000 in
theorem c_X7_isHidden {l : Launch} {D : va_G} {q : Nat → Nat} {g : Nat → ClassId} {σ : Mem} (lane : Int) (hI : TI σ) (hla : 0 ≤ lane ∧ lane < σ 1 2) : RO l yX7_isHidden cX7_isHidden 2 (some .boolean) 6 137 D q g σ [.ref (q 1), .int (zI lane)] (some (.int (zI (bz (kHid (co σ) lane = true))))) := by
  refine RO.intro (plainFor_of_name (by decide)) (Nat.le_of_ble_eq_true rfl) (fun p e s m args below meth c ls B hP hl => ?_)
  have C := B.1
  have hl : lv_has ls 2 [(0, .ref (q 1)), (1, .int (zI lane))] := hl
  have h1 := hI.1
  have hIc := TI_cc hI
  have ha := kJn_b hIc (lane := lane) (by omega)
  have hb := kLn_b hIc (lane := lane) (by omega)
  refine z_aln C hl 0 rfl dX7_isHidden_0 ?_
  refine gf_X7_11 C hP dX7_isHidden_1 ?_
  refine z_iln C hl 1 rfl dX7_isHidden_4 ?_
  refine z_aald C hP (i := 7) (t := 2) (b := 26) (by decide) rfl (fun _ => rfl) (by omega) (by decide) dX7_isHidden_5 ?_
  refine z_vRO C hP hl (c_X4_hasTorso (σ := σ) (j := (lane.toNat))  (by omega) hI) (z_recv C hP (i := (26 + lane.toNat)) (by omega) (cE_run (j := lane.toNat) (by omega) _) (ci := 4) rfl) wg_328 wg_3 wg_325 wg_326 wg_327 cw_X4_hasTorso ⟨Nat.le_of_ble_eq_true rfl, Nat.le_of_ble_eq_true rfl⟩ rfl rfl (Nat.le_of_ble_eq_true rfl) dX7_isHidden_6 ?_
  refine z_bif_eq C 29 (by decide) dX7_isHidden_9 (fun w1 => ?_) (fun w1 => ?_)
  · skip
    refine z_ic C dX7_isHidden_29 ?_
    exact z_bret0 B (by unfold kHid; simp [w1] <;> omega) dX7_isHidden_30
  · skip
    refine z_aln C hl 0 rfl dX7_isHidden_12 ?_
    refine z_iln C hl 1 rfl dX7_isHidden_13 ?_
    refine z_vRO C hP hl (c_X7_joined (σ := σ) lane hI (by omega)) (z_recv C hP (i := 1) (by decide) rfl (ci := 7) rfl) wg_308 wg_2 wg_329 wg_306 wg_307 cw_X7_joined ⟨Nat.le_of_ble_eq_true rfl, Nat.le_of_ble_eq_true rfl⟩ rfl rfl (Nat.le_of_ble_eq_true rfl) dX7_isHidden_14 ?_
    refine z_aln C hl 0 rfl dX7_isHidden_17 ?_
    refine z_iln C hl 1 rfl dX7_isHidden_18 ?_
    refine z_vRO C hP hl (c_X7_leaned (σ := σ) lane hI (by omega)) (z_recv C hP (i := 1) (by decide) rfl (ci := 7) rfl) wg_319 wg_2 wg_330 wg_317 wg_318 cw_X7_leaned ⟨Nat.le_of_ble_eq_true rfl, Nat.le_of_ble_eq_true rfl⟩ rfl rfl (Nat.le_of_ble_eq_true rfl) dX7_isHidden_19 ?_
    refine z_icmp_le C 29 (by decide) (by omega) (by omega) dX7_isHidden_22 (fun w2 => ?_) (fun w2 => ?_)
    · skip
      refine z_ic C dX7_isHidden_29 ?_
      exact z_bret0 B (by unfold kHid; simp [w1, w2] <;> omega) dX7_isHidden_30
    · skip
      refine z_ic C dX7_isHidden_25 ?_
      refine z_goto C 30 (by decide) dX7_isHidden_26 ?_
      exact z_bret1 B (by unfold kHid; simp [w1, w2] <;> omega) dX7_isHidden_30

set_option maxHeartbeats 4000000 in
set_option maxRecDepth 100000 in
theorem c_X7_hears {l : Launch} {D : va_G} {q : Nat → Nat} {g : Nat → ClassId} {σ : Mem} (lane : Int) (hI : TI σ) (hla : 0 ≤ lane ∧ lane < σ 1 2) : RO l yX7_hears cX7_hears 3 (some .int) 1 21 D q g σ [.ref (q 1), .int (zI lane)] (some (.int (zI (kHe (co σ) lane)))) := by
  refine RO.intro (plainFor_of_name (by decide)) (Nat.le_of_ble_eq_true rfl) (fun p e s m args below meth c ls B hP hl => ?_)
  have C := B.1
  have hl : lv_has ls 3 [(0, .ref (q 1)), (1, .int (zI lane))] := hl
  have h1 := hI.1
  have h2 := hI.2.1
  have e12 : co σ 1 2 = σ 1 2 := rfl
  have e83 : co σ 8 3 = σ 8 3 := rfl
  refine z_aln C hl 0 rfl dX7_hears_0 ?_
  refine gf_X7_17 C hP dX7_hears_1 ?_
  refine z_ic C dX7_hears_4 ?_
  refine z_ialk C hP (i := 8) (by decide) (fun _ => rfl) 3 rfl (by decide) (by decide) dX7_hears_5 ?_
  refine z_ic C dX7_hears_6 ?_
  refine z_icmp_ne C 25 (by decide) (by omega) (by omega) dX7_hears_7 (fun w1 => ?_) (fun w1 => ?_)
  · skip
    refine z_iln C hl 1 rfl dX7_hears_25 ?_
    refine z_isn C hl [(2, .int (zI lane)), (0, .ref (q 1)), (1, .int (zI lane))] (by decide) rfl dX7_hears_26 (fun ls hl => ?_)
    refine z_ic C dX7_hears_27 ?_
    refine z_iln C hl 0 rfl dX7_hears_28 ?_
    refine z_imul C dX7_hears_29 ?_
    exact z_iret B (by unfold kHe; split <;> omega) dX7_hears_30
  · skip
    refine z_iln C hl 1 rfl dX7_hears_10 ?_
    refine z_aln C hl 0 rfl dX7_hears_11 ?_
    refine gf_X7_22 C hP dX7_hears_12 ?_
    refine z_ic C dX7_hears_15 ?_
    refine z_isub C dX7_hears_16 ?_
    refine z_iln C hl 1 rfl dX7_hears_17 ?_
    refine z_isub C dX7_hears_18 ?_
    refine z_sRO C hP hl (c_J9_min_7cf53 (σ := σ) lane (((σ 1 2) - 1) - lane) (by omega) (by omega))  wg_288 wg_11 wg_300 wg_287 cw_J9_min_7cf53 ⟨Nat.le_of_ble_eq_true rfl, Nat.le_of_ble_eq_true rfl⟩ rfl rfl (Nat.le_of_ble_eq_true rfl) dX7_hears_19 ?_
    refine z_goto C 26 (by decide) dX7_hears_22 ?_
    refine z_isn C hl [(2, .int (zI (min lane (((σ 1 2) - 1) - lane)))), (0, .ref (q 1)), (1, .int (zI lane))] (by decide) rfl dX7_hears_26 (fun ls hl => ?_)
    refine z_ic C dX7_hears_27 ?_
    refine z_iln C hl 0 rfl dX7_hears_28 ?_
    refine z_imul C dX7_hears_29 ?_
    exact z_iret B (by unfold kHe; split <;> omega) dX7_hears_30

set_option maxHeartbeats 4000000 in
set_option maxRecDepth 100000 in
theorem c_X7_early {l : Launch} {D : va_G} {q : Nat → Nat} {g : Nat → ClassId} {σ : Mem} (lane : Int) (hI : TI σ) (hla : 0 ≤ lane ∧ lane < σ 1 2) : RO l yX7_early cX7_early 3 (some .int) 2 43 D q g σ [.ref (q 1), .int (zI lane)] (some (.int (zI (kEa (co σ) lane)))) := by
  refine RO.intro (plainFor_of_name (by decide)) (Nat.le_of_ble_eq_true rfl) (fun p e s m args below meth c ls B hP hl => ?_)
  have C := B.1
  have hl : lv_has ls 3 [(0, .ref (q 1)), (1, .int (zI lane))] := hl
  have h1 := hI.1
  have h2 := hI.2.1
  have hIc := TI_cc hI
  have hb := hI.2.2.1 lane.toNat (by omega)
  have hh := kHe_b hIc (lane := lane) hla
  have e82 : co σ 8 2 = σ 8 2 := rfl
  have e26 := congrFun (co_run (σ := σ) (j := lane.toNat) (by omega)) 4
  refine z_aln C hl 0 rfl dX7_early_0 ?_
  refine gf_X7_11 C hP dX7_early_1 ?_
  refine z_iln C hl 1 rfl dX7_early_4 ?_
  refine z_aald C hP (i := 7) (t := 2) (b := 26) (by decide) rfl (fun _ => rfl) (by omega) (by decide) dX7_early_5 ?_
  refine gf_X7_83 C hP (j := lane.toNat) (by omega) dX7_early_6 ?_
  refine z_isn C hl [(2, .int (zI (σ (26 + lane.toNat) 4))), (0, .ref (q 1)), (1, .int (zI lane))] (by decide) rfl dX7_early_9 (fun ls hl => ?_)
  refine z_iln C hl 0 rfl dX7_early_10 ?_
  refine z_bp C dX7_early_11 rfl ?_
  refine z_icmp_ne C 19 (by decide) (by omega) (by omega) dX7_early_13 (fun w1 => ?_) (fun w1 => ?_)
  · skip
    refine z_iln C hl 0 rfl dX7_early_19 ?_
    refine z_aln C hl 1 rfl dX7_early_20 ?_
    refine z_iln C hl 2 rfl dX7_early_21 ?_
    refine z_vRO C hP hl (c_X7_hears (σ := σ) lane hI (by omega)) (z_recv C hP (i := 1) (by decide) rfl (ci := 7) rfl) wg_334 wg_2 wg_339 wg_332 wg_333 cw_X7_hears ⟨Nat.le_of_ble_eq_true rfl, Nat.le_of_ble_eq_true rfl⟩ rfl rfl (Nat.le_of_ble_eq_true rfl) dX7_early_22 ?_
    refine z_aln C hl 1 rfl dX7_early_25 ?_
    refine gf_X7_17 C hP dX7_early_26 ?_
    refine z_ic C dX7_early_29 ?_
    refine z_ialk C hP (i := 8) (by decide) (fun _ => rfl) 2 rfl (by decide) (by decide) dX7_early_30 ?_
    refine z_iadd C dX7_early_31 ?_
    refine z_icmp_ge C 39 (by decide) (by omega) (by omega) dX7_early_32 (fun w2 => ?_) (fun w2 => ?_)
    · skip
      refine z_ic C dX7_early_39 ?_
      exact z_iret B (by unfold kEa; rw [e26]; split <;> (try split) <;> omega) dX7_early_40
    · skip
      refine z_ic C dX7_early_35 ?_
      refine z_goto C 40 (by decide) dX7_early_36 ?_
      exact z_iret B (by unfold kEa; rw [e26]; split <;> (try split) <;> omega) dX7_early_40
  · skip
    refine z_bp C dX7_early_16 rfl ?_
    exact z_iret B (by unfold kEa; rw [e26]; split <;> (try split) <;> omega) dX7_early_18

set_option maxHeartbeats 4000000 in
set_option maxRecDepth 100000 in
theorem c_X7_areMoved {l : Launch} {D : va_G} {q : Nat → Nat} {g : Nat → ClassId} {σ : Mem} (lane other : Int) (hI : TI σ) (hla : 0 ≤ lane ∧ lane < σ 1 2) (hlb : 0 ≤ other ∧ other < σ 1 2) : RO l yX7_areMoved cX7_areMoved 6 (some .boolean) 5 110 D q g σ [.ref (q 1), .int (zI lane), .int (zI other)] (some (.int (zI (bz (kMv (co σ) lane other = true))))) := by
  refine RO.intro (plainFor_of_name (by decide)) (Nat.le_of_ble_eq_true rfl) (fun p e s m args below meth c ls B hP hl => ?_)
  have C := B.1
  have hl : lv_has ls 6 [(0, .ref (q 1)), (1, .int (zI lane)), (2, .int (zI other))] := hl
  have h1 := hI.1
  have hIc := TI_cc hI
  have ha := kLn_b hIc (lane := lane) (by omega)
  have hb := kLn_b hIc (lane := other) (by omega)
  have hc := kCr_b hIc (j := lane.toNat) (by omega) (lean := 0) (by omega)
  have hd := kCr_b hIc (j := other.toNat) (by omega) (lean := 0) (by omega)
  have hs1 := sgn_b (kCr (co σ) lane.toNat 0 - kCr (co σ) other.toNat 0)
  have hs2 := sgn_b (kLn (co σ) lane - kLn (co σ) other)
  refine z_aln C hl 0 rfl dX7_areMoved_0 ?_
  refine gf_X7_11 C hP dX7_areMoved_1 ?_
  refine z_iln C hl 1 rfl dX7_areMoved_4 ?_
  refine z_aald C hP (i := 7) (t := 2) (b := 26) (by decide) rfl (fun _ => rfl) (by omega) (by decide) dX7_areMoved_5 ?_
  refine z_asn C hl [(3, .ref (q (26 + lane.toNat))), (0, .ref (q 1)), (1, .int (zI lane)), (2, .int (zI other))] (by decide) rfl dX7_areMoved_6 (fun ls hl => ?_)
  refine z_aln C hl 1 rfl dX7_areMoved_7 ?_
  refine gf_X7_11 C hP dX7_areMoved_8 ?_
  refine z_iln C hl 3 rfl dX7_areMoved_11 ?_
  refine z_aald C hP (i := 7) (t := 2) (b := 26) (by decide) rfl (fun _ => rfl) (by omega) (by decide) dX7_areMoved_12 ?_
  refine z_ast C hl [(4, .ref (q (26 + other.toNat))), (3, .ref (q (26 + lane.toNat))), (0, .ref (q 1)), (1, .int (zI lane)), (2, .int (zI other))] (by decide) rfl dX7_areMoved_13 (fun ls hl => ?_)
  refine z_aln C hl 1 rfl dX7_areMoved_15 ?_
  refine z_vRO C hP hl (c_X4_hasTorso (σ := σ) (j := (lane.toNat))  (by omega) hI) (z_recv C hP (i := (26 + lane.toNat)) (by omega) (cE_run (j := lane.toNat) (by omega) _) (ci := 4) rfl) wg_328 wg_3 wg_325 wg_326 wg_327 cw_X4_hasTorso ⟨Nat.le_of_ble_eq_true rfl, Nat.le_of_ble_eq_true rfl⟩ rfl rfl (Nat.le_of_ble_eq_true rfl) dX7_areMoved_16 ?_
  refine z_bif_eq C 30 (by decide) dX7_areMoved_19 (fun w1 => ?_) (fun w1 => ?_)
  · skip
    refine z_ic C dX7_areMoved_30 ?_
    exact z_bret0 B (by unfold kMv; simp [w1]) dX7_areMoved_31
  · skip
    refine z_al C hl 0 rfl dX7_areMoved_22 ?_
    refine z_vRO C hP hl (c_X4_hasTorso (σ := σ) (j := (other.toNat))  (by omega) hI) (z_recv C hP (i := (26 + other.toNat)) (by omega) (cE_run (j := other.toNat) (by omega) _) (ci := 4) rfl) wg_328 wg_3 wg_325 wg_326 wg_327 cw_X4_hasTorso ⟨Nat.le_of_ble_eq_true rfl, Nat.le_of_ble_eq_true rfl⟩ rfl rfl (Nat.le_of_ble_eq_true rfl) dX7_areMoved_24 ?_
    refine z_bif_ne C 32 (by decide) dX7_areMoved_27 (fun w2 => ?_) (fun w2 => ?_)
    · skip
      refine z_aln C hl 1 rfl dX7_areMoved_32 ?_
      refine z_ic C dX7_areMoved_33 ?_
      refine z_vRO C hP hl (c_X4_crossing (σ := σ) (j := (lane.toNat)) 0 (by omega) hI (by omega)) (z_recv C hP (i := (26 + lane.toNat)) (by omega) (cE_run (j := lane.toNat) (by omega) _) (ci := 4) rfl) wg_313 wg_3 wg_320 wg_311 wg_312 cw_X4_crossing ⟨Nat.le_of_ble_eq_true rfl, Nat.le_of_ble_eq_true rfl⟩ rfl rfl (Nat.le_of_ble_eq_true rfl) dX7_areMoved_34 ?_
      refine z_al C hl 0 rfl dX7_areMoved_37 ?_
      refine z_ic C dX7_areMoved_39 ?_
      refine z_vRO C hP hl (c_X4_crossing (σ := σ) (j := (other.toNat)) 0 (by omega) hI (by omega)) (z_recv C hP (i := (26 + other.toNat)) (by omega) (cE_run (j := other.toNat) (by omega) _) (ci := 4) rfl) wg_313 wg_3 wg_320 wg_311 wg_312 cw_X4_crossing ⟨Nat.le_of_ble_eq_true rfl, Nat.le_of_ble_eq_true rfl⟩ rfl rfl (Nat.le_of_ble_eq_true rfl) dX7_areMoved_40 ?_
      refine z_sRO C hP hl (c_J6_compare_7cf53 (σ := σ) (kCr (co σ) (lane.toNat) 0) (kCr (co σ) (other.toNat) 0) (by omega) (by omega))  wg_350 wg_12 wg_348 wg_349 cw_J6_compare_7cf53 ⟨Nat.le_of_ble_eq_true rfl, Nat.le_of_ble_eq_true rfl⟩ rfl rfl (Nat.le_of_ble_eq_true rfl) dX7_areMoved_43 ?_
      refine z_ist C hl [(5, .int (zI (sgn ((kCr (co σ) (lane.toNat) 0) - (kCr (co σ) (other.toNat) 0))))), (4, .ref (q (26 + other.toNat))), (3, .ref (q (26 + lane.toNat))), (0, .ref (q 1)), (1, .int (zI lane)), (2, .int (zI other))] (by decide) rfl dX7_areMoved_46 (fun ls hl => ?_)
      refine z_il C hl 0 rfl dX7_areMoved_48 ?_
      refine z_aln C hl 3 rfl dX7_areMoved_50 ?_
      refine z_iln C hl 4 rfl dX7_areMoved_51 ?_
      refine z_vRO C hP hl (c_X7_leaned (σ := σ) lane hI (by omega)) (z_recv C hP (i := 1) (by decide) rfl (ci := 7) rfl) wg_319 wg_2 wg_330 wg_317 wg_318 cw_X7_leaned ⟨Nat.le_of_ble_eq_true rfl, Nat.le_of_ble_eq_true rfl⟩ rfl rfl (Nat.le_of_ble_eq_true rfl) dX7_areMoved_52 ?_
      refine z_aln C hl 3 rfl dX7_areMoved_55 ?_
      refine z_iln C hl 5 rfl dX7_areMoved_56 ?_
      refine z_vRO C hP hl (c_X7_leaned (σ := σ) other hI (by omega)) (z_recv C hP (i := 1) (by decide) rfl (ci := 7) rfl) wg_319 wg_2 wg_330 wg_317 wg_318 cw_X7_leaned ⟨Nat.le_of_ble_eq_true rfl, Nat.le_of_ble_eq_true rfl⟩ rfl rfl (Nat.le_of_ble_eq_true rfl) dX7_areMoved_57 ?_
      refine z_sRO C hP hl (c_J6_compare_7cf53 (σ := σ) (kLn (co σ) lane) (kLn (co σ) other) (by omega) (by omega))  wg_350 wg_12 wg_348 wg_349 cw_J6_compare_7cf53 ⟨Nat.le_of_ble_eq_true rfl, Nat.le_of_ble_eq_true rfl⟩ rfl rfl (Nat.le_of_ble_eq_true rfl) dX7_areMoved_60 ?_
      refine z_icmp_eq C 70 (by decide) (by omega) (by omega) dX7_areMoved_63 (fun w3 => ?_) (fun w3 => ?_)
      · skip
        refine z_ic C dX7_areMoved_70 ?_
        exact z_bret0 B (by unfold kMv; simp [w1, w2, w3]) dX7_areMoved_71
      · skip
        refine z_ic C dX7_areMoved_66 ?_
        refine z_goto C 71 (by decide) dX7_areMoved_67 ?_
        exact z_bret1 B (by unfold kMv; simp [w1, w2, w3]) dX7_areMoved_71
    · skip
      refine z_ic C dX7_areMoved_30 ?_
      exact z_bret0 B (by unfold kMv; simp [w1, w2]) dX7_areMoved_31

set_option maxHeartbeats 4000000 in
set_option maxRecDepth 100000 in
theorem c_X7_countTorsos {l : Launch} {D : va_G} {q : Nat → Nat} {g : Nat → ClassId} {σ : Mem} (hI : TI σ) : RO l yX7_countTorsos cX7_countTorsos 3 (some .int) 1 21 D q g σ [.ref (q 1)] (some (.int (zI (kCT (co σ))))) := by
  refine RO.intro (plainFor_of_name (by decide)) (Nat.le_of_ble_eq_true rfl) (fun p e s m args below meth c ls B hP hl => ?_)
  have C := B.1
  have hl : lv_has ls 3 [(0, .ref (q 1))] := hl
  have h1 := hI.1
  have e12 : co σ 1 2 = σ 1 2 := rfl
  refine z_ic C dX7_countTorsos_0 ?_
  refine z_isn C hl [(1, .int (zI 0)), (0, .ref (q 1))] (by decide) rfl dX7_countTorsos_1 (fun ls hl => ?_)
  refine z_ic C dX7_countTorsos_2 ?_
  refine z_isn C hl [(2, .int (zI 0)), (1, .int (zI 0)), (0, .ref (q 1))] (by decide) rfl dX7_countTorsos_3 (fun ls hl => ?_)
  have L4 : ∀ (n : Nat) (x : Int) (k : Int)  , σ 1 2 - k < (n : Int) → (0 ≤ k ∧ k ≤ σ 1 2) → (x = kCTF (co σ) k.toNat) → ∀ ls : Array Slot, lv_has ls 3 [(0, .ref (q 1)), (1, .int (zI x)), (2, .int (zI k))] → WO p l e 1 21 s m args below meth c (some (.int (zI (kCT (co σ))))) (F0 m 4 ls []) := by
    intro n
    induction n with
    | zero => intro x k hm hk hx ls hl; exact False.elim (by omega)
    | succ n ih =>
      intro x k hm hk hx ls hl
      have ih4 := ih; clear ih
      refine z_iln C hl 2 rfl dX7_countTorsos_4 ?_
      refine z_aln C hl 0 rfl dX7_countTorsos_5 ?_
      refine gf_X7_22 C hP dX7_countTorsos_6 ?_
      refine z_icmp_ge C 33 (by decide) (by omega) (by omega) dX7_countTorsos_9 (fun w1 => ?_) (fun w1 => ?_)
      · skip
        refine z_iln C hl 1 rfl dX7_countTorsos_33 ?_
        exact z_iret B (by rw [hx, kCT, show (co σ 1 2).toNat = k.toNat by omega]) dX7_countTorsos_34
      · skip
        refine z_aln C hl 0 rfl dX7_countTorsos_12 ?_
        refine gf_X7_11 C hP dX7_countTorsos_13 ?_
        refine z_iln C hl 2 rfl dX7_countTorsos_16 ?_
        refine z_aald C hP (i := 7) (t := 2) (b := 26) (by decide) rfl (fun _ => rfl) (by omega) (by decide) dX7_countTorsos_17 ?_
        refine z_vRO C hP hl (c_X4_hasTorso (σ := σ) (j := (k.toNat))  (by omega) hI) (z_recv C hP (i := (26 + k.toNat)) (by omega) (cE_run (j := k.toNat) (by omega) _) (ci := 4) rfl) wg_328 wg_3 wg_325 wg_326 wg_327 cw_X4_hasTorso ⟨Nat.le_of_ble_eq_true rfl, Nat.le_of_ble_eq_true rfl⟩ rfl rfl (Nat.le_of_ble_eq_true rfl) dX7_countTorsos_18 ?_
        refine z_bif_eq C 27 (by decide) dX7_countTorsos_21 (fun w2 => ?_) (fun w2 => ?_)
        · skip
          refine z_iinc C hl 2 rfl [(2, .int (zI (k + 1))), (0, .ref (q 1)), (1, .int (zI x))] (by decide) rfl dX7_countTorsos_27 (fun ls hl => ?_)
          refine z_goto C 4 (by decide) dX7_countTorsos_30 ?_
          exact ih4 x (k + 1) (by omega) (by omega) (by rw [show (k + 1).toNat = k.toNat + 1 by omega, kCTF, if_neg w2, hx]) ls (lv_sub hl [1, 2, 0] rfl)
        · skip
          refine z_iinc C hl 1 rfl [(1, .int (zI (x + 1))), (0, .ref (q 1)), (2, .int (zI k))] (by decide) rfl dX7_countTorsos_24 (fun ls hl => ?_)
          refine z_iinc C hl 2 rfl [(2, .int (zI (k + 1))), (1, .int (zI (x + 1))), (0, .ref (q 1))] (by decide) rfl dX7_countTorsos_27 (fun ls hl => ?_)
          refine z_goto C 4 (by decide) dX7_countTorsos_30 ?_
          exact ih4 (x + 1) (k + 1) (by omega) (by omega) (by rw [show (k + 1).toNat = k.toNat + 1 by omega, kCTF, if_pos w2, hx]) ls (lv_sub hl [2, 1, 0] rfl)
  exact L4 ((σ 1 2 - 0 : Int).toNat + 1) 0 0 (by omega) (by omega) rfl ls (lv_sub hl [2, 1, 0] rfl)
