set_option maxHeartbeats 4000000 in
set_option maxRecDepth 100000 in
theorem c_X9_in {l : Launch} {D : va_G} {q : Nat → Nat} {g : Nat → ClassId} {σ : Mem} (v lo hi : Int) (hr_v : zL v) (hr_lo : zL lo) (hr_hi : zL hi) : RO l yX9_in cX9_in 6 (some .boolean) 0 0 D q g σ [.long (zJ v), .long (zJ lo), .long (zJ hi)] (some (.int (zI (bz (lo ≤ v ∧ v ≤ hi))))) := by
  refine RO.intro (plainFor_of_name (by decide)) (Nat.le_of_ble_eq_true rfl) (fun p e s m args below meth c ls B hP hl => ?_)
  have C := B.1
  have hl : lv_has ls 6 [(0, .long (zJ v)), (2, .long (zJ lo)), (4, .long (zJ hi))] := hl
  refine z_lln C hl 0 rfl dX9_in_0 ?_
  refine z_lln C hl 1 rfl dX9_in_1 ?_
  refine z_lc_lt C 17 (by decide) (by omega) (by omega) dX9_in_2 dX9_in_3 (fun w1 => ?_) (fun w1 => ?_)
  · skip
    refine z_ic C dX9_in_17 ?_
    exact z_bret0 B (by omega) dX9_in_18
  · skip
    refine z_lln C hl 0 rfl dX9_in_6 ?_
    refine z_ll C hl 2 rfl dX9_in_7 ?_
    refine z_lc_gt C 17 (by decide) (by omega) (by omega) dX9_in_9 dX9_in_10 (fun w2 => ?_) (fun w2 => ?_)
    · skip
      refine z_ic C dX9_in_17 ?_
      exact z_bret0 B (by omega) dX9_in_18
    · skip
      refine z_ic C dX9_in_13 ?_
      refine z_goto C 18 (by decide) dX9_in_14 ?_
      exact z_bret1 B (by omega) dX9_in_18

set_option maxHeartbeats 4000000 in
set_option maxRecDepth 100000 in
theorem c_X9_isRow {l : Launch} {D : va_G} {q : Nat → Nat} {g : Nat → ClassId} {σ : Mem} (y : Int) (hr_y : zR y) : RO l yX9_isRow cX9_isRow 1 (some .boolean) 1 25 D q g σ [.int (zI y)] (some (.int (zI (bz (0 ≤ y ∧ y ≤ 5))))) := by
  refine RO.intro (plainFor_of_name (by decide)) (Nat.le_of_ble_eq_true rfl) (fun p e s m args below meth c ls B hP hl => ?_)
  have C := B.1
  have hl : lv_has ls 1 [(0, .int (zI y))] := hl
  refine z_iln C hl 0 rfl dX9_isRow_0 ?_
  refine z_i2l C (by omega) dX9_isRow_1 ?_
  refine z_lc0 C dX9_isRow_2 ?_
  refine z_ldc2 C (n := 5) wg_692 (by decide) dX9_isRow_3 ?_
  refine z_sRO C hP hl (c_X9_in (σ := σ) y 0 5 (by omega) (by omega) (by omega))  wg_679 wg_10 wg_677 wg_678 cw_X9_in ⟨Nat.le_of_ble_eq_true rfl, Nat.le_of_ble_eq_true rfl⟩ rfl rfl (Nat.le_of_ble_eq_true rfl) dX9_isRow_6 ?_
  exact z_bret B (by constructor <;> intros <;> omega) dX9_isRow_9

set_option maxHeartbeats 4000000 in
set_option maxRecDepth 100000 in
theorem c_X9_isRunner {l : Launch} {D : va_G} {q : Nat → Nat} {g : Nat → ClassId} {σ : Mem} (r : Int) (hn : 0 ≤ σ 44 6 ∧ σ 44 6 ≤ 6) (hr_r : zR r) : RO l yX9_isRunner cX9_isRunner 2 (some .boolean) 1 25 D q g σ [.ref (q 44), .int (zI r)] (some (.int (zI (bz (0 ≤ r ∧ r < σ 44 6))))) := by
  refine RO.intro (plainFor_of_name (by decide)) (Nat.le_of_ble_eq_true rfl) (fun p e s m args below meth c ls B hP hl => ?_)
  have C := B.1
  have hl : lv_has ls 2 [(0, .ref (q 44)), (1, .int (zI r))] := hl
  refine z_iln C hl 1 rfl dX9_isRunner_0 ?_
  refine z_i2l C (by omega) dX9_isRunner_1 ?_
  refine z_lc0 C dX9_isRunner_2 ?_
  refine z_aln C hl 0 rfl dX9_isRunner_3 ?_
  refine gf_X9_66 C hP dX9_isRunner_4 ?_
  refine z_ic C dX9_isRunner_7 ?_
  refine z_isub C dX9_isRunner_8 ?_
  refine z_i2l C (by omega) dX9_isRunner_9 ?_
  refine z_sRO C hP hl (c_X9_in (σ := σ) r 0 ((σ 44 6) - 1) (by omega) (by omega) (by omega))  wg_679 wg_10 wg_677 wg_678 cw_X9_in ⟨Nat.le_of_ble_eq_true rfl, Nat.le_of_ble_eq_true rfl⟩ rfl rfl (Nat.le_of_ble_eq_true rfl) dX9_isRunner_10 ?_
  exact z_bret B (by constructor <;> intros <;> omega) dX9_isRunner_13

set_option maxHeartbeats 4000000 in
set_option maxRecDepth 100000 in
theorem c_X9_shapeAt {l : Launch} {D : va_G} {q : Nat → Nat} {g : Nat → ClassId} {σ : Mem} (r row what : Int)  : RO l yX9_shapeAt cX9_shapeAt 3 (some .int) 0 0 D q g σ [.int (zI r), .int (zI row), .int (zI what)] (some (.int (zI (2 * (6 * r + row) + what)))) := by
  refine RO.intro (plainFor_of_name (by decide)) (Nat.le_of_ble_eq_true rfl) (fun p e s m args below meth c ls B hP hl => ?_)
  have C := B.1
  have hl : lv_has ls 3 [(0, .int (zI r)), (1, .int (zI row)), (2, .int (zI what))] := hl
  refine z_ic C dX9_shapeAt_0 ?_
  refine z_bp C dX9_shapeAt_1 rfl ?_
  refine z_iln C hl 0 rfl dX9_shapeAt_3 ?_
  refine z_imul C dX9_shapeAt_4 ?_
  refine z_iln C hl 1 rfl dX9_shapeAt_5 ?_
  refine z_iadd C dX9_shapeAt_6 ?_
  refine z_imul C dX9_shapeAt_7 ?_
  refine z_iln C hl 2 rfl dX9_shapeAt_8 ?_
  refine z_iadd C dX9_shapeAt_9 ?_
  exact z_iret B (by first | rfl | omega) dX9_shapeAt_10

set_option maxHeartbeats 4000000 in
set_option maxRecDepth 100000 in
theorem c_X9_covers {l : Launch} {D : va_G} {q : Nat → Nat} {g : Nat → ClassId} {σ : Mem} (r row what col : Int) (hI : TI σ) (hR : MR σ) (hla : 0 ≤ r ∧ r < σ 1 2) (hy : 0 ≤ row ∧ row ≤ 5) (hw : 0 ≤ what ∧ what ≤ 1) (hc : -1000 ≤ col ∧ col ≤ 1000) : RO l yX9_covers cX9_covers 7 (some .boolean) 1 25 D q g σ [.ref (q 44), .int (zI r), .int (zI row), .int (zI what), .int (zI col)] (some (.int (zI (bz (kCov (co σ) r.toNat what row col (co σ 8 0 * row) = true))))) := by
  refine RO.intro (plainFor_of_name (by decide)) (Nat.le_of_ble_eq_true rfl) (fun p e s m args below meth c ls B hP hl => ?_)
  have C := B.1
  have hl : lv_has ls 7 [(0, .ref (q 44)), (1, .int (zI r)), (2, .int (zI row)), (3, .int (zI what)), (4, .int (zI col))] := hl
  have h1 := hI.1
  have hj : r.toNat < 6 := by omega
  have hb := hI.2.2.1 r.toNat hj
  have hg := hR.2.1 r.toNat (by omega)
  have hs := hR.2.2 r.toNat row.toNat what.toNat hj (by omega) (by omega)
  have hp := hI.2.2.2 r.toNat (what.toNat * 6 + row.toNat) hj (by omega)
  have hm := mul_b hb.2.1 (c := col) (by omega)
  have hml := mul_l hI.2.1.1 hy
  have hh := hR.1
  have ei : (2 * (6 * r + row) + what).toNat = 2 * (6 * r.toNat + row.toNat) + what.toNat := by omega
  have ep : (what * 6 + row).toNat = what.toNat * 6 + row.toNat := by omega
  rw [← ei, ← ep] at hs
  rw [← ep] at hp
  have em : σ 46 r.toNat * col = σ (26 + r.toNat) 3 * col := by rw [hg.2.1]
  have el : σ 44 7 * row = σ 8 0 * row := by rw [hh.2.1]
  have e80 : co σ 8 0 = σ 8 0 := rfl
  refine z_iln C hl 1 rfl dX9_covers_0 ?_
  refine z_iln C hl 2 rfl dX9_covers_1 ?_
  refine z_iln C hl 3 rfl dX9_covers_2 ?_
  refine z_sRO C hP hl (c_X9_shapeAt (σ := σ) r row what )  wg_697 wg_10 wg_695 wg_696 cw_X9_shapeAt ⟨Nat.le_of_ble_eq_true rfl, Nat.le_of_ble_eq_true rfl⟩ rfl rfl (Nat.le_of_ble_eq_true rfl) dX9_covers_3 ?_
  refine z_ist C hl [(5, .int (zI (2 * (6 * r + row) + what))), (0, .ref (q 44)), (1, .int (zI r)), (2, .int (zI row)), (3, .int (zI what)), (4, .int (zI col))] (by decide) rfl dX9_covers_6 (fun ls hl => ?_)
  refine z_aln C hl 1 rfl dX9_covers_8 ?_
  refine gf_X9_7 C hP dX9_covers_9 ?_
  refine z_iln C hl 2 rfl dX9_covers_12 ?_
  refine z_iald C hP (i := 45) (by decide) (fun _ => rfl) (by omega) (by decide) dX9_covers_13 ?_
  refine z_aln C hl 1 rfl dX9_covers_14 ?_
  refine gf_X9_13 C hP dX9_covers_15 ?_
  refine z_iln C hl 2 rfl dX9_covers_18 ?_
  refine z_iald C hP (i := 46) (by decide) (fun _ => rfl) (by omega) (by decide) dX9_covers_19 ?_
  refine z_il C hl 5 rfl dX9_covers_20 ?_
  refine z_imul C dX9_covers_22 ?_
  refine z_iadd C dX9_covers_23 ?_
  refine z_ist C hl [(6, .int (zI ((σ 45 r.toNat) + ((σ 46 r.toNat) * col)))), (5, .int (zI (2 * (6 * r + row) + what))), (0, .ref (q 44)), (1, .int (zI r)), (2, .int (zI row)), (3, .int (zI what)), (4, .int (zI col))] (by decide) rfl dX9_covers_24 (fun ls hl => ?_)
  refine z_aln C hl 2 rfl dX9_covers_26 ?_
  refine gf_X9_16 C hP dX9_covers_27 ?_
  refine z_il C hl 1 rfl dX9_covers_30 ?_
  refine z_zald C hP (i := 47) (by decide) (fun _ => rfl) (by omega) (by decide) dX9_covers_32 ?_
  refine z_if_eq C 75 (by decide) (by omega) dX9_covers_33 (fun w1 => ?_) (fun w1 => ?_)
  · skip
    refine z_ic C dX9_covers_75 ?_
    exact z_bret0 B (by unfold kCov; rw [co_frm hj, co_run hj, co_to hj, e80]; simp only [decide_eq_true_eq]; omega) dX9_covers_76
  · skip
    refine z_aln C hl 2 rfl dX9_covers_36 ?_
    refine gf_X9_94 C hP dX9_covers_37 ?_
    refine z_iln C hl 4 rfl dX9_covers_40 ?_
    refine z_imul C dX9_covers_41 ?_
    refine z_i2l C (by omega) dX9_covers_42 ?_
    refine z_il C hl 0 rfl dX9_covers_43 ?_
    refine z_aln C hl 2 rfl dX9_covers_45 ?_
    refine gf_X9_20 C hP dX9_covers_46 ?_
    refine z_il C hl 1 rfl dX9_covers_49 ?_
    refine z_iald C hP (i := 48) (by decide) (fun _ => rfl) (by omega) (by decide) dX9_covers_51 ?_
    refine z_iadd C dX9_covers_52 ?_
    refine z_i2l C (by omega) dX9_covers_53 ?_
    refine z_il C hl 0 rfl dX9_covers_54 ?_
    refine z_aln C hl 2 rfl dX9_covers_56 ?_
    refine gf_X9_23 C hP dX9_covers_57 ?_
    refine z_il C hl 1 rfl dX9_covers_60 ?_
    refine z_iald C hP (i := 49) (by decide) (fun _ => rfl) (by omega) (by decide) dX9_covers_62 ?_
    refine z_iadd C dX9_covers_63 ?_
    refine z_i2l C (by omega) dX9_covers_64 ?_
    refine z_sRO C hP hl (c_X9_in (σ := σ) ((σ 44 7) * row) (((σ 45 r.toNat) + ((σ 46 r.toNat) * col)) + (σ 48 (2 * (6 * r + row) + what).toNat)) (((σ 45 r.toNat) + ((σ 46 r.toNat) * col)) + (σ 49 (2 * (6 * r + row) + what).toNat)) (by omega) (by omega) (by omega))  wg_679 wg_10 wg_677 wg_678 cw_X9_in ⟨Nat.le_of_ble_eq_true rfl, Nat.le_of_ble_eq_true rfl⟩ rfl rfl (Nat.le_of_ble_eq_true rfl) dX9_covers_65 ?_
    refine z_bif_eq C 75 (by decide) dX9_covers_68 (fun w2 => ?_) (fun w2 => ?_)
    · skip
      refine z_ic C dX9_covers_75 ?_
      exact z_bret0 B (by unfold kCov; rw [co_frm hj, co_run hj, co_to hj, e80]; simp only [decide_eq_true_eq]; omega) dX9_covers_76
    · skip
      refine z_ic C dX9_covers_71 ?_
      refine z_goto C 76 (by decide) dX9_covers_72 ?_
      exact z_bret1 B (by unfold kCov; rw [co_frm hj, co_run hj, co_to hj, e80]; simp only [decide_eq_true_eq]; omega) dX9_covers_76

set_option maxHeartbeats 4000000 in
set_option maxRecDepth 100000 in
theorem c_X9_shown {l : Launch} {D : va_G} {q : Nat → Nat} {g : Nat → ClassId} {σ : Mem} (side col row : Int) (hI : TI σ) (hR : MR σ) (hsi : 0 ≤ side ∧ side ≤ 1) (hc : -1000 ≤ col ∧ col ≤ 1000) (hy : 0 ≤ row ∧ row ≤ 5) : RO l yX9_shown cX9_shown 6 (some .int) 2 51 D q g σ [.ref (q 44), .int (zI side), .int (zI col), .int (zI row)] (some (.int (zI (kFilm (co σ) side col row)))) := by
  refine RO.intro (plainFor_of_name (by decide)) (Nat.le_of_ble_eq_true rfl) (fun p e s m args below meth c ls B hP hl => ?_)
  have C := B.1
  have hl : lv_has ls 6 [(0, .ref (q 44)), (1, .int (zI side)), (2, .int (zI col)), (3, .int (zI row))] := hl
  have h1 := hI.1
  have hh := hR.1
  have e12 : co σ 1 2 = σ 1 2 := rfl
  refine z_ic C dX9_shown_0 ?_
  refine z_ist C hl [(4, .int (zI 0)), (0, .ref (q 44)), (1, .int (zI side)), (2, .int (zI col)), (3, .int (zI row))] (by decide) rfl dX9_shown_1 (fun ls hl => ?_)
  have L3 : ∀ (n : Nat) (k : Int)  , σ 1 2 - k < (n : Int) → (0 ≤ k ∧ k ≤ σ 1 2) → (kFilm (co σ) side col row = kScan (co σ) side col row (co σ 8 0 * row) (co σ 1 2 - k).toNat k) → ∀ ls : Array Slot, lv_has ls 6 [(0, .ref (q 44)), (1, .int (zI side)), (2, .int (zI col)), (3, .int (zI row)), (4, .int (zI k))] → WO p l e 2 51 s m args below meth c (some (.int (zI (kFilm (co σ) side col row)))) (F0 m 3 ls []) := by
    intro n
    induction n with
    | zero => intro k hm hk hi ls hl; exact False.elim (by omega)
    | succ n ih =>
      intro k hm hk hi ls hl
      have ih3 := ih; clear ih
      refine z_il C hl 4 rfl dX9_shown_3 ?_
      refine z_aln C hl 0 rfl dX9_shown_5 ?_
      refine gf_X9_66 C hP dX9_shown_6 ?_
      refine z_icmp_ge C 78 (by decide) (by omega) (by omega) dX9_shown_9 (fun w1 => ?_) (fun w1 => ?_)
      · skip
        refine z_ic C dX9_shown_78 ?_
        exact z_iret B (by rw [hi, show (co σ 1 2 - k).toNat = 0 by omega]; rfl) dX9_shown_79
      · skip
        have hu : (co σ 1 2 - k).toNat = (co σ 1 2 - (k + 1)).toNat + 1 := by omega
        rw [hu, kScan] at hi
        refine z_iln C hl 1 rfl dX9_shown_12 ?_
        refine z_if_ne C 21 (by decide) (by omega) dX9_shown_13 (fun w2 => ?_) (fun w2 => ?_)
        · skip
          refine z_aln C hl 0 rfl dX9_shown_21 ?_
          refine gf_X9_66 C hP dX9_shown_22 ?_
          refine z_ic C dX9_shown_25 ?_
          refine z_isub C dX9_shown_26 ?_
          refine z_il C hl 4 rfl dX9_shown_27 ?_
          refine z_isub C dX9_shown_29 ?_
          have hln : kLane (co σ) side k = ((σ 44 6) - 1) - k := by unfold kLane; split <;> omega
          rw [hln] at hi
          refine z_ist C hl [(5, .int (zI (((σ 44 6) - 1) - k))), (0, .ref (q 44)), (1, .int (zI side)), (2, .int (zI col)), (3, .int (zI row)), (4, .int (zI k))] (by decide) rfl dX9_shown_30 (fun ls hl => ?_)
          refine z_aln C hl 1 rfl dX9_shown_32 ?_
          refine z_il C hl 0 rfl dX9_shown_33 ?_
          refine z_iln C hl 4 rfl dX9_shown_35 ?_
          refine z_ic C dX9_shown_36 ?_
          refine z_iln C hl 3 rfl dX9_shown_37 ?_
          refine z_vRO C hP hl (c_X9_covers (σ := σ) (((σ 44 6) - 1) - k) row 0 col hI hR (by omega) (by omega) (by omega) (by omega)) (z_recv C hP (i := 44) (by decide) rfl (ci := 9) rfl) wg_721 wg_10 wg_718 wg_720 ws_X9_covers cw_X9_covers ⟨Nat.le_of_ble_eq_true rfl, Nat.le_of_ble_eq_true rfl⟩ rfl rfl (Nat.le_of_ble_eq_true rfl) dX9_shown_38 ?_
          refine z_bif_eq C 52 (by decide) dX9_shown_41 (fun w3 => ?_) (fun w3 => ?_)
          · skip
            refine z_aln C hl 1 rfl dX9_shown_52 ?_
            refine z_il C hl 0 rfl dX9_shown_53 ?_
            refine z_iln C hl 4 rfl dX9_shown_55 ?_
            refine z_ic C dX9_shown_56 ?_
            refine z_iln C hl 3 rfl dX9_shown_57 ?_
            refine z_vRO C hP hl (c_X9_covers (σ := σ) (((σ 44 6) - 1) - k) row 1 col hI hR (by omega) (by omega) (by omega) (by omega)) (z_recv C hP (i := 44) (by decide) rfl (ci := 9) rfl) wg_721 wg_10 wg_718 wg_720 ws_X9_covers cw_X9_covers ⟨Nat.le_of_ble_eq_true rfl, Nat.le_of_ble_eq_true rfl⟩ rfl rfl (Nat.le_of_ble_eq_true rfl) dX9_shown_58 ?_
            refine z_bif_eq C 72 (by decide) dX9_shown_61 (fun w4 => ?_) (fun w4 => ?_)
            · skip
              refine z_iinc C hl 5 rfl [(4, .int (zI (k + 1))), (5, .int (zI (((σ 44 6) - 1) - k))), (0, .ref (q 44)), (1, .int (zI side)), (2, .int (zI col)), (3, .int (zI row))] (by decide) rfl dX9_shown_72 (fun ls hl => ?_)
              refine z_goto C 3 (by decide) dX9_shown_75 ?_
              exact ih3 (k + 1) (by omega) (by omega) (by rw [hi, if_neg w3, if_neg w4]) ls (lv_sub hl [2, 3, 4, 5, 0] rfl)
            · skip
              refine z_bp C dX9_shown_64 rfl ?_
              refine z_il C hl 0 rfl dX9_shown_66 ?_
              refine z_imul C dX9_shown_68 ?_
              refine z_ic C dX9_shown_69 ?_
              refine z_iadd C dX9_shown_70 ?_
              exact z_iret B (by rw [hi, if_neg w3, if_pos w4]; omega) dX9_shown_71
          · skip
            refine z_bp C dX9_shown_44 rfl ?_
            refine z_il C hl 0 rfl dX9_shown_46 ?_
            refine z_imul C dX9_shown_48 ?_
            refine z_ic C dX9_shown_49 ?_
            refine z_iadd C dX9_shown_50 ?_
            exact z_iret B (by rw [hi, if_pos w3]) dX9_shown_51
        · skip
          refine z_il C hl 4 rfl dX9_shown_16 ?_
          refine z_goto C 30 (by decide) dX9_shown_18 ?_
          have hln : kLane (co σ) side k = k := by unfold kLane; split <;> omega
          rw [hln] at hi
          refine z_ist C hl [(5, .int (zI k)), (0, .ref (q 44)), (1, .int (zI side)), (2, .int (zI col)), (3, .int (zI row)), (4, .int (zI k))] (by decide) rfl dX9_shown_30 (fun ls hl => ?_)
          refine z_aln C hl 1 rfl dX9_shown_32 ?_
          refine z_il C hl 0 rfl dX9_shown_33 ?_
          refine z_iln C hl 4 rfl dX9_shown_35 ?_
          refine z_ic C dX9_shown_36 ?_
          refine z_iln C hl 3 rfl dX9_shown_37 ?_
          refine z_vRO C hP hl (c_X9_covers (σ := σ) k row 0 col hI hR (by omega) (by omega) (by omega) (by omega)) (z_recv C hP (i := 44) (by decide) rfl (ci := 9) rfl) wg_721 wg_10 wg_718 wg_720 ws_X9_covers cw_X9_covers ⟨Nat.le_of_ble_eq_true rfl, Nat.le_of_ble_eq_true rfl⟩ rfl rfl (Nat.le_of_ble_eq_true rfl) dX9_shown_38 ?_
          refine z_bif_eq C 52 (by decide) dX9_shown_41 (fun w5 => ?_) (fun w5 => ?_)
          · skip
            refine z_aln C hl 1 rfl dX9_shown_52 ?_
            refine z_il C hl 0 rfl dX9_shown_53 ?_
            refine z_iln C hl 4 rfl dX9_shown_55 ?_
            refine z_ic C dX9_shown_56 ?_
            refine z_iln C hl 3 rfl dX9_shown_57 ?_
            refine z_vRO C hP hl (c_X9_covers (σ := σ) k row 1 col hI hR (by omega) (by omega) (by omega) (by omega)) (z_recv C hP (i := 44) (by decide) rfl (ci := 9) rfl) wg_721 wg_10 wg_718 wg_720 ws_X9_covers cw_X9_covers ⟨Nat.le_of_ble_eq_true rfl, Nat.le_of_ble_eq_true rfl⟩ rfl rfl (Nat.le_of_ble_eq_true rfl) dX9_shown_58 ?_
            refine z_bif_eq C 72 (by decide) dX9_shown_61 (fun w6 => ?_) (fun w6 => ?_)
            · skip
              refine z_iinc C hl 5 rfl [(4, .int (zI (k + 1))), (5, .int (zI k)), (0, .ref (q 44)), (1, .int (zI side)), (2, .int (zI col)), (3, .int (zI row))] (by decide) rfl dX9_shown_72 (fun ls hl => ?_)
              refine z_goto C 3 (by decide) dX9_shown_75 ?_
              exact ih3 (k + 1) (by omega) (by omega) (by rw [hi, if_neg w5, if_neg w6]) ls (lv_sub hl [2, 3, 4, 5, 0] rfl)
            · skip
              refine z_bp C dX9_shown_64 rfl ?_
              refine z_il C hl 0 rfl dX9_shown_66 ?_
              refine z_imul C dX9_shown_68 ?_
              refine z_ic C dX9_shown_69 ?_
              refine z_iadd C dX9_shown_70 ?_
              exact z_iret B (by rw [hi, if_neg w5, if_pos w6]; omega) dX9_shown_71
          · skip
            refine z_bp C dX9_shown_44 rfl ?_
            refine z_il C hl 0 rfl dX9_shown_46 ?_
            refine z_imul C dX9_shown_48 ?_
            refine z_ic C dX9_shown_49 ?_
            refine z_iadd C dX9_shown_50 ?_
            exact z_iret B (by rw [hi, if_pos w5]) dX9_shown_51
  exact L3 ((σ 1 2 - 0 : Int).toNat + 1) 0 (by omega) (by omega) (by rw [Int.sub_zero]; rfl) ls (lv_sub hl [1, 2, 3, 4, 0] rfl)

set_option maxHeartbeats 4000000 in
set_option maxRecDepth 100000 in
theorem c_X9_sooner {l : Launch} {D : va_G} {q : Nat → Nat} {g : Nat → ClassId} {σ : Mem} (a b : Int) (hr_a : zR a) (hr_b : zR b) : RO l yX9_sooner cX9_sooner 2 (some .int) 0 0 D q g σ [.int (zI a), .int (zI b)] (some (.int (zI (soo a b)))) := by
  refine RO.intro (plainFor_of_name (by decide)) (Nat.le_of_ble_eq_true rfl) (fun p e s m args below meth c ls B hP hl => ?_)
  have C := B.1
  have hl : lv_has ls 2 [(0, .int (zI a)), (1, .int (zI b))] := hl
  refine z_iln C hl 0 rfl dX9_sooner_0 ?_
  refine z_if_ge C 8 (by decide) (by omega) dX9_sooner_1 (fun w1 => ?_) (fun w1 => ?_)
  · skip
    refine z_iln C hl 1 rfl dX9_sooner_8 ?_
    refine z_if_lt C 17 (by decide) (by omega) dX9_sooner_9 (fun w2 => ?_) (fun w2 => ?_)
    · skip
      refine z_iln C hl 0 rfl dX9_sooner_17 ?_
      refine z_goto C 22 (by decide) dX9_sooner_18 ?_
      exact z_iret B (by unfold soo; split <;> (try split) <;> omega) dX9_sooner_22
    · skip
      refine z_iln C hl 0 rfl dX9_sooner_12 ?_
      refine z_iln C hl 1 rfl dX9_sooner_13 ?_
      refine z_icmp_ge C 21 (by decide) (by omega) (by omega) dX9_sooner_14 (fun w3 => ?_) (fun w3 => ?_)
      · skip
        refine z_iln C hl 1 rfl dX9_sooner_21 ?_
        exact z_iret B (by unfold soo; split <;> (try split) <;> omega) dX9_sooner_22
      · skip
        refine z_iln C hl 0 rfl dX9_sooner_17 ?_
        refine z_goto C 22 (by decide) dX9_sooner_18 ?_
        exact z_iret B (by unfold soo; split <;> (try split) <;> omega) dX9_sooner_22
  · skip
    refine z_iln C hl 1 rfl dX9_sooner_4 ?_
    refine z_goto C 22 (by decide) dX9_sooner_5 ?_
    exact z_iret B (by unfold soo; split <;> (try split) <;> omega) dX9_sooner_22

set_option maxHeartbeats 4000000 in
set_option maxRecDepth 100000 in
theorem c_X9_findFirst {l : Launch} {D : va_G} {q : Nat → Nat} {g : Nat → ClassId} {σ : Mem} (hq : qok q) (hI : TI σ) (hR : MR σ) : RW l yX9_findFirst cX9_findFirst 5 none 3 76 D q g σ [.ref (q 44)] vV (fun _ τ => Fr σ τ ∧ FA τ) := by
  refine RW.intro (plainFor_of_name (by decide)) (Nat.le_of_ble_eq_true rfl) (fun p e s m args below meth c ls B hP hS hl => ?_)
  have C := B.1
  have hl : lv_has ls 5 [(0, .ref (q 44))] := hl
  have hIc := TI_cc hI
  have h1 := hI.1
  refine z_ic C dX9_findFirst_0 ?_
  refine z_isn C hl [(1, .int (zI 0)), (0, .ref (q 44))] (by decide) rfl dX9_findFirst_1 (fun ls hl => ?_)
  have L2 : ∀ (n : Nat) (k : Int)  (τ : Mem), 72 - k < (n : Int) → (0 ≤ k ∧ k ≤ 72) → (Fr σ τ) → (∀ i : Nat, (i : Int) < k → τ 51 i = -6) → ∀ (H : Heap) (locs : List Loc), HP D q g τ H → va_S (aQ q) s.heap H locs → ∀ ls : Array Slot, lv_has ls 5 [(0, .ref (q 44)), (1, .int (zI k))] → WW p l e 3 76 s m args below meth c H locs D q g vV (fun _ τ => Fr σ τ ∧ FA τ) (F0 m 2 ls []) := by
    intro n
    induction n with
    | zero => intro k τ hm hk hF hn H locs hP hS ls hl; exact False.elim (by omega)
    | succ n ih =>
      intro k τ hm hk hF hn H locs hP hS ls hl
      have ih2 := ih; clear ih
      refine z_iln C hl 1 rfl dX9_findFirst_2 ?_
      refine z_bp C dX9_findFirst_3 rfl ?_
      refine z_icmp_ge C 22 (by decide) (by omega) (by omega) dX9_findFirst_5 (fun w1 => ?_) (fun w1 => ?_)
      · skip
        refine z_ic C dX9_findFirst_22 ?_
        refine z_isn C hl [(1, .int (zI 0)), (0, .ref (q 44))] (by decide) rfl dX9_findFirst_23 (fun ls hl => ?_)
        have L24 : ∀ (n : Nat) (sd : Int)  (τ : Mem), 2 - sd < (n : Int) → (0 ≤ sd ∧ sd ≤ 2) → (Fr σ τ) → (FAP (co σ) (τ 51) sd 0 299) → ∀ (H : Heap) (locs : List Loc), HP D q g τ H → va_S (aQ q) s.heap H locs → ∀ ls : Array Slot, lv_has ls 5 [(0, .ref (q 44)), (1, .int (zI sd))] → WW p l e 3 76 s m args below meth c H locs D q g vV (fun _ τ => Fr σ τ ∧ FA τ) (F0 m 24 ls []) := by
          intro n
          induction n with
          | zero => intro sd τ hm hs hF hA H locs hP hS ls hl; exact False.elim (by omega)
          | succ n ih =>
            intro sd τ hm hs hF hA H locs hP hS ls hl
            have ih24 := ih; clear ih
            refine z_iln C hl 1 rfl dX9_findFirst_24 ?_
            refine z_ic C dX9_findFirst_25 ?_
            refine z_icmp_ge C 102 (by decide) (by omega) (by omega) dX9_findFirst_26 (fun w2 => ?_) (fun w2 => ?_)
            · skip
              exact z_vretW B hP hS ⟨hF, by unfold FA; rw [Fr_co hF]; exact FAP_end hA (by omega)⟩ dX9_findFirst_102
            · skip
              refine z_ic C dX9_findFirst_29 ?_
              refine z_isn C hl [(2, .int (zI 0)), (0, .ref (q 44)), (1, .int (zI sd))] (by decide) rfl dX9_findFirst_30 (fun ls hl => ?_)
              have L31 : ∀ (n : Nat) (yy : Int)  (τ : Mem), 6 - yy < (n : Int) → (0 ≤ yy ∧ yy ≤ 6) → (Fr σ τ) → (FAP (co σ) (τ 51) sd yy 299) → ∀ (H : Heap) (locs : List Loc), HP D q g τ H → va_S (aQ q) s.heap H locs → ∀ ls : Array Slot, lv_has ls 5 [(0, .ref (q 44)), (1, .int (zI sd)), (2, .int (zI yy))] → WW p l e 3 76 s m args below meth c H locs D q g vV (fun _ τ => Fr σ τ ∧ FA τ) (F0 m 31 ls []) := by
                intro n
                induction n with
                | zero => intro yy τ hm hyy hF hA2 H locs hP hS ls hl; exact False.elim (by omega)
                | succ n ih =>
                  intro yy τ hm hyy hF hA2 H locs hP hS ls hl
                  have ih31 := ih; clear ih
                  refine z_iln C hl 2 rfl dX9_findFirst_31 ?_
                  refine z_bp C dX9_findFirst_32 rfl ?_
                  refine z_icmp_ge C 96 (by decide) (by omega) (by omega) dX9_findFirst_34 (fun w3 => ?_) (fun w3 => ?_)
                  · skip
                    refine z_iinc C hl 1 rfl [(1, .int (zI (sd + 1))), (0, .ref (q 44)), (2, .int (zI yy))] (by decide) rfl dX9_findFirst_96 (fun ls hl => ?_)
                    refine z_goto C 24 (by decide) dX9_findFirst_99 ?_
                    exact ih24 (sd + 1) τ (by omega) (by omega) hF (FAP_side hA2 (by omega)) _ _ hP hS ls (lv_sub hl [1, 0] rfl)
                  · skip
                    refine z_sp C dX9_findFirst_37 rfl ?_
                    refine z_isn C hl [(3, .int (zI 299)), (0, .ref (q 44)), (1, .int (zI sd)), (2, .int (zI yy))] (by decide) rfl dX9_findFirst_40 (fun ls hl => ?_)
                    have L41 : ∀ (n : Nat) (cl : Int)  (τ : Mem), cl + 1 < (n : Int) → (-1 ≤ cl ∧ cl ≤ 299) → (Fr σ τ) → (FAP (co σ) (τ 51) sd yy cl) → ∀ (H : Heap) (locs : List Loc), HP D q g τ H → va_S (aQ q) s.heap H locs → ∀ ls : Array Slot, lv_has ls 5 [(0, .ref (q 44)), (1, .int (zI sd)), (2, .int (zI yy)), (3, .int (zI cl))] → WW p l e 3 76 s m args below meth c H locs D q g vV (fun _ τ => Fr σ τ ∧ FA τ) (F0 m 41 ls []) := by
                      intro n
                      induction n with
                      | zero => intro cl τ hm hcl hF hA3 H locs hP hS ls hl; exact False.elim (by omega)
                      | succ n ih =>
                        intro cl τ hm hcl hF hA3 H locs hP hS ls hl
                        have ih41 := ih; clear ih
                        refine z_iln C hl 3 rfl dX9_findFirst_41 ?_
                        refine z_if_lt C 90 (by decide) (by omega) dX9_findFirst_42 (fun w4 => ?_) (fun w4 => ?_)
                        · skip
                          refine z_iinc C hl 2 rfl [(2, .int (zI (yy + 1))), (0, .ref (q 44)), (1, .int (zI sd)), (3, .int (zI cl))] (by decide) rfl dX9_findFirst_90 (fun ls hl => ?_)
                          refine z_goto C 31 (by decide) dX9_findFirst_93 ?_
                          exact ih31 (yy + 1) τ (by omega) (by omega) hF (FAP_row hIc hA3 (by omega) (by omega)) _ _ hP hS ls (lv_sub hl [1, 2, 0] rfl)
                        · skip
                          refine z_aln C hl 0 rfl dX9_findFirst_45 ?_
                          refine z_iln C hl 1 rfl dX9_findFirst_46 ?_
                          refine z_iln C hl 3 rfl dX9_findFirst_47 ?_
                          refine z_iln C hl 2 rfl dX9_findFirst_48 ?_
                          refine z_vRO C hP hl (c_X9_shown (σ := τ) sd cl yy (Fr_TI hF hI) (Fr_MR hF hI hR) (by omega) (by omega) (by omega)) (z_recv C hP (i := 44) (by decide) rfl (ci := 9) rfl) wg_717 wg_10 wg_714 wg_716 ws_X9_shown cw_X9_shown ⟨Nat.le_of_ble_eq_true rfl, Nat.le_of_ble_eq_true rfl⟩ rfl rfl (Nat.le_of_ble_eq_true rfl) dX9_findFirst_49 ?_
                          have ecc := Fr_co hF
                          have hfb := kFilm_b hIc sd cl yy
                          have et : (kFilm (co τ) sd cl yy).tdiv 10 = kFilm (co τ) sd cl yy / 10 := Int.tdiv_eq_ediv_of_nonneg (by rw [ecc]; exact hfb.1)
                          have em : (kFilm (co τ) sd cl yy).tmod 10 = kFilm (co τ) sd cl yy % 10 := Int.tmod_eq_emod_of_nonneg (by rw [ecc]; exact hfb.1)
                          have eco : kFilm (co τ) sd cl yy = kFilm (co σ) sd cl yy := by rw [ecc]
                          refine z_ist C hl [(4, .int (zI (kFilm (co τ) sd cl yy))), (0, .ref (q 44)), (1, .int (zI sd)), (2, .int (zI yy)), (3, .int (zI cl))] (by decide) rfl dX9_findFirst_52 (fun ls hl => ?_)
                          refine z_il C hl 0 rfl dX9_findFirst_54 ?_
                          refine z_bp C dX9_findFirst_56 rfl ?_
                          refine z_irem C (by omega) (by omega) (by omega) dX9_findFirst_58 ?_
                          refine z_ic C dX9_findFirst_59 ?_
                          refine z_icmp_ne C 84 (by decide) (by omega) (by omega) dX9_findFirst_60 (fun w5 => ?_) (fun w5 => ?_)
                          · skip
                            refine z_iinc C hl 4 rfl [(3, .int (zI (cl + (-1)))), (4, .int (zI (kFilm (co τ) sd cl yy))), (0, .ref (q 44)), (1, .int (zI sd)), (2, .int (zI yy))] (by decide) rfl dX9_findFirst_84 (fun ls hl => ?_)
                            refine z_goto C 41 (by decide) dX9_findFirst_87 ?_
                            exact ih41 (cl + (-1)) τ (by omega) (by omega) hF (FAP_no hA3 (by omega) (by omega)) _ _ hP hS ls (lv_sub hl [2, 3, 4, 0] rfl)
                          · skip
                            refine z_aln C hl 1 rfl dX9_findFirst_63 ?_
                            refine gf_X9_29 C hP dX9_findFirst_64 ?_
                            refine z_bp C dX9_findFirst_67 rfl ?_
                            refine z_bp C dX9_findFirst_69 rfl ?_
                            refine z_iln C hl 2 rfl dX9_findFirst_71 ?_
                            refine z_imul C dX9_findFirst_72 ?_
                            refine z_iln C hl 3 rfl dX9_findFirst_73 ?_
                            refine z_iadd C dX9_findFirst_74 ?_
                            refine z_imul C dX9_findFirst_75 ?_
                            refine z_il C hl 0 rfl dX9_findFirst_76 ?_
                            refine z_bp C dX9_findFirst_78 rfl ?_
                            refine z_idiv C (by omega) (by omega) (by omega) dX9_findFirst_80 ?_
                            refine z_iadd C dX9_findFirst_81 ?_
                            refine z_iln C hl 4 rfl dX9_findFirst_82 ?_
                            refine z_iast C hq hP hS (i := 51) (by decide) (fun _ => rfl) (by omega) (by decide) dX9_findFirst_83 (fun H locs hP hS => ?_)
                            refine z_iinc C hl 4 rfl [(3, .int (zI (cl + (-1)))), (4, .int (zI (kFilm (co τ) sd cl yy))), (0, .ref (q 44)), (1, .int (zI sd)), (2, .int (zI yy))] (by decide) rfl dX9_findFirst_84 (fun ls hl => ?_)
                            refine z_goto C 41 (by decide) dX9_findFirst_87 ?_
                            exact ih41 (cl + (-1)) (um τ 51 ((6 * ((6 * sd) + yy)) + ((kFilm (co τ) sd cl yy).tdiv 10)).toNat cl) (by omega) (by omega) (Fr_um hF (by simp [sc])) (by have hz := FAP_yes hA3 (by omega) (by omega) (by omega) hfb (by omega); rw [show (fun b => if b = (6 * (6 * sd + yy) + kFilm (co σ) sd cl yy / 10).toNat then cl else τ 51 b) = um τ 51 (6 * (6 * sd + yy) + (kFilm (co τ) sd cl yy).tdiv 10).toNat cl 51 from by funext b; simp only [um, true_and]; rw [et, ecc]] at hz; exact hz) _ _ hP hS ls (lv_sub hl [2, 3, 4, 0] rfl)
                    exact L41 ((299 + 1 : Int).toNat + 1) 299 τ (by omega) (by omega) hF hA2 _ _ hP hS ls (lv_sub hl [1, 2, 3, 0] rfl)
              exact L31 ((6 - 0 : Int).toNat + 1) 0 τ (by omega) (by omega) hF hA _ _ hP hS ls (lv_sub hl [1, 2, 0] rfl)
        exact L24 ((2 - 0 : Int).toNat + 1) 0 τ (by omega) (by omega) hF (FAP_init (fun i hi => hn i (by omega))) _ _ hP hS ls (lv_sub hl [1, 0] rfl)
      · skip
        refine z_aln C hl 0 rfl dX9_findFirst_8 ?_
        refine gf_X9_29 C hP dX9_findFirst_9 ?_
        refine z_iln C hl 1 rfl dX9_findFirst_12 ?_
        refine z_bp C dX9_findFirst_13 rfl ?_
        refine z_iast C hq hP hS (i := 51) (by decide) (fun _ => rfl) (by omega) (by decide) dX9_findFirst_15 (fun H locs hP hS => ?_)
        refine z_iinc C hl 1 rfl [(1, .int (zI (k + 1))), (0, .ref (q 44))] (by decide) rfl dX9_findFirst_16 (fun ls hl => ?_)
        refine z_goto C 2 (by decide) dX9_findFirst_19 ?_
        exact ih2 (k + 1) (um τ 51 k.toNat (-6)) (by omega) (by omega) (Fr_um hF (by simp [sc])) (fun i hi => by simp only [um]; split <;> first | rfl | exact hn i (by simp at *; omega)) _ _ hP hS ls (lv_sub hl [1, 0] rfl)
  exact L2 ((72 - 0 : Int).toNat + 1) 0 σ (by omega) (by omega) Fr_rf (fun i hi => by omega) _ _ hP hS ls (lv_sub hl [1, 0] rfl)
