set_option maxHeartbeats 4000000 in
set_option maxRecDepth 100000 in
theorem c_X2_add {l : Launch} {D : va_G} {q : Nat → Nat} {g : Nat → ClassId} {σ : Mem} (hq : qok q) (sd rw : Int) (hc6 : 0 ≤ σ 6 3 ∧ σ 6 3 ≤ 8) : RW l yX2_add cX2_add 3 (some .int) 0 0 D q g σ [.ref (q 6), .int (zI sd), .int (zI rw)] vI (fun r τ => if 8 ≤ σ 6 3 then r = -4 ∧ τ = σ else r = σ 6 3 ∧ τ = um (um (um σ 23 (σ 6 3).toNat sd) 24 (σ 6 3).toNat rw) 6 3 (σ 6 3 + 1)) := by
  refine RW.intro (plainFor_of_name (by decide)) (Nat.le_of_ble_eq_true rfl) (fun p e s m args below meth c ls B hP hS hl => ?_)
  have C := B.1
  have hl : lv_has ls 3 [(0, .ref (q 6)), (1, .int (zI sd)), (2, .int (zI rw))] := hl
  refine z_aln C hl 0 rfl dX2_add_0 ?_
  refine gf_X2_21 C hP dX2_add_1 ?_
  refine z_bp C dX2_add_4 rfl ?_
  refine z_icmp_lt C 12 (by decide) (by omega) (by omega) dX2_add_6 (fun w1 => ?_) (fun w1 => ?_)
  · skip
    refine z_aln C hl 0 rfl dX2_add_12 ?_
    refine gf_X2_9 C hP dX2_add_13 ?_
    refine z_aln C hl 0 rfl dX2_add_16 ?_
    refine gf_X2_21 C hP dX2_add_17 ?_
    refine z_iln C hl 1 rfl dX2_add_20 ?_
    refine z_iast C hq hP hS (i := 23) (by decide) (fun _ => rfl) (by omega) (by decide) dX2_add_21 (fun H locs hP hS => ?_)
    refine z_aln C hl 0 rfl dX2_add_22 ?_
    refine gf_X2_15 C hP dX2_add_23 ?_
    refine z_aln C hl 0 rfl dX2_add_26 ?_
    refine gf_X2_21 C hP dX2_add_27 ?_
    refine z_tope (b := σ 6 3) (by unfold um; rw [if_neg (by omega)]) ?_
    refine z_iln C hl 2 rfl dX2_add_30 ?_
    refine z_iast C hq hP hS (i := 24) (by decide) (fun _ => rfl) (by omega) (by decide) dX2_add_31 (fun H locs hP hS => ?_)
    refine z_aln C hl 0 rfl dX2_add_32 ?_
    refine z_dup C rfl dX2_add_33 ?_
    refine gf_X2_21 C hP dX2_add_34 ?_
    refine z_tope (b := σ 6 3) (by unfold um; rw [if_neg (by omega), if_neg (by omega)]) ?_
    refine z_ic C dX2_add_37 ?_
    refine z_iadd C dX2_add_38 ?_
    refine pf_X2_21 C hq hP hS dX2_add_39 (fun H locs hP hS => ?_)
    refine z_aln C hl 0 rfl dX2_add_42 ?_
    refine gf_X2_21 C hP dX2_add_43 ?_
    refine z_tope (b := (σ 6 3) + 1) (by unfold um; rw [if_pos ⟨rfl, rfl⟩]) ?_
    refine z_ic C dX2_add_46 ?_
    refine z_isub C dX2_add_47 ?_
    exact z_iretW B hP hS (by rw [if_neg (by omega)]; exact ⟨by omega, rfl⟩) dX2_add_48
  · skip
    refine z_bp C dX2_add_9 rfl ?_
    exact z_iretW B hP hS (by rw [if_pos (by omega)]; exact ⟨rfl, rfl⟩) dX2_add_11

set_option maxHeartbeats 4000000 in
set_option maxRecDepth 100000 in
theorem c_X8_slit {l : Launch} {D : va_G} {q : Nat → Nat} {g : Nat → ClassId} {σ : Mem} (hq : qok q) (sd rw : Int) (hX : RI σ) (hr_sd : zR sd) (hr_rw : zR rw) : RW l yX8_slit cX8_slit 3 (some .int) 1 22 D q g σ [.ref (q 0), .int (zI sd), .int (zI rw)] vI (fun r τ => if ¬ ((0 ≤ sd ∧ sd ≤ 1) ∧ (1 ≤ rw ∧ rw ≤ 63)) then r = -2 ∧ τ = σ else if 8 ≤ σ 6 3 then r = -4 ∧ τ = σ else r = σ 6 3 ∧ τ = um (um (um σ 23 (σ 6 3).toNat sd) 24 (σ 6 3).toNat rw) 6 3 (σ 6 3 + 1)) := by
  refine RW.intro (plainFor_of_name (by decide)) (Nat.le_of_ble_eq_true rfl) (fun p e s m args below meth c ls B hP hS hl => ?_)
  have C := B.1
  have hl : lv_has ls 3 [(0, .ref (q 0)), (1, .int (zI sd)), (2, .int (zI rw))] := hl
  have h1 := hX.1
  refine z_iln C hl 1 rfl dX8_slit_0 ?_
  refine z_sRO C hP hl (c_X8_isEither (σ := σ) sd (by omega))  wg_247 wg_1 wg_245 wg_246 cw_X8_isEither ⟨Nat.le_of_ble_eq_true rfl, Nat.le_of_ble_eq_true rfl⟩ rfl rfl (Nat.le_of_ble_eq_true rfl) dX8_slit_1 ?_
  refine z_bif_eq C 17 (by decide) dX8_slit_4 (fun w1 => ?_) (fun w1 => ?_)
  · skip
    refine z_bp C dX8_slit_17 rfl ?_
    exact z_iretW B hP hS (by rw [if_pos (by omega)]; exact ⟨rfl, rfl⟩) dX8_slit_19
  · skip
    refine z_iln C hl 2 rfl dX8_slit_7 ?_
    refine z_ic C dX8_slit_8 ?_
    refine z_bp C dX8_slit_9 rfl ?_
    refine z_sRO C hP hl (c_X8_within (σ := σ) rw 1 63 (by omega) (by omega) (by omega))  wg_212 wg_1 wg_210 wg_211 cw_X8_within ⟨Nat.le_of_ble_eq_true rfl, Nat.le_of_ble_eq_true rfl⟩ rfl rfl (Nat.le_of_ble_eq_true rfl) dX8_slit_11 ?_
    refine z_bif_ne C 20 (by decide) dX8_slit_14 (fun w2 => ?_) (fun w2 => ?_)
    · skip
      refine z_aln C hl 0 rfl dX8_slit_20 ?_
      refine gf_X8_47 C hP dX8_slit_21 ?_
      refine z_iln C hl 1 rfl dX8_slit_24 ?_
      refine z_iln C hl 2 rfl dX8_slit_25 ?_
      refine z_vRWi C hP hS hl (c_X2_add (σ := σ) hq sd rw (by omega)) (z_recv C hP (i := 6) (by decide) rfl (ci := 2) rfl) wg_536 wg_9 wg_533 wg_534 wg_535 cw_X2_add ⟨Nat.le_of_ble_eq_true rfl, Nat.le_of_ble_eq_true rfl⟩ rfl rfl (Nat.le_of_ble_eq_true rfl) dX8_slit_26 (fun r26 τ26 H locs hp26 hP hS => ?_)
      exact z_iretW B hP hS (by rw [if_neg (by omega)]; exact hp26) dX8_slit_29
    · skip
      refine z_bp C dX8_slit_17 rfl ?_
      exact z_iretW B hP hS (by rw [if_pos (by omega)]; exact ⟨rfl, rfl⟩) dX8_slit_19

set_option maxHeartbeats 4000000 in
set_option maxRecDepth 100000 in
theorem c_X9_slit {l : Launch} {D : va_G} {q : Nat → Nat} {g : Nat → ClassId} {σ : Mem} (hq : qok q) (sd rw : Int) (hc27 : 0 ≤ σ 44 27 ∧ σ 44 27 ≤ 8) (hr_sd : zR sd) (hr_rw : zR rw) : RW l yX9_slit cX9_slit 3 (some .int) 1 25 D q g σ [.ref (q 44), .int (zI sd), .int (zI rw)] vI (fun r τ => if ¬ ((0 ≤ sd ∧ sd ≤ 1) ∧ (1 ≤ rw ∧ rw ≤ 63)) then r = -2 ∧ τ = σ else if 8 ≤ σ 44 27 then r = -4 ∧ τ = σ else r = σ 44 27 ∧ τ = um (um (um σ 60 (σ 44 27).toNat sd) 61 (σ 44 27).toNat rw) 44 27 (σ 44 27 + 1)) := by
  refine RW.intro (plainFor_of_name (by decide)) (Nat.le_of_ble_eq_true rfl) (fun p e s m args below meth c ls B hP hS hl => ?_)
  have C := B.1
  have hl : lv_has ls 3 [(0, .ref (q 44)), (1, .int (zI sd)), (2, .int (zI rw))] := hl
  refine z_iln C hl 1 rfl dX9_slit_0 ?_
  refine z_i2l C (by omega) dX9_slit_1 ?_
  refine z_lc0 C dX9_slit_2 ?_
  refine z_lc1 C dX9_slit_3 ?_
  refine z_sRO C hP hl (c_X9_in (σ := σ) sd 0 1 (by omega) (by omega) (by omega))  wg_679 wg_10 wg_677 wg_678 cw_X9_in ⟨Nat.le_of_ble_eq_true rfl, Nat.le_of_ble_eq_true rfl⟩ rfl rfl (Nat.le_of_ble_eq_true rfl) dX9_slit_4 ?_
  refine z_bif_eq C 22 (by decide) dX9_slit_7 (fun w1 => ?_) (fun w1 => ?_)
  · skip
    refine z_bp C dX9_slit_22 rfl ?_
    exact z_iretW B hP hS (by rw [if_pos (by omega)]; exact ⟨rfl, rfl⟩) dX9_slit_24
  · skip
    refine z_iln C hl 2 rfl dX9_slit_10 ?_
    refine z_i2l C (by omega) dX9_slit_11 ?_
    refine z_lc1 C dX9_slit_12 ?_
    refine z_ldc2 C (n := 63) wg_883 (by decide) dX9_slit_13 ?_
    refine z_sRO C hP hl (c_X9_in (σ := σ) rw 1 63 (by omega) (by omega) (by omega))  wg_679 wg_10 wg_677 wg_678 cw_X9_in ⟨Nat.le_of_ble_eq_true rfl, Nat.le_of_ble_eq_true rfl⟩ rfl rfl (Nat.le_of_ble_eq_true rfl) dX9_slit_16 ?_
    refine z_bif_ne C 25 (by decide) dX9_slit_19 (fun w2 => ?_) (fun w2 => ?_)
    · skip
      refine z_aln C hl 0 rfl dX9_slit_25 ?_
      refine gf_X9_229 C hP dX9_slit_26 ?_
      refine z_bp C dX9_slit_29 rfl ?_
      refine z_icmp_ne C 37 (by decide) (by omega) (by omega) dX9_slit_31 (fun w3 => ?_) (fun w3 => ?_)
      · skip
        refine z_aln C hl 0 rfl dX9_slit_37 ?_
        refine gf_X9_56 C hP dX9_slit_38 ?_
        refine z_aln C hl 0 rfl dX9_slit_41 ?_
        refine gf_X9_229 C hP dX9_slit_42 ?_
        refine z_iln C hl 1 rfl dX9_slit_45 ?_
        refine z_iast C hq hP hS (i := 60) (by decide) (fun _ => rfl) (by omega) (by decide) dX9_slit_46 (fun H locs hP hS => ?_)
        refine z_aln C hl 0 rfl dX9_slit_47 ?_
        refine gf_X9_59 C hP dX9_slit_48 ?_
        refine z_aln C hl 0 rfl dX9_slit_51 ?_
        refine gf_X9_229 C hP dX9_slit_52 ?_
        refine z_tope (b := σ 44 27) (by unfold um; rw [if_neg (by omega)]) ?_
        refine z_iln C hl 2 rfl dX9_slit_55 ?_
        refine z_iast C hq hP hS (i := 61) (by decide) (fun _ => rfl) (by omega) (by decide) dX9_slit_56 (fun H locs hP hS => ?_)
        refine z_aln C hl 0 rfl dX9_slit_57 ?_
        refine z_dup C rfl dX9_slit_58 ?_
        refine gf_X9_229 C hP dX9_slit_59 ?_
        refine z_tope (b := σ 44 27) (by unfold um; rw [if_neg (by omega), if_neg (by omega)]) ?_
        refine z_ic C dX9_slit_62 ?_
        refine z_iadd C dX9_slit_63 ?_
        refine pf_X9_229 C hq hP hS dX9_slit_64 (fun H locs hP hS => ?_)
        refine z_aln C hl 0 rfl dX9_slit_67 ?_
        refine gf_X9_229 C hP dX9_slit_68 ?_
        refine z_tope (b := (σ 44 27) + 1) (by unfold um; rw [if_pos ⟨rfl, rfl⟩]) ?_
        refine z_ic C dX9_slit_71 ?_
        refine z_isub C dX9_slit_72 ?_
        exact z_iretW B hP hS (by rw [if_neg (by omega), if_neg (by omega)]; exact ⟨by omega, rfl⟩) dX9_slit_73
      · skip
        refine z_bp C dX9_slit_34 rfl ?_
        exact z_iretW B hP hS (by rw [if_neg (by omega), if_pos (by omega)]; exact ⟨rfl, rfl⟩) dX9_slit_36
    · skip
      refine z_bp C dX9_slit_22 rfl ?_
      exact z_iretW B hP hS (by rw [if_pos (by omega)]; exact ⟨rfl, rfl⟩) dX9_slit_24

set_option maxHeartbeats 4000000 in
set_option maxRecDepth 100000 in
theorem c_X2_catches {l : Launch} {D : va_G} {q : Nat → Nat} {g : Nat → ClassId} {σ : Mem} (i lane : Int) (hI : TI σ) (hX : RI σ) (hi : 0 ≤ i ∧ i < σ 6 3) (hla : 0 ≤ lane ∧ lane < σ 1 2) : RO l yX2_catches cX2_catches 7 (some .boolean) 5 110 D q g σ [.ref (q 6), .int (zI i), .int (zI lane), .ref (q 1)] (some (.int (zI (bz (kCt (co σ) i.toNat lane = true))))) := by
  refine RO.intro (plainFor_of_name (by decide)) (Nat.le_of_ble_eq_true rfl) (fun p e s m args below meth c ls B hP hl => ?_)
  have C := B.1
  have hl : lv_has ls 7 [(0, .ref (q 6)), (1, .int (zI i)), (2, .int (zI lane)), (3, .ref (q 1))] := hl
  have h1 := hI.1
  have hIc := TI_cc hI
  have hx0 := hX.1
  have hx1 := hX.2 i.toNat (by omega)
  have hlb := kLn_b hIc (lane := lane) (by omega)
  have e23 : co σ 23 = σ 23 := co_at rfl
  have e24 : co σ 24 = σ 24 := co_at rfl
  refine z_aln C hl 3 rfl dX2_catches_0 ?_
  refine z_iln C hl 2 rfl dX2_catches_1 ?_
  refine z_vRO C hP hl (c_X7_leaned (σ := σ) lane hI (by omega)) (z_recv C hP (i := 1) (by decide) rfl (ci := 7) rfl) wg_319 wg_2 wg_549 wg_317 wg_318 cw_X7_leaned ⟨Nat.le_of_ble_eq_true rfl, Nat.le_of_ble_eq_true rfl⟩ rfl rfl (Nat.le_of_ble_eq_true rfl) dX2_catches_2 ?_
  refine z_ist C hl [(4, .int (zI (kLn (co σ) lane))), (0, .ref (q 6)), (1, .int (zI i)), (2, .int (zI lane)), (3, .ref (q 1))] (by decide) rfl dX2_catches_5 (fun ls hl => ?_)
  refine z_il C hl 0 rfl dX2_catches_7 ?_
  refine z_sp C dX2_catches_9 rfl ?_
  refine z_icmp_lt C 17 (by decide) (by omega) (by omega) dX2_catches_12 (fun w1 => ?_) (fun w1 => ?_)
  · skip
    refine z_ic C dX2_catches_17 ?_
    refine z_ist C hl [(5, .int (zI 0)), (4, .int (zI (kLn (co σ) lane))), (0, .ref (q 6)), (1, .int (zI i)), (2, .int (zI lane)), (3, .ref (q 1))] (by decide) rfl dX2_catches_18 (fun ls hl => ?_)
    have L20 : ∀ (n : Nat) (r : Int)  , 6 - r < (n : Int) → (0 ≤ r ∧ r ≤ 6) → (kCtF (co σ) i.toNat lane r.toNat = false) → ∀ ls : Array Slot, lv_has ls 7 [(0, .ref (q 6)), (1, .int (zI i)), (2, .int (zI lane)), (3, .ref (q 1)), (4, .int (zI (kLn (co σ) lane))), (5, .int (zI r))] → WO p l e 5 110 s m args below meth c (some (.int (zI (bz (kCt (co σ) i.toNat lane = true))))) (F0 m 20 ls []) := by
      intro n
      induction n with
      | zero => intro r hm hr hn ls hl; exact False.elim (by omega)
      | succ n ih =>
        intro r hm hr hn ls hl
        have ih20 := ih; clear ih
        refine z_il C hl 5 rfl dX2_catches_20 ?_
        refine z_bp C dX2_catches_22 rfl ?_
        refine z_icmp_ge C 83 (by decide) (by omega) (by omega) dX2_catches_24 (fun w2 => ?_) (fun w2 => ?_)
        · skip
          refine z_ic C dX2_catches_83 ?_
          exact z_bret0 B (by unfold kCt; rw [show (6 : Nat) = r.toNat by omega, hn]; simp) dX2_catches_84
        · skip
          have hsb := sh_b (a := σ 24 i.toNat) r.toNat (by omega)
          refine z_aln C hl 0 rfl dX2_catches_27 ?_
          refine gf_X2_15 C hP dX2_catches_28 ?_
          refine z_iln C hl 1 rfl dX2_catches_31 ?_
          refine z_iald C hP (i := 24) (by decide) (fun _ => rfl) (by omega) (by decide) dX2_catches_32 ?_
          refine z_il C hl 5 rfl dX2_catches_33 ?_
          refine z_ishr C (by omega) dX2_catches_35 ?_
          refine z_ic C dX2_catches_36 ?_
          refine z_iand1 C (by omega) dX2_catches_37 ?_
          refine z_ic C dX2_catches_38 ?_
          refine z_icmp_ne C 46 (by decide) (by omega) (by omega) dX2_catches_39 (fun w3 => ?_) (fun w3 => ?_)
          · skip
            have hnl : ¬ σ 24 i.toNat / 2 ^ r.toNat % 2 = 1 := by omega
            refine z_ic C dX2_catches_46 ?_
            refine z_ist C hl [(6, .int (zI 0)), (0, .ref (q 6)), (1, .int (zI i)), (2, .int (zI lane)), (3, .ref (q 1)), (4, .int (zI (kLn (co σ) lane))), (5, .int (zI r))] (by decide) rfl dX2_catches_47 (fun ls hl => ?_)
            refine z_il C hl 0 rfl dX2_catches_49 ?_
            refine z_if_eq C 77 (by decide) (by omega) dX2_catches_51 (fun _ => ?_) (fun w4 => False.elim (by omega))
            refine z_iinc C hl 6 rfl [(5, .int (zI (r + 1))), (6, .int (zI 0)), (0, .ref (q 6)), (1, .int (zI i)), (2, .int (zI lane)), (3, .ref (q 1)), (4, .int (zI (kLn (co σ) lane)))] (by decide) rfl dX2_catches_77 (fun ls hl => ?_)
            refine z_goto C 20 (by decide) dX2_catches_80 ?_
            exact ih20 (r + 1) (by omega) (by omega) (by rw [show (r + 1).toNat = r.toNat + 1 by omega, kCtF, hn, e23, e24, show ((r.toNat : Nat) : Int) = r by omega]; simp; exact fun h => absurd h hnl) ls (lv_sub hl [2, 3, 4, 5, 6, 0] rfl)
          · skip
            have hlk : σ 24 i.toNat / 2 ^ r.toNat % 2 = 1 := w3
            refine z_ic C dX2_catches_42 ?_
            refine z_goto C 47 (by decide) dX2_catches_43 ?_
            refine z_ist C hl [(6, .int (zI 1)), (0, .ref (q 6)), (1, .int (zI i)), (2, .int (zI lane)), (3, .ref (q 1)), (4, .int (zI (kLn (co σ) lane))), (5, .int (zI r))] (by decide) rfl dX2_catches_47 (fun ls hl => ?_)
            refine z_il C hl 0 rfl dX2_catches_49 ?_
            refine z_if_eq C 77 (by decide) (by omega) dX2_catches_51 (fun w5 => False.elim (by omega)) (fun _ => ?_)
            refine z_aln C hl 4 rfl dX2_catches_54 ?_
            refine z_aln C hl 1 rfl dX2_catches_55 ?_
            refine gf_X2_9 C hP dX2_catches_56 ?_
            refine z_iln C hl 2 rfl dX2_catches_59 ?_
            refine z_iald C hP (i := 23) (by decide) (fun _ => rfl) (by omega) (by decide) dX2_catches_60 ?_
            refine z_il C hl 5 rfl dX2_catches_61 ?_
            refine z_il C hl 6 rfl dX2_catches_63 ?_
            refine z_vRO C hP hl (c_X7_film (σ := σ) (σ 23 i.toNat) (kLn (co σ) lane) r hI (by omega) (by omega) (by omega)) (z_recv C hP (i := 1) (by decide) rfl (ci := 7) rfl) wg_251 wg_2 wg_550 wg_249 wg_250 cw_X7_film ⟨Nat.le_of_ble_eq_true rfl, Nat.le_of_ble_eq_true rfl⟩ rfl rfl (Nat.le_of_ble_eq_true rfl) dX2_catches_65 ?_
            have hfb := kFilm_b hIc (σ 23 i.toNat) (kLn (co σ) lane) r
            refine z_iln C hl 3 rfl dX2_catches_68 ?_
            refine z_snRO C hP hl (c_X8_torsoMark (σ := σ) lane )  wg_262 wg_1 wm_551 wg_261 cw_X8_torsoMark ⟨Nat.le_of_ble_eq_true rfl, Nat.le_of_ble_eq_true rfl⟩ rfl rfl (Nat.le_of_ble_eq_true rfl) dX2_catches_69 ?_
            refine z_icmp_ne C 77 (by decide) (by omega) (by omega) dX2_catches_72 (fun w6 => ?_) (fun w6 => ?_)
            · skip
              refine z_iinc C hl 6 rfl [(5, .int (zI (r + 1))), (6, .int (zI 1)), (0, .ref (q 6)), (1, .int (zI i)), (2, .int (zI lane)), (3, .ref (q 1)), (4, .int (zI (kLn (co σ) lane)))] (by decide) rfl dX2_catches_77 (fun ls hl => ?_)
              refine z_goto C 20 (by decide) dX2_catches_80 ?_
              exact ih20 (r + 1) (by omega) (by omega) (by rw [show (r + 1).toNat = r.toNat + 1 by omega, kCtF, hn, e23, e24, show ((r.toNat : Nat) : Int) = r by omega]; simp; exact fun _ => w6) ls (lv_sub hl [2, 3, 4, 5, 6, 0] rfl)
            · skip
              refine z_ic C dX2_catches_75 ?_
              exact z_bret1 B (by unfold kCt; rw [Bool.and_eq_true, decide_eq_true_eq, kCtF_t]; exact ⟨by omega, r.toNat, by omega, by rw [e24]; exact hlk, by rw [e23, show ((r.toNat : Nat) : Int) = r by omega]; omega⟩) dX2_catches_76
    exact L20 ((6 - 0 : Int).toNat + 1) 0 (by omega) (by omega) rfl ls (lv_sub hl [2, 3, 4, 5, 1, 0] rfl)
  · skip
    refine z_ic C dX2_catches_15 ?_
    exact z_bret0 B (by unfold kCt; simp; intro h; omega) dX2_catches_16

set_option maxHeartbeats 1000000 in
set_option maxRecDepth 100000 in
theorem c_X2_look {l : Launch} {D : va_G} {q : Nat → Nat} {g : Nat → ClassId} {σ : Mem} (hq : qok q) (hI : TI σ) (hX : RI σ) : RW l yX2_look cX2_look 4 none 6 136 D q g σ [.ref (q 6), .ref (q 1)] vV (fun _ τ => Fr σ τ ∧ ∀ i : Nat, (i : Int) < σ 6 3 → τ 25 i = ((kMk (co σ) i (co σ 1 2).toNat : Nat) : Int)) := by
  refine RW.intro (plainFor_of_name (by decide)) (Nat.le_of_ble_eq_true rfl) (fun p e s m args below meth c ls B hP hS hl => ?_)
  have C := B.1
  have hl : lv_has ls 4 [(0, .ref (q 6)), (1, .ref (q 1))] := hl
  have h1 := hI.1
  have hx0 := hX.1
  have e12 : co σ 1 2 = σ 1 2 := rfl
  refine z_ic C dX2_look_0 ?_
  refine z_isn C hl [(2, .int (zI 0)), (0, .ref (q 6)), (1, .ref (q 1))] (by decide) rfl dX2_look_1 (fun ls hl => ?_)
  have L2 : ∀ (n : Nat) (i : Int)  (τ : Mem), σ 6 3 - i < (n : Int) → (0 ≤ i ∧ i ≤ σ 6 3) → (Fr σ τ) → (∀ t : Nat, (t : Int) < i → τ 25 t = ((kMk (co σ) t (co σ 1 2).toNat : Nat) : Int)) → ∀ (H : Heap) (locs : List Loc), HP D q g τ H → va_S (aQ q) s.heap H locs → ∀ ls : Array Slot, lv_has ls 4 [(0, .ref (q 6)), (1, .ref (q 1)), (2, .int (zI i))] → WW p l e 6 136 s m args below meth c H locs D q g vV (fun _ τ => Fr σ τ ∧ ∀ i : Nat, (i : Int) < σ 6 3 → τ 25 i = ((kMk (co σ) i (co σ 1 2).toNat : Nat) : Int)) (F0 m 2 ls []) := by
    intro n
    induction n with
    | zero => intro i τ hm hi hF hA H locs hP hS ls hl; exact False.elim (by omega)
    | succ n ih =>
      intro i τ hm hi hF hA H locs hP hS ls hl
      have ih2 := ih; clear ih
      refine z_iln C hl 2 rfl dX2_look_2 ?_
      have f63 := hF 6 3 rfl
      refine z_aln C hl 0 rfl dX2_look_3 ?_
      refine gf_X2_21 C hP dX2_look_4 ?_
      refine z_icmp_ge C 61 (by decide) (by omega) (by omega) dX2_look_7 (fun w1 => ?_) (fun w1 => ?_)
      · skip
        exact z_vretW B hP hS ⟨hF, fun t ht => hA t (by omega)⟩ dX2_look_61
      · skip
        refine z_aln C hl 0 rfl dX2_look_10 ?_
        refine gf_X2_18 C hP dX2_look_11 ?_
        refine z_iln C hl 2 rfl dX2_look_14 ?_
        refine z_ic C dX2_look_15 ?_
        refine z_iast C hq hP hS (i := 25) (by decide) (fun _ => rfl) (by omega) (by decide) dX2_look_16 (fun H locs hP hS => ?_)
        refine z_ic C dX2_look_17 ?_
        refine z_isn C hl [(3, .int (zI 0)), (0, .ref (q 6)), (1, .ref (q 1)), (2, .int (zI i))] (by decide) rfl dX2_look_18 (fun ls hl => ?_)
        have L19 : ∀ (n : Nat) (k : Int)  (υ : Mem), σ 1 2 - k < (n : Int) → (0 ≤ k ∧ k ≤ σ 1 2) → (Fr σ υ) → (∀ t : Nat, t ≠ i.toNat → υ 25 t = τ 25 t) → (υ 25 i.toNat = ((kMk (co σ) i.toNat k.toNat : Nat) : Int)) → ∀ (H : Heap) (locs : List Loc), HP D q g υ H → va_S (aQ q) s.heap H locs → ∀ ls : Array Slot, lv_has ls 4 [(0, .ref (q 6)), (1, .ref (q 1)), (2, .int (zI i)), (3, .int (zI k))] → WW p l e 6 136 s m args below meth c H locs D q g vV (fun _ τ => Fr σ τ ∧ ∀ i : Nat, (i : Int) < σ 6 3 → τ 25 i = ((kMk (co σ) i (co σ 1 2).toNat : Nat) : Int)) (F0 m 19 ls []) := by
          intro n
          induction n with
          | zero => intro k υ hm hk hF2 hA2 hv H locs hP hS ls hl; exact False.elim (by omega)
          | succ n ih =>
            intro k υ hm hk hF2 hA2 hv H locs hP hS ls hl
            have ih19 := ih; clear ih
            refine z_iln C hl 3 rfl dX2_look_19 ?_
            have f12 := hF2 1 2 rfl
            refine z_aln C hl 1 rfl dX2_look_20 ?_
            refine gf_X2_25 C hP dX2_look_21 ?_
            refine z_icmp_ge C 55 (by decide) (by omega) (by omega) dX2_look_24 (fun w2 => ?_) (fun w2 => ?_)
            · skip
              refine z_iinc C hl 2 rfl [(2, .int (zI (i + 1))), (0, .ref (q 6)), (1, .ref (q 1)), (3, .int (zI k))] (by decide) rfl dX2_look_55 (fun ls hl => ?_)
              refine z_goto C 2 (by decide) dX2_look_58 ?_
              exact ih2 (i + 1) υ (by omega) (by omega) hF2 (fun t ht => if q : t = i.toNat then (by rw [q, hv, show k.toNat = (co σ 1 2).toNat by omega]) else (by rw [hA2 t q]; exact hA t (by omega))) _ _ hP hS ls (lv_sub hl [1, 2, 0] rfl)
            · skip
              have ecu := Fr_co hF2
              have hIu := Fr_TI hF2 hI
              have hXu := Fr_RI hF2 hX
              have f63u := hF2 6 3 rfl
              refine z_aln C hl 0 rfl dX2_look_27 ?_
              refine z_iln C hl 2 rfl dX2_look_28 ?_
              refine z_iln C hl 3 rfl dX2_look_29 ?_
              refine z_aln C hl 1 rfl dX2_look_30 ?_
              refine z_vRO C hP hl (c_X2_catches (σ := υ) i k hIu hXu (by omega) (by omega)) (z_recv C hP (i := 6) (by decide) rfl (ci := 2) rfl) wg_548 wg_9 wg_545 wg_546 wg_547 cw_X2_catches ⟨Nat.le_of_ble_eq_true rfl, Nat.le_of_ble_eq_true rfl⟩ rfl rfl (Nat.le_of_ble_eq_true rfl) dX2_look_31 ?_
              refine z_bif_eq C 49 (by decide) dX2_look_34 (fun w3 => ?_) (fun w3 => ?_)
              · skip
                refine z_iinc C hl 3 rfl [(3, .int (zI (k + 1))), (0, .ref (q 6)), (1, .ref (q 1)), (2, .int (zI i))] (by decide) rfl dX2_look_49 (fun ls hl => ?_)
                refine z_goto C 19 (by decide) dX2_look_52 ?_
                exact ih19 (k + 1) υ (by omega) (by omega) hF2 hA2 (by rw [show (k + 1).toNat = k.toNat + 1 by omega, kMk, if_neg (by rw [show ((k.toNat : Nat) : Int) = k by omega, ← ecu]; exact w3)]; exact hv) _ _ hP hS ls (lv_sub hl [1, 2, 3, 0] rfl)
              · skip
                have hml := kMk_lt (T := co σ) (i := i.toNat) k.toNat (by omega)
                have hpw : (0 : Int) ≤ 1 * 2 ^ k.toNat := by rw [Int.one_mul]; exact Int.le_of_lt (Int.pow_pos (by omega))
                refine z_aln C hl 0 rfl dX2_look_37 ?_
                refine gf_X2_18 C hP dX2_look_38 ?_
                refine z_iln C hl 2 rfl dX2_look_41 ?_
                refine z_dup2 C rfl rfl dX2_look_42 ?_
                refine z_iald C hP (i := 25) (by decide) (fun _ => rfl) (by omega) (by decide) dX2_look_43 ?_
                refine z_ic C dX2_look_44 ?_
                refine z_iln C hl 3 rfl dX2_look_45 ?_
                refine z_ishl C (by omega) dX2_look_46 ?_
                refine z_ior C (by omega) dX2_look_47 ?_
                refine z_iast C hq hP hS (i := 25) (by decide) (fun _ => rfl) (by omega) (by decide) dX2_look_48 (fun H locs hP hS => ?_)
                refine z_iinc C hl 3 rfl [(3, .int (zI (k + 1))), (0, .ref (q 6)), (1, .ref (q 1)), (2, .int (zI i))] (by decide) rfl dX2_look_49 (fun ls hl => ?_)
                refine z_goto C 19 (by decide) dX2_look_52 ?_
                exact ih19 (k + 1) (um υ 25 i.toNat (((υ 25 i.toNat).toNat ||| ((1 : Int) * 2 ^ k.toNat).toNat : Nat) : Int)) (by omega) (by omega) (Fr_um hF2 (by simp [sc])) (fun t ht => by simp [um, ht]; exact hA2 t ht) (by rw [show (k + 1).toNat = k.toNat + 1 by omega, kMk, if_pos (by rw [show ((k.toNat : Nat) : Int) = k by omega, ← ecu]; exact w3)]; exact mk_or hv) _ _ hP hS ls (lv_sub hl [1, 2, 3, 0] rfl)
        exact L19 ((σ 1 2 - 0 : Int).toNat + 1) 0 (um τ 25 i.toNat 0) (by omega) (by omega) (Fr_um hF (by simp [sc])) (fun t ht => by simp [um, ht]) (by rw [um_at]; rfl) _ _ hP hS ls (lv_sub hl [1, 2, 3, 0] rfl)
  exact L2 ((σ 6 3 - 0 : Int).toNat + 1) 0 σ (by omega) (by omega) Fr_rf (fun t ht => by omega) _ _ hP hS ls (lv_sub hl [1, 2, 0] rfl)

set_option maxHeartbeats 4000000 in
set_option maxRecDepth 100000 in
theorem c_X2_seenBy {l : Launch} {D : va_G} {q : Nat → Nat} {g : Nat → ClassId} {σ : Mem} (st : Int) (hI : TI σ) (hX : RI σ) (hLS : ∀ i : Nat, (i : Int) < σ 6 3 → σ 25 i = ((kMk (co σ) i (co σ 1 2).toNat : Nat) : Int)) (hst : 0 ≤ st ∧ st ≤ 255) : RO l yX2_seenBy cX2_seenBy 4 (some .int) 0 0 D q g σ [.ref (q 6), .int (zI st)] (some (.int (zI (((kSb (co σ) st (σ 6 3).toNat : Nat) : Int))))) := by
  refine RO.intro (plainFor_of_name (by decide)) (Nat.le_of_ble_eq_true rfl) (fun p e s m args below meth c ls B hP hl => ?_)
  have C := B.1
  have hl : lv_has ls 4 [(0, .ref (q 6)), (1, .int (zI st))] := hl
  have h1 := hI.1
  have hx0 := hX.1
  have e12 : co σ 1 2 = σ 1 2 := rfl
  refine z_ic C dX2_seenBy_0 ?_
  refine z_isn C hl [(2, .int (zI 0)), (0, .ref (q 6)), (1, .int (zI st))] (by decide) rfl dX2_seenBy_1 (fun ls hl => ?_)
  refine z_ic C dX2_seenBy_2 ?_
  refine z_isn C hl [(3, .int (zI 0)), (2, .int (zI 0)), (0, .ref (q 6)), (1, .int (zI st))] (by decide) rfl dX2_seenBy_3 (fun ls hl => ?_)
  have L4 : ∀ (n : Nat) (x : Int) (i : Int)  , σ 6 3 - i < (n : Int) → (0 ≤ i ∧ i ≤ σ 6 3) → (x = ((kSb (co σ) st i.toNat : Nat) : Int)) → ∀ ls : Array Slot, lv_has ls 4 [(0, .ref (q 6)), (1, .int (zI st)), (2, .int (zI x)), (3, .int (zI i))] → WO p l e 0 0 s m args below meth c (some (.int (zI (((kSb (co σ) st (σ 6 3).toNat : Nat) : Int))))) (F0 m 4 ls []) := by
    intro n
    induction n with
    | zero => intro x i hm hi hx ls hl; exact False.elim (by omega)
    | succ n ih =>
      intro x i hm hi hx ls hl
      have ih4 := ih; clear ih
      refine z_iln C hl 3 rfl dX2_seenBy_4 ?_
      refine z_aln C hl 0 rfl dX2_seenBy_5 ?_
      refine gf_X2_21 C hP dX2_seenBy_6 ?_
      refine z_icmp_ge C 36 (by decide) (by omega) (by omega) dX2_seenBy_9 (fun w1 => ?_) (fun w1 => ?_)
      · skip
        refine z_iln C hl 2 rfl dX2_seenBy_36 ?_
        exact z_iret B (by rw [hx, show (σ 6 3).toNat = i.toNat by omega]) dX2_seenBy_37
      · skip
        have hsb := sh_b (a := st) i.toNat (by omega)
        have hv := hLS i.toNat (by omega)
        refine z_iln C hl 1 rfl dX2_seenBy_12 ?_
        refine z_iln C hl 3 rfl dX2_seenBy_13 ?_
        refine z_ishr C (by omega) dX2_seenBy_14 ?_
        refine z_ic C dX2_seenBy_15 ?_
        refine z_iand1 C (by omega) dX2_seenBy_16 ?_
        refine z_ic C dX2_seenBy_17 ?_
        refine z_icmp_ne C 30 (by decide) (by omega) (by omega) dX2_seenBy_18 (fun w2 => ?_) (fun w2 => ?_)
        · skip
          refine z_iinc C hl 3 rfl [(3, .int (zI (i + 1))), (0, .ref (q 6)), (1, .int (zI st)), (2, .int (zI x))] (by decide) rfl dX2_seenBy_30 (fun ls hl => ?_)
          refine z_goto C 4 (by decide) dX2_seenBy_33 ?_
          exact ih4 x (i + 1) (by omega) (by omega) (by rw [show (i + 1).toNat = i.toNat + 1 by omega, kSb, if_neg (by omega), hx]) ls (lv_sub hl [1, 2, 3, 0] rfl)
        · skip
          refine z_iln C hl 2 rfl dX2_seenBy_21 ?_
          refine z_aln C hl 0 rfl dX2_seenBy_22 ?_
          refine gf_X2_18 C hP dX2_seenBy_23 ?_
          refine z_iln C hl 3 rfl dX2_seenBy_26 ?_
          refine z_iald C hP (i := 25) (by decide) (fun _ => rfl) (by omega) (by decide) dX2_seenBy_27 ?_
          refine z_ior C (by omega) dX2_seenBy_28 ?_
          refine z_isn C hl [(2, .int (zI ((x.toNat ||| (σ 25 i.toNat).toNat : Nat) : Int))), (0, .ref (q 6)), (1, .int (zI st)), (3, .int (zI i))] (by decide) rfl dX2_seenBy_29 (fun ls hl => ?_)
          refine z_iinc C hl 3 rfl [(3, .int (zI (i + 1))), (2, .int (zI ((x.toNat ||| (σ 25 i.toNat).toNat : Nat) : Int))), (0, .ref (q 6)), (1, .int (zI st))] (by decide) rfl dX2_seenBy_30 (fun ls hl => ?_)
          refine z_goto C 4 (by decide) dX2_seenBy_33 ?_
          exact ih4 ((x.toNat ||| (σ 25 i.toNat).toNat : Nat) : Int) (i + 1) (by omega) (by omega) (by rw [show (i + 1).toNat = i.toNat + 1 by omega, kSb, if_pos (by omega), hx, hv, Int.toNat_natCast, Int.toNat_natCast]) ls (lv_sub hl [2, 3, 1, 0] rfl)
  exact L4 ((σ 6 3 - 0 : Int).toNat + 1) 0 0 (by omega) (by omega) rfl ls (lv_sub hl [2, 3, 1, 0] rfl)

set_option maxHeartbeats 4000000 in
set_option maxRecDepth 100000 in
theorem c_X8_untold {l : Launch} {D : va_G} {q : Nat → Nat} {g : Nat → ClassId} {σ : Mem} (t ms : Int) (ht : 0 ≤ t ∧ t ≤ 6) (hms : 0 ≤ ms ∧ ms ≤ 255) : RO l yX8_untold cX8_untold 2 (some .int) 1 20 D q g σ [.int (zI t), .int (zI ms)] (some (.int (zI (kUnt t ms)))) := by
  refine RO.intro (plainFor_of_name (by decide)) (Nat.le_of_ble_eq_true rfl) (fun p e s m args below meth c ls B hP hl => ?_)
  have C := B.1
  have hl : lv_has ls 2 [(0, .int (zI t)), (1, .int (zI ms))] := hl
  have hpb := pc_b (x := ms) (by omega)
  refine z_iln C hl 0 rfl dX8_untold_0 ?_
  refine z_sRO C hP hl (c_X8_pairsOf (σ := σ) t (by omega))  wg_565 wg_1 wg_563 wg_564 cw_X8_pairsOf ⟨Nat.le_of_ble_eq_true rfl, Nat.le_of_ble_eq_true rfl⟩ rfl rfl (Nat.le_of_ble_eq_true rfl) dX8_untold_1 ?_
  refine z_iln C hl 1 rfl dX8_untold_4 ?_
  refine z_sRO C hP hl (c_J6_bitCount_0f7a4 (σ := σ) ms (by omega))  wg_568 wg_12 wg_566 wg_567 cw_J6_bitCount_0f7a4 ⟨Nat.le_of_ble_eq_true rfl, Nat.le_of_ble_eq_true rfl⟩ rfl rfl (Nat.le_of_ble_eq_true rfl) dX8_untold_5 ?_
  refine z_sRO C hP hl (c_X8_pairsOf (σ := σ) (pc ms) (by omega))  wg_565 wg_1 wg_563 wg_564 cw_X8_pairsOf ⟨Nat.le_of_ble_eq_true rfl, Nat.le_of_ble_eq_true rfl⟩ rfl rfl (Nat.le_of_ble_eq_true rfl) dX8_untold_8 ?_
  refine z_isub C dX8_untold_11 ?_
  exact z_iret B rfl dX8_untold_12

set_option maxHeartbeats 4000000 in
set_option maxRecDepth 100000 in
theorem c_X8_seen {l : Launch} {D : va_G} {q : Nat → Nat} {g : Nat → ClassId} {σ : Mem} (hq : qok q) (st wh : Int) (hI : TI σ) (hX : RI σ) (hr_st : zR st) (hr_wh : zR wh) : RW l yX8_seen cX8_seen 4 (some .int) 7 159 D q g σ [.ref (q 0), .int (zI st), .int (zI wh)] vI (fun r τ => Fr σ τ ∧ r = kSeen (co σ) st wh) := by
  refine RW.intro (plainFor_of_name (by decide)) (Nat.le_of_ble_eq_true rfl) (fun p e s m args below meth c ls B hP hS hl => ?_)
  have C := B.1
  have hl : lv_has ls 4 [(0, .ref (q 0)), (1, .int (zI st)), (2, .int (zI wh))] := hl
  have h1 := hI.1
  have hx0 := hX.1
  have e12 : co σ 1 2 = σ 1 2 := rfl
  have e63 : co σ 6 3 = σ 6 3 := rfl
  have hpw := pw2_b hx0
  have hpw1 : (1 : Int) * 2 ^ (σ 6 3).toNat = 2 ^ (σ 6 3).toNat := Int.one_mul _
  have hctb := kCTF_b (T := co σ) (co σ 1 2).toNat
  have hct0 : 0 ≤ kCT (co σ) ∧ kCT (co σ) ≤ 6 := by unfold kCT; omega
  refine z_iln C hl 1 rfl dX8_seen_0 ?_
  refine z_ic C dX8_seen_1 ?_
  refine z_ic C dX8_seen_2 ?_
  refine z_aln C hl 0 rfl dX8_seen_3 ?_
  refine gf_X8_47 C hP dX8_seen_4 ?_
  refine gf_X8_230 C hP dX8_seen_7 ?_
  refine z_ishl C (by omega) dX8_seen_10 ?_
  refine z_ic C dX8_seen_11 ?_
  refine z_isub C dX8_seen_12 ?_
  refine z_sRO C hP hl (c_X8_within (σ := σ) st 0 (((1 : Int) * 2 ^ (σ 6 3).toNat) - 1) (by omega) (by omega) (by omega))  wg_212 wg_1 wg_210 wg_211 cw_X8_within ⟨Nat.le_of_ble_eq_true rfl, Nat.le_of_ble_eq_true rfl⟩ rfl rfl (Nat.le_of_ble_eq_true rfl) dX8_seen_13 ?_
  refine z_bif_eq C 26 (by decide) dX8_seen_16 (fun w1 => ?_) (fun w1 => ?_)
  · skip
    refine z_bp C dX8_seen_26 rfl ?_
    exact z_iretW B hP hS ⟨Fr_rf, by unfold kSeen; rw [if_pos (fun h : okS st wh (co σ 6 3) => by have h2 : (0 ≤ st ∧ st ≤ 2 ^ (σ 6 3).toNat - 1) ∧ (0 ≤ wh ∧ wh ≤ 1) := h; omega)]⟩ dX8_seen_28
  · skip
    refine z_iln C hl 2 rfl dX8_seen_19 ?_
    refine z_sRO C hP hl (c_X8_isEither (σ := σ) wh (by omega))  wg_247 wg_1 wg_245 wg_246 cw_X8_isEither ⟨Nat.le_of_ble_eq_true rfl, Nat.le_of_ble_eq_true rfl⟩ rfl rfl (Nat.le_of_ble_eq_true rfl) dX8_seen_20 ?_
    refine z_bif_ne C 29 (by decide) dX8_seen_23 (fun w2 => ?_) (fun w2 => ?_)
    · skip
      refine z_aln C hl 0 rfl dX8_seen_29 ?_
      refine gf_X8_47 C hP dX8_seen_30 ?_
      refine z_aln C hl 0 rfl dX8_seen_33 ?_
      refine gf_X8_10 C hP dX8_seen_34 ?_
      refine z_vRWv C hP hS hl (c_X2_look (σ := σ) hq  hI hX) (z_recv C hP (i := 6) (by decide) rfl (ci := 2) rfl) wg_544 wg_9 wg_541 wg_542 wg_543 cw_X2_look ⟨Nat.le_of_ble_eq_true rfl, Nat.le_of_ble_eq_true rfl⟩ rfl rfl (Nat.le_of_ble_eq_true rfl) dX8_seen_37 (fun r37 τ37 H locs hp37 hP hS => ?_)
      obtain ⟨hF, hLk⟩ := hp37
      have hIt := Fr_TI hF hI
      have hXt := Fr_RI hF hX
      have ec := Fr_co hF
      have f63 := hF 6 3 rfl
      have f12 := hF 1 2 rfl
      have hLS : ∀ i : Nat, (i : Int) < τ37 6 3 → τ37 25 i = ((kMk (co τ37) i (co τ37 1 2).toNat : Nat) : Int) := fun i hi => by rw [ec]; exact hLk i (by omega)
      have hkl := kSb_lt (T := co τ37) (st := st) (by rw [ec]; omega) (τ37 6 3).toNat
      have hct : kCT (co τ37) = kCT (co σ) := by rw [ec]
      refine z_aln C hl 0 rfl dX8_seen_40 ?_
      refine gf_X8_47 C hP dX8_seen_41 ?_
      refine z_iln C hl 1 rfl dX8_seen_44 ?_
      refine z_vRO C hP hl (c_X2_seenBy (σ := τ37) st hIt hXt hLS (by omega)) (z_recv C hP (i := 6) (by decide) rfl (ci := 2) rfl) wg_555 wg_9 wg_552 wg_553 wg_554 cw_X2_seenBy ⟨Nat.le_of_ble_eq_true rfl, Nat.le_of_ble_eq_true rfl⟩ rfl rfl (Nat.le_of_ble_eq_true rfl) dX8_seen_45 ?_
      refine z_isn C hl [(3, .int (zI ((kSb (co τ37) st (τ37 6 3).toNat : Nat) : Int))), (0, .ref (q 0)), (1, .int (zI st)), (2, .int (zI wh))] (by decide) rfl dX8_seen_48 (fun ls hl => ?_)
      refine z_iln C hl 3 rfl dX8_seen_49 ?_
      refine z_if_ne C 57 (by decide) (by omega) dX8_seen_50 (fun w3 => ?_) (fun w3 => ?_)
      · skip
        refine z_aln C hl 1 rfl dX8_seen_57 ?_
        refine gf_X8_10 C hP dX8_seen_58 ?_
        refine z_vRO C hP hl (c_X7_countTorsos (σ := τ37)  hIt) (z_recv C hP (i := 1) (by decide) rfl (ci := 7) rfl) wg_559 wg_2 wg_556 wg_557 wg_558 cw_X7_countTorsos ⟨Nat.le_of_ble_eq_true rfl, Nat.le_of_ble_eq_true rfl⟩ rfl rfl (Nat.le_of_ble_eq_true rfl) dX8_seen_61 ?_
        refine z_iln C hl 0 rfl dX8_seen_64 ?_
        refine z_sRO C hP hl (c_X8_untold (σ := τ37) (kCT (co τ37)) ((kSb (co τ37) st (τ37 6 3).toNat : Nat) : Int) (by omega) (by omega))  wg_562 wg_1 wg_560 wg_561 cw_X8_untold ⟨Nat.le_of_ble_eq_true rfl, Nat.le_of_ble_eq_true rfl⟩ rfl rfl (Nat.le_of_ble_eq_true rfl) dX8_seen_65 ?_
        exact z_iretW B hP hS ⟨hF, by unfold kSeen; rw [if_neg (fun h => h (show (0 ≤ st ∧ st ≤ 2 ^ (σ 6 3).toNat - 1) ∧ (0 ≤ wh ∧ wh ≤ 1) by omega)), if_neg (by omega), kU, ec, f63, e63]⟩ dX8_seen_68
      · skip
        refine z_iln C hl 0 rfl dX8_seen_53 ?_
        refine z_goto C 68 (by decide) dX8_seen_54 ?_
        exact z_iretW B hP hS ⟨hF, by unfold kSeen; rw [if_neg (fun h => h (show (0 ≤ st ∧ st ≤ 2 ^ (σ 6 3).toNat - 1) ∧ (0 ≤ wh ∧ wh ≤ 1) by omega)), if_pos (by omega), ec, f63, e63]⟩ dX8_seen_68
    · skip
      refine z_bp C dX8_seen_26 rfl ?_
      exact z_iretW B hP hS ⟨Fr_rf, by unfold kSeen; rw [if_pos (fun h : okS st wh (co σ 6 3) => by have h2 : (0 ≤ st ∧ st ≤ 2 ^ (σ 6 3).toNat - 1) ∧ (0 ≤ wh ∧ wh ≤ 1) := h; omega)]⟩ dX8_seen_28

set_option maxHeartbeats 2000000 in
set_option maxRecDepth 100000 in
theorem c_X8_best {l : Launch} {D : va_G} {q : Nat → Nat} {g : Nat → ClassId} {σ : Mem} (hq : qok q) (k wh : Int) (hI : TI σ) (hX : RI σ) (hr_k : zR k) (hr_wh : zR wh) : RW l yX8_best cX8_best 10 (some .int) 7 159 D q g σ [.ref (q 0), .int (zI k), .int (zI wh)] vI (fun r τ => Fr σ τ ∧ r = kBest (co σ) k wh) := by
  refine RW.intro (plainFor_of_name (by decide)) (Nat.le_of_ble_eq_true rfl) (fun p e s m args below meth c ls B hP hS hl => ?_)
  have C := B.1
  have hl : lv_has ls 10 [(0, .ref (q 0)), (1, .int (zI k)), (2, .int (zI wh))] := hl
  have h1 := hI.1
  have hIc := TI_cc hI
  have hx0 := hX.1
  have e12 : co σ 1 2 = σ 1 2 := rfl
  have e63 : co σ 6 3 = σ 6 3 := rfl
  have hpw := pw2_b hx0
  have hpw1 : (1 : Int) * 2 ^ (σ 6 3).toNat = 2 ^ (σ 6 3).toNat := Int.one_mul _
  have hctb := kCTF_b (T := co σ) (co σ 1 2).toNat
  have hct0 : 0 ≤ kCT (co σ) ∧ kCT (co σ) ≤ 6 := by unfold kCT; omega
  refine z_iln C hl 1 rfl dX8_best_0 ?_
  refine z_ic C dX8_best_1 ?_
  refine z_bp C dX8_best_2 rfl ?_
  refine z_sRO C hP hl (c_X8_within (σ := σ) k 0 8 (by omega) (by omega) (by omega))  wg_212 wg_1 wg_210 wg_211 cw_X8_within ⟨Nat.le_of_ble_eq_true rfl, Nat.le_of_ble_eq_true rfl⟩ rfl rfl (Nat.le_of_ble_eq_true rfl) dX8_best_4 ?_
  refine z_bif_eq C 17 (by decide) dX8_best_7 (fun w1 => ?_) (fun w1 => ?_)
  · skip
    refine z_bp C dX8_best_17 rfl ?_
    exact z_iretW B hP hS ⟨Fr_rf, by unfold kBest; rw [if_pos (by omega)]⟩ dX8_best_19
  · skip
    refine z_iln C hl 2 rfl dX8_best_10 ?_
    refine z_sRO C hP hl (c_X8_isEither (σ := σ) wh (by omega))  wg_247 wg_1 wg_245 wg_246 cw_X8_isEither ⟨Nat.le_of_ble_eq_true rfl, Nat.le_of_ble_eq_true rfl⟩ rfl rfl (Nat.le_of_ble_eq_true rfl) dX8_best_11 ?_
    refine z_bif_ne C 20 (by decide) dX8_best_14 (fun w2 => ?_) (fun w2 => ?_)
    · skip
      refine z_aln C hl 0 rfl dX8_best_20 ?_
      refine gf_X8_47 C hP dX8_best_21 ?_
      refine z_aln C hl 0 rfl dX8_best_24 ?_
      refine gf_X8_10 C hP dX8_best_25 ?_
      refine z_vRWv C hP hS hl (c_X2_look (σ := σ) hq  hI hX) (z_recv C hP (i := 6) (by decide) rfl (ci := 2) rfl) wg_544 wg_9 wg_541 wg_542 wg_543 cw_X2_look ⟨Nat.le_of_ble_eq_true rfl, Nat.le_of_ble_eq_true rfl⟩ rfl rfl (Nat.le_of_ble_eq_true rfl) dX8_best_28 (fun r28 τ28 H locs hp28 hP hS => ?_)
      obtain ⟨hF, hLk⟩ := hp28
      have hIt := Fr_TI hF hI
      have hXt := Fr_RI hF hX
      have ec := Fr_co hF
      have f63 := hF 6 3 rfl
      have f12 := hF 1 2 rfl
      have hLS : ∀ i : Nat, (i : Int) < τ28 6 3 → τ28 25 i = ((kMk (co τ28) i (co τ28 1 2).toNat : Nat) : Int) := fun i hi => by rw [ec]; exact hLk i (by omega)
      have hct : kCT (co τ28) = kCT (co σ) := by rw [ec]
      have hpw3 : (1 : Int) * 2 ^ (τ28 6 3).toNat = 2 ^ (σ 6 3).toNat := by rw [f63]; exact hpw1
      refine z_ic C dX8_best_31 ?_
      refine z_isn C hl [(3, .int (zI 0)), (0, .ref (q 0)), (1, .int (zI k)), (2, .int (zI wh))] (by decide) rfl dX8_best_32 (fun ls hl => ?_)
      refine z_aln C hl 1 rfl dX8_best_33 ?_
      refine gf_X8_10 C hP dX8_best_34 ?_
      refine z_vRO C hP hl (c_X7_countTorsos (σ := τ28)  hIt) (z_recv C hP (i := 1) (by decide) rfl (ci := 7) rfl) wg_559 wg_2 wg_556 wg_557 wg_558 cw_X7_countTorsos ⟨Nat.le_of_ble_eq_true rfl, Nat.le_of_ble_eq_true rfl⟩ rfl rfl (Nat.le_of_ble_eq_true rfl) dX8_best_37 ?_
      refine z_ist C hl [(4, .int (zI (kCT (co τ28)))), (3, .int (zI 0)), (0, .ref (q 0)), (1, .int (zI k)), (2, .int (zI wh))] (by decide) rfl dX8_best_40 (fun ls hl => ?_)
      refine z_il C hl 0 rfl dX8_best_42 ?_
      refine z_ic C dX8_best_44 ?_
      refine z_sRO C hP hl (c_X8_untold (σ := τ28) (kCT (co τ28)) 0 (by omega) (by omega))  wg_562 wg_1 wg_560 wg_561 cw_X8_untold ⟨Nat.le_of_ble_eq_true rfl, Nat.le_of_ble_eq_true rfl⟩ rfl rfl (Nat.le_of_ble_eq_true rfl) dX8_best_45 ?_
      refine z_ist C hl [(5, .int (zI (kUnt (kCT (co τ28)) 0))), (4, .int (zI (kCT (co τ28)))), (3, .int (zI 0)), (0, .ref (q 0)), (1, .int (zI k)), (2, .int (zI wh))] (by decide) rfl dX8_best_48 (fun ls hl => ?_)
      refine z_ic C dX8_best_50 ?_
      refine z_ist C hl [(6, .int (zI 1)), (5, .int (zI (kUnt (kCT (co τ28)) 0))), (4, .int (zI (kCT (co τ28)))), (3, .int (zI 0)), (0, .ref (q 0)), (1, .int (zI k)), (2, .int (zI wh))] (by decide) rfl dX8_best_51 (fun ls hl => ?_)
      have L53 : ∀ (n : Nat) (bs : Int) (fw : Int) (x : Int)  , 2 ^ (σ 6 3).toNat - x < (n : Int) → (1 ≤ x ∧ x ≤ 2 ^ (σ 6 3).toNat) → (bs = (bsF (co σ) k (x - 1).toNat).1) → (fw = (bsF (co σ) k (x - 1).toNat).2) → ∀ ls : Array Slot, lv_has ls 10 [(0, .ref (q 0)), (1, .int (zI k)), (2, .int (zI wh)), (3, .int (zI bs)), (4, .int (zI (kCT (co τ28)))), (5, .int (zI fw)), (6, .int (zI x))] → WW p l e 7 159 s m args below meth c H locs D q g vI (fun r τ => Fr σ τ ∧ r = kBest (co σ) k wh) (F0 m 53 ls []) := by
        intro n
        induction n with
        | zero => intro bs fw x hm hx hb1 hb2 ls hl; exact False.elim (by omega)
        | succ n ih =>
          intro bs fw x hm hx hb1 hb2 ls hl
          have ih53 := ih; clear ih
          refine z_il C hl 6 rfl dX8_best_53 ?_
          refine z_ic C dX8_best_55 ?_
          refine z_aln C hl 0 rfl dX8_best_56 ?_
          refine gf_X8_47 C hP dX8_best_57 ?_
          refine gf_X8_230 C hP dX8_best_60 ?_
          refine z_ishl C (by omega) dX8_best_63 ?_
          refine z_icmp_ge C 144 (by decide) (by omega) (by omega) dX8_best_64 (fun w3 => ?_) (fun w3 => ?_)
          · skip
            refine z_iln C hl 2 rfl dX8_best_144 ?_
            refine z_if_ne C 152 (by decide) (by omega) dX8_best_145 (fun w4 => ?_) (fun w4 => ?_)
            · skip
              refine z_il C hl 5 rfl dX8_best_152 ?_
              exact z_iretW B hP hS ⟨hF, by unfold kBest; rw [if_neg (by omega), e63, show 2 ^ (σ 6 3).toNat - 1 = (x - 1).toNat by omega, if_neg (by omega)]; exact hb2⟩ dX8_best_154
            · skip
              refine z_iln C hl 3 rfl dX8_best_148 ?_
              refine z_goto C 154 (by decide) dX8_best_149 ?_
              exact z_iretW B hP hS ⟨hF, by unfold kBest; rw [if_neg (by omega), e63, show 2 ^ (σ 6 3).toNat - 1 = (x - 1).toNat by omega, if_pos (by omega)]; exact hb1⟩ dX8_best_154
          · skip
            have hbb := bsF_b hIc k (x - 1).toNat
            have hkl := kSb_lt (T := co τ28) (st := x) (by rw [ec]; omega) (τ28 6 3).toNat
            have hpx := pc_b (x := x) (by omega)
            have hpb := pc_b (x := bs) (by omega)
            have hku : kUnt (kCT (co τ28)) ((kSb (co τ28) x (τ28 6 3).toNat : Nat) : Int) = kU (co σ) x := by rw [ec, f63]; rfl
            have hkb := kUnt_b (t := kCT (co τ28)) (m := ((kSb (co τ28) x (τ28 6 3).toNat : Nat) : Int)) (by omega) (by omega)
            have hst : bsF (co σ) k (x + 1 - 1).toNat = if pc x ≤ k ∧ (kU (co σ) x < (bsF (co σ) k (x - 1).toNat).2 ∨ (kU (co σ) x = (bsF (co σ) k (x - 1).toNat).2 ∧ pc x < pc (bsF (co σ) k (x - 1).toNat).1)) then (x, kU (co σ) x) else bsF (co σ) k (x - 1).toNat := by rw [show (x + 1 - 1).toNat = (x - 1).toNat + 1 by omega, bsF, show (((x - 1).toNat : Nat) : Int) + 1 = x by omega]
            rw [← hb1, ← hb2] at hst
            refine z_il C hl 6 rfl dX8_best_67 ?_
            refine z_sRO C hP hl (c_J6_bitCount_0f7a4 (σ := τ28) x (by omega))  wg_568 wg_12 wg_566 wg_567 cw_J6_bitCount_0f7a4 ⟨Nat.le_of_ble_eq_true rfl, Nat.le_of_ble_eq_true rfl⟩ rfl rfl (Nat.le_of_ble_eq_true rfl) dX8_best_69 ?_
            refine z_ist C hl [(7, .int (zI (pc x))), (0, .ref (q 0)), (1, .int (zI k)), (2, .int (zI wh)), (3, .int (zI bs)), (4, .int (zI (kCT (co τ28)))), (5, .int (zI fw)), (6, .int (zI x))] (by decide) rfl dX8_best_72 (fun ls hl => ?_)
            refine z_il C hl 5 rfl dX8_best_74 ?_
            refine z_aln C hl 1 rfl dX8_best_76 ?_
            refine gf_X8_47 C hP dX8_best_77 ?_
            refine z_il C hl 7 rfl dX8_best_80 ?_
            refine z_vRO C hP hl (c_X2_seenBy (σ := τ28) x hIt hXt hLS (by omega)) (z_recv C hP (i := 6) (by decide) rfl (ci := 2) rfl) wg_555 wg_9 wg_552 wg_553 wg_554 cw_X2_seenBy ⟨Nat.le_of_ble_eq_true rfl, Nat.le_of_ble_eq_true rfl⟩ rfl rfl (Nat.le_of_ble_eq_true rfl) dX8_best_82 ?_
            refine z_sRO C hP hl (c_X8_untold (σ := τ28) (kCT (co τ28)) ((kSb (co τ28) x (τ28 6 3).toNat : Nat) : Int) (by omega) (by omega))  wg_562 wg_1 wg_560 wg_561 cw_X8_untold ⟨Nat.le_of_ble_eq_true rfl, Nat.le_of_ble_eq_true rfl⟩ rfl rfl (Nat.le_of_ble_eq_true rfl) dX8_best_85 ?_
            refine z_ist C hl [(8, .int (zI (kUnt (kCT (co τ28)) ((kSb (co τ28) x (τ28 6 3).toNat : Nat) : Int)))), (7, .int (zI (pc x))), (0, .ref (q 0)), (1, .int (zI k)), (2, .int (zI wh)), (3, .int (zI bs)), (4, .int (zI (kCT (co τ28)))), (5, .int (zI fw)), (6, .int (zI x))] (by decide) rfl dX8_best_88 (fun ls hl => ?_)
            refine z_il C hl 0 rfl dX8_best_90 ?_
            refine z_il C hl 7 rfl dX8_best_92 ?_
            refine z_icmp_lt C 113 (by decide) (by omega) (by omega) dX8_best_94 (fun w5 => ?_) (fun w5 => ?_)
            · skip
              refine z_ic C dX8_best_113 ?_
              refine z_goto C 118 (by decide) dX8_best_114 ?_
              refine z_ist C hl [(9, .int (zI 1)), (8, .int (zI (kUnt (kCT (co τ28)) ((kSb (co τ28) x (τ28 6 3).toNat : Nat) : Int)))), (7, .int (zI (pc x))), (0, .ref (q 0)), (1, .int (zI k)), (2, .int (zI wh)), (3, .int (zI bs)), (4, .int (zI (kCT (co τ28)))), (5, .int (zI fw)), (6, .int (zI x))] (by decide) rfl dX8_best_118 (fun ls hl => ?_)
              refine z_il C hl 2 rfl dX8_best_120 ?_
              refine z_iln C hl 4 rfl dX8_best_122 ?_
              refine z_icmp_gt C 138 (by decide) (by omega) (by omega) dX8_best_123 (fun w6 => ?_) (fun w6 => ?_)
              · skip
                refine z_iinc C hl 9 rfl [(6, .int (zI (x + 1))), (9, .int (zI 1)), (8, .int (zI (kUnt (kCT (co τ28)) ((kSb (co τ28) x (τ28 6 3).toNat : Nat) : Int)))), (7, .int (zI (pc x))), (0, .ref (q 0)), (1, .int (zI k)), (2, .int (zI wh)), (3, .int (zI bs)), (4, .int (zI (kCT (co τ28)))), (5, .int (zI fw))] (by decide) rfl dX8_best_138 (fun ls hl => ?_)
                refine z_goto C 53 (by decide) dX8_best_141 ?_
                exact ih53 bs fw (x + 1) (by omega) (by omega) (by rw [hst, if_neg (by omega)]; exact hb1) (by rw [hst, if_neg (by omega)]; exact hb2) ls (lv_sub hl [4, 5, 6, 7, 8, 9, 0] rfl)
              · skip
                refine z_il C hl 0 rfl dX8_best_126 ?_
                refine z_if_eq C 138 (by decide) (by omega) dX8_best_128 (fun w7 => False.elim (by omega)) (fun _ => ?_)
                refine z_il C hl 9 rfl dX8_best_131 ?_
                refine z_isn C hl [(3, .int (zI x)), (9, .int (zI 1)), (8, .int (zI (kUnt (kCT (co τ28)) ((kSb (co τ28) x (τ28 6 3).toNat : Nat) : Int)))), (7, .int (zI (pc x))), (0, .ref (q 0)), (1, .int (zI k)), (2, .int (zI wh)), (4, .int (zI (kCT (co τ28)))), (5, .int (zI fw)), (6, .int (zI x))] (by decide) rfl dX8_best_133 (fun ls hl => ?_)
                refine z_il C hl 2 rfl dX8_best_134 ?_
                refine z_ist C hl [(5, .int (zI (kUnt (kCT (co τ28)) ((kSb (co τ28) x (τ28 6 3).toNat : Nat) : Int)))), (3, .int (zI x)), (9, .int (zI 1)), (8, .int (zI (kUnt (kCT (co τ28)) ((kSb (co τ28) x (τ28 6 3).toNat : Nat) : Int)))), (7, .int (zI (pc x))), (0, .ref (q 0)), (1, .int (zI k)), (2, .int (zI wh)), (4, .int (zI (kCT (co τ28)))), (6, .int (zI x))] (by decide) rfl dX8_best_136 (fun ls hl => ?_)
                refine z_iinc C hl 9 rfl [(6, .int (zI (x + 1))), (5, .int (zI (kUnt (kCT (co τ28)) ((kSb (co τ28) x (τ28 6 3).toNat : Nat) : Int)))), (3, .int (zI x)), (9, .int (zI 1)), (8, .int (zI (kUnt (kCT (co τ28)) ((kSb (co τ28) x (τ28 6 3).toNat : Nat) : Int)))), (7, .int (zI (pc x))), (0, .ref (q 0)), (1, .int (zI k)), (2, .int (zI wh)), (4, .int (zI (kCT (co τ28))))] (by decide) rfl dX8_best_138 (fun ls hl => ?_)
                refine z_goto C 53 (by decide) dX8_best_141 ?_
                exact ih53 x (kUnt (kCT (co τ28)) ((kSb (co τ28) x (τ28 6 3).toNat : Nat) : Int)) (x + 1) (by omega) (by omega) (by rw [hst, if_pos (by omega)]) (by rw [hst, if_pos (by omega)]; exact hku) ls (lv_sub hl [6, 7, 8, 2, 9, 1, 0] rfl)
            · skip
              refine z_il C hl 0 rfl dX8_best_97 ?_
              refine z_il C hl 7 rfl dX8_best_99 ?_
              refine z_icmp_ne C 117 (by decide) (by omega) (by omega) dX8_best_101 (fun w8 => ?_) (fun w8 => ?_)
              · skip
                refine z_ic C dX8_best_117 ?_
                refine z_ist C hl [(9, .int (zI 0)), (8, .int (zI (kUnt (kCT (co τ28)) ((kSb (co τ28) x (τ28 6 3).toNat : Nat) : Int)))), (7, .int (zI (pc x))), (0, .ref (q 0)), (1, .int (zI k)), (2, .int (zI wh)), (3, .int (zI bs)), (4, .int (zI (kCT (co τ28)))), (5, .int (zI fw)), (6, .int (zI x))] (by decide) rfl dX8_best_118 (fun ls hl => ?_)
                refine z_il C hl 2 rfl dX8_best_120 ?_
                refine z_iln C hl 4 rfl dX8_best_122 ?_
                refine z_icmp_gt C 138 (by decide) (by omega) (by omega) dX8_best_123 (fun w9 => ?_) (fun w9 => ?_)
                · skip
                  refine z_iinc C hl 9 rfl [(6, .int (zI (x + 1))), (9, .int (zI 0)), (8, .int (zI (kUnt (kCT (co τ28)) ((kSb (co τ28) x (τ28 6 3).toNat : Nat) : Int)))), (7, .int (zI (pc x))), (0, .ref (q 0)), (1, .int (zI k)), (2, .int (zI wh)), (3, .int (zI bs)), (4, .int (zI (kCT (co τ28)))), (5, .int (zI fw))] (by decide) rfl dX8_best_138 (fun ls hl => ?_)
                  refine z_goto C 53 (by decide) dX8_best_141 ?_
                  exact ih53 bs fw (x + 1) (by omega) (by omega) (by rw [hst, if_neg (by omega)]; exact hb1) (by rw [hst, if_neg (by omega)]; exact hb2) ls (lv_sub hl [4, 5, 6, 7, 8, 9, 0] rfl)
                · skip
                  refine z_il C hl 0 rfl dX8_best_126 ?_
                  refine z_if_eq C 138 (by decide) (by omega) dX8_best_128 (fun _ => ?_) (fun w10 => False.elim (by omega))
                  refine z_iinc C hl 9 rfl [(6, .int (zI (x + 1))), (9, .int (zI 0)), (8, .int (zI (kUnt (kCT (co τ28)) ((kSb (co τ28) x (τ28 6 3).toNat : Nat) : Int)))), (7, .int (zI (pc x))), (0, .ref (q 0)), (1, .int (zI k)), (2, .int (zI wh)), (3, .int (zI bs)), (4, .int (zI (kCT (co τ28)))), (5, .int (zI fw))] (by decide) rfl dX8_best_138 (fun ls hl => ?_)
                  refine z_goto C 53 (by decide) dX8_best_141 ?_
                  exact ih53 bs fw (x + 1) (by omega) (by omega) (by rw [hst, if_neg (by omega)]; exact hb1) (by rw [hst, if_neg (by omega)]; exact hb2) ls (lv_sub hl [4, 5, 6, 7, 8, 9, 0] rfl)
              · skip
                refine z_il C hl 1 rfl dX8_best_104 ?_
                refine z_iln C hl 5 rfl dX8_best_106 ?_
                refine z_sRO C hP hl (c_J6_bitCount_0f7a4 (σ := τ28) bs (by omega))  wg_568 wg_12 wg_566 wg_567 cw_J6_bitCount_0f7a4 ⟨Nat.le_of_ble_eq_true rfl, Nat.le_of_ble_eq_true rfl⟩ rfl rfl (Nat.le_of_ble_eq_true rfl) dX8_best_107 ?_
                refine z_icmp_ge C 117 (by decide) (by omega) (by omega) dX8_best_110 (fun w11 => ?_) (fun w11 => ?_)
                · skip
                  refine z_ic C dX8_best_117 ?_
                  refine z_ist C hl [(9, .int (zI 0)), (8, .int (zI (kUnt (kCT (co τ28)) ((kSb (co τ28) x (τ28 6 3).toNat : Nat) : Int)))), (7, .int (zI (pc x))), (0, .ref (q 0)), (1, .int (zI k)), (2, .int (zI wh)), (3, .int (zI bs)), (4, .int (zI (kCT (co τ28)))), (5, .int (zI fw)), (6, .int (zI x))] (by decide) rfl dX8_best_118 (fun ls hl => ?_)
                  refine z_il C hl 2 rfl dX8_best_120 ?_
                  refine z_iln C hl 4 rfl dX8_best_122 ?_
                  refine z_icmp_gt C 138 (by decide) (by omega) (by omega) dX8_best_123 (fun w12 => ?_) (fun w12 => ?_)
                  · skip
                    refine z_iinc C hl 9 rfl [(6, .int (zI (x + 1))), (9, .int (zI 0)), (8, .int (zI (kUnt (kCT (co τ28)) ((kSb (co τ28) x (τ28 6 3).toNat : Nat) : Int)))), (7, .int (zI (pc x))), (0, .ref (q 0)), (1, .int (zI k)), (2, .int (zI wh)), (3, .int (zI bs)), (4, .int (zI (kCT (co τ28)))), (5, .int (zI fw))] (by decide) rfl dX8_best_138 (fun ls hl => ?_)
                    refine z_goto C 53 (by decide) dX8_best_141 ?_
                    exact ih53 bs fw (x + 1) (by omega) (by omega) (by rw [hst, if_neg (by omega)]; exact hb1) (by rw [hst, if_neg (by omega)]; exact hb2) ls (lv_sub hl [4, 5, 6, 7, 8, 9, 0] rfl)
                  · skip
                    refine z_il C hl 0 rfl dX8_best_126 ?_
                    refine z_if_eq C 138 (by decide) (by omega) dX8_best_128 (fun _ => ?_) (fun w13 => False.elim (by omega))
                    refine z_iinc C hl 9 rfl [(6, .int (zI (x + 1))), (9, .int (zI 0)), (8, .int (zI (kUnt (kCT (co τ28)) ((kSb (co τ28) x (τ28 6 3).toNat : Nat) : Int)))), (7, .int (zI (pc x))), (0, .ref (q 0)), (1, .int (zI k)), (2, .int (zI wh)), (3, .int (zI bs)), (4, .int (zI (kCT (co τ28)))), (5, .int (zI fw))] (by decide) rfl dX8_best_138 (fun ls hl => ?_)
                    refine z_goto C 53 (by decide) dX8_best_141 ?_
                    exact ih53 bs fw (x + 1) (by omega) (by omega) (by rw [hst, if_neg (by omega)]; exact hb1) (by rw [hst, if_neg (by omega)]; exact hb2) ls (lv_sub hl [4, 5, 6, 7, 8, 9, 0] rfl)
                · skip
                  refine z_ic C dX8_best_113 ?_
                  refine z_goto C 118 (by decide) dX8_best_114 ?_
                  refine z_ist C hl [(9, .int (zI 1)), (8, .int (zI (kUnt (kCT (co τ28)) ((kSb (co τ28) x (τ28 6 3).toNat : Nat) : Int)))), (7, .int (zI (pc x))), (0, .ref (q 0)), (1, .int (zI k)), (2, .int (zI wh)), (3, .int (zI bs)), (4, .int (zI (kCT (co τ28)))), (5, .int (zI fw)), (6, .int (zI x))] (by decide) rfl dX8_best_118 (fun ls hl => ?_)
                  refine z_il C hl 2 rfl dX8_best_120 ?_
                  refine z_iln C hl 4 rfl dX8_best_122 ?_
                  refine z_icmp_gt C 138 (by decide) (by omega) (by omega) dX8_best_123 (fun w14 => ?_) (fun w14 => ?_)
                  · skip
                    refine z_iinc C hl 9 rfl [(6, .int (zI (x + 1))), (9, .int (zI 1)), (8, .int (zI (kUnt (kCT (co τ28)) ((kSb (co τ28) x (τ28 6 3).toNat : Nat) : Int)))), (7, .int (zI (pc x))), (0, .ref (q 0)), (1, .int (zI k)), (2, .int (zI wh)), (3, .int (zI bs)), (4, .int (zI (kCT (co τ28)))), (5, .int (zI fw))] (by decide) rfl dX8_best_138 (fun ls hl => ?_)
                    refine z_goto C 53 (by decide) dX8_best_141 ?_
                    exact ih53 bs fw (x + 1) (by omega) (by omega) (by rw [hst, if_neg (by omega)]; exact hb1) (by rw [hst, if_neg (by omega)]; exact hb2) ls (lv_sub hl [4, 5, 6, 7, 8, 9, 0] rfl)
                  · skip
                    refine z_il C hl 0 rfl dX8_best_126 ?_
                    refine z_if_eq C 138 (by decide) (by omega) dX8_best_128 (fun w15 => False.elim (by omega)) (fun _ => ?_)
                    refine z_il C hl 9 rfl dX8_best_131 ?_
                    refine z_isn C hl [(3, .int (zI x)), (9, .int (zI 1)), (8, .int (zI (kUnt (kCT (co τ28)) ((kSb (co τ28) x (τ28 6 3).toNat : Nat) : Int)))), (7, .int (zI (pc x))), (0, .ref (q 0)), (1, .int (zI k)), (2, .int (zI wh)), (4, .int (zI (kCT (co τ28)))), (5, .int (zI fw)), (6, .int (zI x))] (by decide) rfl dX8_best_133 (fun ls hl => ?_)
                    refine z_il C hl 2 rfl dX8_best_134 ?_
                    refine z_ist C hl [(5, .int (zI (kUnt (kCT (co τ28)) ((kSb (co τ28) x (τ28 6 3).toNat : Nat) : Int)))), (3, .int (zI x)), (9, .int (zI 1)), (8, .int (zI (kUnt (kCT (co τ28)) ((kSb (co τ28) x (τ28 6 3).toNat : Nat) : Int)))), (7, .int (zI (pc x))), (0, .ref (q 0)), (1, .int (zI k)), (2, .int (zI wh)), (4, .int (zI (kCT (co τ28)))), (6, .int (zI x))] (by decide) rfl dX8_best_136 (fun ls hl => ?_)
                    refine z_iinc C hl 9 rfl [(6, .int (zI (x + 1))), (5, .int (zI (kUnt (kCT (co τ28)) ((kSb (co τ28) x (τ28 6 3).toNat : Nat) : Int)))), (3, .int (zI x)), (9, .int (zI 1)), (8, .int (zI (kUnt (kCT (co τ28)) ((kSb (co τ28) x (τ28 6 3).toNat : Nat) : Int)))), (7, .int (zI (pc x))), (0, .ref (q 0)), (1, .int (zI k)), (2, .int (zI wh)), (4, .int (zI (kCT (co τ28))))] (by decide) rfl dX8_best_138 (fun ls hl => ?_)
                    refine z_goto C 53 (by decide) dX8_best_141 ?_
                    exact ih53 x (kUnt (kCT (co τ28)) ((kSb (co τ28) x (τ28 6 3).toNat : Nat) : Int)) (x + 1) (by omega) (by omega) (by rw [hst, if_pos (by omega)]) (by rw [hst, if_pos (by omega)]; exact hku) ls (lv_sub hl [6, 7, 8, 2, 9, 1, 0] rfl)
      exact L53 ((2 ^ (σ 6 3).toNat - 1 : Int).toNat + 1) 0 (kUnt (kCT (co τ28)) 0) 1 (by omega) (by omega) rfl (by rw [ec]; show _ = kUnt (kCT (co σ)) ((kSb (co σ) 0 (co σ 6 3).toNat : Nat) : Int); rw [kSb_0]; rfl) ls (lv_sub hl [4, 5, 6, 3, 2, 1, 0] rfl)
    · skip
      refine z_bp C dX8_best_17 rfl ?_
      exact z_iretW B hP hS ⟨Fr_rf, by unfold kBest; rw [if_pos (by omega)]⟩ dX8_best_19
