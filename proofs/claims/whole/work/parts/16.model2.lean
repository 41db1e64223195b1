set_option maxHeartbeats 4000000 in
set_option maxRecDepth 100000 in
theorem c_X9_firstOf {l : Launch} {D : va_G} {q : Nat → Nat} {g : Nat → ClassId} {σ : Mem} (r side rows : Int) (hI : TI σ) (hA : FA σ) (hr : 0 ≤ r ∧ r ≤ 5) (hsi : 0 ≤ side ∧ side ≤ 1) (hrw : 0 ≤ rows ∧ rows ≤ 63) : RO l yX9_firstOf cX9_firstOf 6 (some .int) 1 21 D q g σ [.ref (q 44), .int (zI r), .int (zI side), .int (zI rows)] (some (.int (zI (mN (kRw (co σ) side r rows 6))))) := by
  refine RO.intro (plainFor_of_name (by decide)) (Nat.le_of_ble_eq_true rfl) (fun p e s m args below meth c ls B hP hl => ?_)
  have C := B.1
  have hl : lv_has ls 6 [(0, .ref (q 44)), (1, .int (zI r)), (2, .int (zI side)), (3, .int (zI rows))] := hl
  have hIc := TI_cc hI
  refine z_bp C dX9_firstOf_0 rfl ?_
  refine z_ist C hl [(4, .int (zI (-6))), (0, .ref (q 44)), (1, .int (zI r)), (2, .int (zI side)), (3, .int (zI rows))] (by decide) rfl dX9_firstOf_2 (fun ls hl => ?_)
  refine z_ic C dX9_firstOf_4 ?_
  refine z_ist C hl [(5, .int (zI 0)), (4, .int (zI (-6))), (0, .ref (q 44)), (1, .int (zI r)), (2, .int (zI side)), (3, .int (zI rows))] (by decide) rfl dX9_firstOf_5 (fun ls hl => ?_)
  have L7 : ∀ (n : Nat) (x : Int) (y : Int)  , 6 - y < (n : Int) → (0 ≤ y ∧ y ≤ 6) → (x = mN (kRw (co σ) side r rows y.toNat)) → ∀ ls : Array Slot, lv_has ls 6 [(0, .ref (q 44)), (1, .int (zI r)), (2, .int (zI side)), (3, .int (zI rows)), (4, .int (zI x)), (5, .int (zI y))] → WO p l e 1 21 s m args below meth c (some (.int (zI (mN (kRw (co σ) side r rows 6))))) (F0 m 7 ls []) := by
    intro n
    induction n with
    | zero => intro x y hm hy hx ls hl; exact False.elim (by omega)
    | succ n ih =>
      intro x y hm hy hx ls hl
      have ih7 := ih; clear ih
      refine z_il C hl 5 rfl dX9_firstOf_7 ?_
      refine z_bp C dX9_firstOf_9 rfl ?_
      refine z_icmp_ge C 59 (by decide) (by omega) (by omega) dX9_firstOf_11 (fun w1 => ?_) (fun w1 => ?_)
      · skip
        refine z_il C hl 4 rfl dX9_firstOf_59 ?_
        exact z_iret B (by rw [hx, show y.toNat = 6 by omega]) dX9_firstOf_61
      · skip
        have hsb := sh_b (a := rows) y.toNat (by omega)
        have hxb := kRw_b hIc (side := side) (lane := r) (rows := rows) (by omega) y.toNat (by omega)
        have hxm := mN_b hxb
        have hv := hA side.toNat y.toNat r.toNat (by omega) (by omega) (by omega)
        have hfb := kFS_b hIc (side := side) (lane := r) (row := y) (by omega) (by omega)
        rw [show ((side.toNat : Nat) : Int) = side by omega, show ((r.toNat : Nat) : Int) = r by omega, show ((y.toNat : Nat) : Int) = y by omega, show 6 * (6 * side.toNat + y.toNat) + r.toNat = (6 * (6 * side + y) + r).toNat by omega] at hv
        have hvm := mN_b hfb
        refine z_iln C hl 3 rfl dX9_firstOf_14 ?_
        refine z_il C hl 5 rfl dX9_firstOf_15 ?_
        refine z_ishr C (by omega) dX9_firstOf_17 ?_
        refine z_ic C dX9_firstOf_18 ?_
        refine z_iand1 C (by omega) dX9_firstOf_19 ?_
        refine z_ic C dX9_firstOf_20 ?_
        refine z_icmp_ne C 49 (by decide) (by omega) (by omega) dX9_firstOf_21 (fun w2 => ?_) (fun w2 => ?_)
        · skip
          refine z_il C hl 4 rfl dX9_firstOf_49 ?_
          refine z_ist C hl [(4, .int (zI x)), (0, .ref (q 44)), (1, .int (zI r)), (2, .int (zI side)), (3, .int (zI rows)), (5, .int (zI y))] (by decide) rfl dX9_firstOf_51 (fun ls hl => ?_)
          refine z_iinc C hl 5 rfl [(5, .int (zI (y + 1))), (4, .int (zI x)), (0, .ref (q 44)), (1, .int (zI r)), (2, .int (zI side)), (3, .int (zI rows))] (by decide) rfl dX9_firstOf_53 (fun ls hl => ?_)
          refine z_goto C 7 (by decide) dX9_firstOf_56 ?_
          exact ih7 x (y + 1) (by omega) (by omega) (by rw [show (y + 1).toNat = y.toNat + 1 by omega, kRw, if_neg w2, hx]) ls (lv_sub hl [2, 3, 4, 5, 1, 0] rfl)
        · skip
          refine z_il C hl 4 rfl dX9_firstOf_24 ?_
          refine z_aln C hl 0 rfl dX9_firstOf_26 ?_
          refine gf_X9_29 C hP dX9_firstOf_27 ?_
          refine z_bp C dX9_firstOf_30 rfl ?_
          refine z_bp C dX9_firstOf_32 rfl ?_
          refine z_iln C hl 2 rfl dX9_firstOf_34 ?_
          refine z_imul C dX9_firstOf_35 ?_
          refine z_il C hl 5 rfl dX9_firstOf_36 ?_
          refine z_iadd C dX9_firstOf_38 ?_
          refine z_imul C dX9_firstOf_39 ?_
          refine z_iln C hl 1 rfl dX9_firstOf_40 ?_
          refine z_iadd C dX9_firstOf_41 ?_
          refine z_iald C hP (i := 51) (by decide) (fun _ => rfl) (by omega) (by decide) dX9_firstOf_42 ?_
          refine z_sRO C hP hl (c_X9_sooner (σ := σ) x (σ 51 ((6 * ((6 * side) + y)) + r).toNat) (by omega) (by omega))  wg_736 wg_10 wg_734 wg_735 cw_X9_sooner ⟨Nat.le_of_ble_eq_true rfl, Nat.le_of_ble_eq_true rfl⟩ rfl rfl (Nat.le_of_ble_eq_true rfl) dX9_firstOf_43 ?_
          refine z_goto C 51 (by decide) dX9_firstOf_46 ?_
          refine z_ist C hl [(4, .int (zI (soo x (σ 51 ((6 * ((6 * side) + y)) + r).toNat)))), (0, .ref (q 44)), (1, .int (zI r)), (2, .int (zI side)), (3, .int (zI rows)), (5, .int (zI y))] (by decide) rfl dX9_firstOf_51 (fun ls hl => ?_)
          refine z_iinc C hl 5 rfl [(5, .int (zI (y + 1))), (4, .int (zI (soo x (σ 51 ((6 * ((6 * side) + y)) + r).toNat)))), (0, .ref (q 44)), (1, .int (zI r)), (2, .int (zI side)), (3, .int (zI rows))] (by decide) rfl dX9_firstOf_53 (fun ls hl => ?_)
          refine z_goto C 7 (by decide) dX9_firstOf_56 ?_
          exact ih7 (soo x (σ 51 ((6 * ((6 * side) + y)) + r).toNat)) (y + 1) (by omega) (by omega) (by rw [show (y + 1).toNat = y.toNat + 1 by omega, kRw, if_pos w2, show ((y.toNat : Nat) : Int) = y by omega, ← soo_mN hxb.1 hfb.1 hxb.2 hfb.2, ← hx, hv]) ls (lv_sub hl [2, 3, 4, 5, 1, 0] rfl)
  exact L7 ((6 - 0 : Int).toNat + 1) (-6) 0 (by omega) (by omega) rfl ls (lv_sub hl [2, 3, 4, 5, 1, 0] rfl)

set_option maxHeartbeats 4000000 in
set_option maxRecDepth 100000 in
theorem c_X9_joinedOf {l : Launch} {D : va_G} {q : Nat → Nat} {g : Nat → ClassId} {σ : Mem} (r : Int) (hI : TI σ) (hA : FA σ) (hr : 0 ≤ r ∧ r ≤ 5) : RO l yX9_joinedOf cX9_joinedOf 2 (some .int) 2 46 D q g σ [.ref (q 44), .int (zI r)] (some (.int (zI (mN (kJn (co σ) r))))) := by
  refine RO.intro (plainFor_of_name (by decide)) (Nat.le_of_ble_eq_true rfl) (fun p e s m args below meth c ls B hP hl => ?_)
  have C := B.1
  have hl : lv_has ls 2 [(0, .ref (q 44)), (1, .int (zI r))] := hl
  have hIc := TI_cc hI
  have e0 : kRw (co σ) 0 r 63 6 = kHr (co σ) 0 r := kRw_63 6 (Nat.le_refl 6)
  have e1 : kRw (co σ) 1 r 63 6 = kHr (co σ) 1 r := kRw_63 6 (Nat.le_refl 6)
  have hb0 := kHr_b hIc (side := 0) (lane := r) (by omega)
  have hb1 := kHr_b hIc (side := 1) (lane := r) (by omega)
  rw [← e0] at hb0
  rw [← e1] at hb1
  have hm0 := mN_b hb0
  have hm1 := mN_b hb1
  refine z_aln C hl 0 rfl dX9_joinedOf_0 ?_
  refine z_iln C hl 1 rfl dX9_joinedOf_1 ?_
  refine z_ic C dX9_joinedOf_2 ?_
  refine z_bp C dX9_joinedOf_3 rfl ?_
  refine z_vRO C hP hl (c_X9_firstOf (σ := σ) r 0 63 hI hA (by omega) (by omega) (by omega)) (z_recv C hP (i := 44) (by decide) rfl (ci := 9) rfl) wg_733 wg_10 wg_730 wg_732 ws_X9_firstOf cw_X9_firstOf ⟨Nat.le_of_ble_eq_true rfl, Nat.le_of_ble_eq_true rfl⟩ rfl rfl (Nat.le_of_ble_eq_true rfl) dX9_joinedOf_5 ?_
  refine z_aln C hl 0 rfl dX9_joinedOf_8 ?_
  refine z_iln C hl 1 rfl dX9_joinedOf_9 ?_
  refine z_ic C dX9_joinedOf_10 ?_
  refine z_bp C dX9_joinedOf_11 rfl ?_
  refine z_vRO C hP hl (c_X9_firstOf (σ := σ) r 1 63 hI hA (by omega) (by omega) (by omega)) (z_recv C hP (i := 44) (by decide) rfl (ci := 9) rfl) wg_733 wg_10 wg_730 wg_732 ws_X9_firstOf cw_X9_firstOf ⟨Nat.le_of_ble_eq_true rfl, Nat.le_of_ble_eq_true rfl⟩ rfl rfl (Nat.le_of_ble_eq_true rfl) dX9_joinedOf_13 ?_
  refine z_sRO C hP hl (c_X9_sooner (σ := σ) (mN (kRw (co σ) 0 r 63 6)) (mN (kRw (co σ) 1 r 63 6)) (by omega) (by omega))  wg_736 wg_10 wg_734 wg_735 cw_X9_sooner ⟨Nat.le_of_ble_eq_true rfl, Nat.le_of_ble_eq_true rfl⟩ rfl rfl (Nat.le_of_ble_eq_true rfl) dX9_joinedOf_16 ?_
  exact z_iret B (by rw [soo_mN hb0.1 hb1.1 hb0.2 hb1.2, e0, e1]; rfl) dX9_joinedOf_19

set_option maxHeartbeats 4000000 in
set_option maxRecDepth 100000 in
theorem c_X9_crossed {l : Launch} {D : va_G} {q : Nat → Nat} {g : Nat → ClassId} {σ : Mem} (r lean : Int) (hI : TI σ) (hR : MR σ) (hla : 0 ≤ r ∧ r < σ 1 2) (hle : -3 ≤ lean ∧ lean ≤ 3) : RO l yX9_crossed cX9_crossed 7 (some .int) 1 22 D q g σ [.ref (q 44), .int (zI r), .int (zI lean)] (some (.int (zI (mN (kCr (co σ) r.toNat lean))))) := by
  refine RO.intro (plainFor_of_name (by decide)) (Nat.le_of_ble_eq_true rfl) (fun p e s m args below meth c ls B hP hl => ?_)
  have C := B.1
  have hl : lv_has ls 7 [(0, .ref (q 44)), (1, .int (zI r)), (2, .int (zI lean))] := hl
  have h1 := hI.1
  have hIc := TI_cc hI
  have hj : r.toNat < 6 := by omega
  have hb := hI.2.2.1 r.toNat hj
  have hg := hR.2.1 r.toNat (by omega)
  refine z_bp C dX9_crossed_0 rfl ?_
  refine z_isn C hl [(3, .int (zI (-6))), (0, .ref (q 44)), (1, .int (zI r)), (2, .int (zI lean))] (by decide) rfl dX9_crossed_2 (fun ls hl => ?_)
  refine z_ic C dX9_crossed_3 ?_
  refine z_ist C hl [(4, .int (zI 0)), (3, .int (zI (-6))), (0, .ref (q 44)), (1, .int (zI r)), (2, .int (zI lean))] (by decide) rfl dX9_crossed_4 (fun ls hl => ?_)
  have L6 : ∀ (n : Nat) (x : Int) (y : Int)  , 6 - y < (n : Int) → (0 ≤ y ∧ y ≤ 6) → (x = mN (kCrF (co σ) r.toNat lean y.toNat)) → ∀ ls : Array Slot, lv_has ls 7 [(0, .ref (q 44)), (1, .int (zI r)), (2, .int (zI lean)), (3, .int (zI x)), (4, .int (zI y))] → WO p l e 1 22 s m args below meth c (some (.int (zI (mN (kCr (co σ) r.toNat lean))))) (F0 m 6 ls []) := by
    intro n
    induction n with
    | zero => intro x y hm hy hx ls hl; exact False.elim (by omega)
    | succ n ih =>
      intro x y hm hy hx ls hl
      have ih6 := ih; clear ih
      refine z_il C hl 4 rfl dX9_crossed_6 ?_
      refine z_bp C dX9_crossed_8 rfl ?_
      refine z_icmp_ge C 91 (by decide) (by omega) (by omega) dX9_crossed_10 (fun w1 => ?_) (fun w1 => ?_)
      · skip
        refine z_iln C hl 3 rfl dX9_crossed_91 ?_
        exact z_iret B (by rw [hx, show y.toNat = 6 by omega]; rfl) dX9_crossed_92
      · skip
        have hs := hR.2.2 r.toNat y.toNat 0 hj (by omega) (by omega)
        have hp := hI.2.2.2 r.toNat y.toNat hj (by omega)
        have ei : (2 * (6 * r + y) + 0).toNat = 2 * (6 * r.toNat + y.toNat) + 0 := by omega
        rw [← ei] at hs
        simp only [Nat.zero_mul, Nat.zero_add] at hs
        have hxb := kCrF_b hIc hj hle y.toNat (by omega)
        have hxm := mN_b hxb
        have hm := mul_l hle (b := y) (by omega)
        have hfo := kFO_b hIc hj (what := 0) (row := y) (place := lean * y) (by omega) (by omega)
        have efo : kFO (co σ) r.toNat 0 y (lean * y) = max 0 (-((-(lean * y - σ (38 + r.toNat) y.toNat - σ (26 + r.toNat) 2)) / σ (26 + r.toNat) 3)) := by unfold kFO; rw [co_run hj, co_to hj, show ((0 : Int) * 6 + y).toNat = y.toNat by omega]
        refine z_iln C hl 1 rfl dX9_crossed_13 ?_
        refine z_il C hl 4 rfl dX9_crossed_14 ?_
        refine z_ic C dX9_crossed_16 ?_
        refine z_sRO C hP hl (c_X9_shapeAt (σ := σ) r y 0 )  wg_697 wg_10 wg_695 wg_696 cw_X9_shapeAt ⟨Nat.le_of_ble_eq_true rfl, Nat.le_of_ble_eq_true rfl⟩ rfl rfl (Nat.le_of_ble_eq_true rfl) dX9_crossed_17 ?_
        refine z_ist C hl [(5, .int (zI (2 * (6 * r + y) + 0))), (0, .ref (q 44)), (1, .int (zI r)), (2, .int (zI lean)), (3, .int (zI x)), (4, .int (zI y))] (by decide) rfl dX9_crossed_20 (fun ls hl => ?_)
        refine z_aln C hl 1 rfl dX9_crossed_22 ?_
        refine gf_X9_16 C hP dX9_crossed_23 ?_
        refine z_il C hl 0 rfl dX9_crossed_26 ?_
        refine z_zald C hP (i := 47) (by decide) (fun _ => rfl) (by omega) (by decide) dX9_crossed_28 ?_
        refine z_if_eq C 85 (by decide) (by omega) dX9_crossed_29 (fun w2 => ?_) (fun w2 => ?_)
        · skip
          refine z_iinc C hl 5 rfl [(4, .int (zI (y + 1))), (5, .int (zI (2 * (6 * r + y) + 0))), (0, .ref (q 44)), (1, .int (zI r)), (2, .int (zI lean)), (3, .int (zI x))] (by decide) rfl dX9_crossed_85 (fun ls hl => ?_)
          refine z_goto C 6 (by decide) dX9_crossed_88 ?_
          exact ih6 x (y + 1) (by omega) (by omega) (by rw [show (y + 1).toNat = y.toNat + 1 by omega, kCrF, co_frm hj, co_to hj, if_neg (by omega), hx]) ls (lv_sub hl [2, 3, 4, 5, 0] rfl)
        · skip
          refine z_iln C hl 3 rfl dX9_crossed_32 ?_
          refine z_il C hl 5 rfl dX9_crossed_33 ?_
          refine z_imul C dX9_crossed_35 ?_
          refine z_aln C hl 1 rfl dX9_crossed_36 ?_
          refine gf_X9_23 C hP dX9_crossed_37 ?_
          refine z_il C hl 0 rfl dX9_crossed_40 ?_
          refine z_iald C hP (i := 49) (by decide) (fun _ => rfl) (by omega) (by decide) dX9_crossed_42 ?_
          refine z_isub C dX9_crossed_43 ?_
          refine z_aln C hl 1 rfl dX9_crossed_44 ?_
          refine gf_X9_7 C hP dX9_crossed_45 ?_
          refine z_iln C hl 2 rfl dX9_crossed_48 ?_
          refine z_iald C hP (i := 45) (by decide) (fun _ => rfl) (by omega) (by decide) dX9_crossed_49 ?_
          refine z_isub C dX9_crossed_50 ?_
          refine z_ist C hl [(6, .int (zI (((lean * y) - (σ 49 (2 * (6 * r + y) + 0).toNat)) - (σ 45 r.toNat)))), (5, .int (zI (2 * (6 * r + y) + 0))), (0, .ref (q 44)), (1, .int (zI r)), (2, .int (zI lean)), (3, .int (zI x)), (4, .int (zI y))] (by decide) rfl dX9_crossed_51 (fun ls hl => ?_)
          refine z_iln C hl 5 rfl dX9_crossed_53 ?_
          refine z_il C hl 0 rfl dX9_crossed_54 ?_
          refine z_if_gt C 63 (by decide) (by omega) dX9_crossed_56 (fun w3 => ?_) (fun w3 => ?_)
          · skip
            have hdv := div_b (a := -(lean * y - σ (38 + r.toNat) y.toNat - σ (26 + r.toNat) 2)) (v := σ (26 + r.toNat) 3) (by omega) (by omega)
            have hval : mN (kFO (co σ) r.toNat 0 y (lean * y)) = ((((lean * y) - (σ 49 ((2 * (6 * r + y)) + 0).toNat)) - (σ 45 r.toNat)) + (σ 46 r.toNat) - 1).tdiv (σ 46 r.toNat) := by rw [hg.1, hg.2.1, show σ 49 ((2 * (6 * r + y)) + 0).toNat = σ (38 + r.toNat) y.toNat by omega, ← ceil_p (by omega) (by omega), ← efo]; unfold mN; rw [if_neg (by omega)]
            have hvb : ((((lean * y) - (σ 49 ((2 * (6 * r + y)) + 0).toNat)) - (σ 45 r.toNat)) + (σ 46 r.toNat) - 1).tdiv (σ 46 r.toNat) ≤ 100000 ∧ -6 ≤ ((((lean * y) - (σ 49 ((2 * (6 * r + y)) + 0).toNat)) - (σ 45 r.toNat)) + (σ 46 r.toNat) - 1).tdiv (σ 46 r.toNat) := by rw [← hval]; unfold mN; split <;> omega
            refine z_il C hl 0 rfl dX9_crossed_63 ?_
            refine z_aln C hl 2 rfl dX9_crossed_65 ?_
            refine gf_X9_13 C hP dX9_crossed_66 ?_
            refine z_iln C hl 3 rfl dX9_crossed_69 ?_
            refine z_iald C hP (i := 46) (by decide) (fun _ => rfl) (by omega) (by decide) dX9_crossed_70 ?_
            refine z_iadd C dX9_crossed_71 ?_
            refine z_ic C dX9_crossed_72 ?_
            refine z_isub C dX9_crossed_73 ?_
            refine z_aln C hl 2 rfl dX9_crossed_74 ?_
            refine gf_X9_13 C hP dX9_crossed_75 ?_
            refine z_iln C hl 3 rfl dX9_crossed_78 ?_
            refine z_iald C hP (i := 46) (by decide) (fun _ => rfl) (by omega) (by decide) dX9_crossed_79 ?_
            refine z_idiv C (by omega) (by omega) (by omega) dX9_crossed_80 ?_
            refine z_sRO C hP hl (c_X9_sooner (σ := σ) x ((((((lean * y) - (σ 49 (2 * (6 * r + y) + 0).toNat)) - (σ 45 r.toNat)) + (σ 46 r.toNat)) - 1).tdiv (σ 46 r.toNat)) (by omega) (by omega))  wg_736 wg_10 wg_734 wg_735 cw_X9_sooner ⟨Nat.le_of_ble_eq_true rfl, Nat.le_of_ble_eq_true rfl⟩ rfl rfl (Nat.le_of_ble_eq_true rfl) dX9_crossed_81 ?_
            refine z_isn C hl [(3, .int (zI (soo x ((((((lean * y) - (σ 49 (2 * (6 * r + y) + 0).toNat)) - (σ 45 r.toNat)) + (σ 46 r.toNat)) - 1).tdiv (σ 46 r.toNat))))), (6, .int (zI (((lean * y) - (σ 49 (2 * (6 * r + y) + 0).toNat)) - (σ 45 r.toNat)))), (5, .int (zI (2 * (6 * r + y) + 0))), (0, .ref (q 44)), (1, .int (zI r)), (2, .int (zI lean)), (4, .int (zI y))] (by decide) rfl dX9_crossed_84 (fun ls hl => ?_)
            refine z_iinc C hl 6 rfl [(4, .int (zI (y + 1))), (3, .int (zI (soo x ((((((lean * y) - (σ 49 (2 * (6 * r + y) + 0).toNat)) - (σ 45 r.toNat)) + (σ 46 r.toNat)) - 1).tdiv (σ 46 r.toNat))))), (6, .int (zI (((lean * y) - (σ 49 (2 * (6 * r + y) + 0).toNat)) - (σ 45 r.toNat)))), (5, .int (zI (2 * (6 * r + y) + 0))), (0, .ref (q 44)), (1, .int (zI r)), (2, .int (zI lean))] (by decide) rfl dX9_crossed_85 (fun ls hl => ?_)
            refine z_goto C 6 (by decide) dX9_crossed_88 ?_
            exact ih6 (soo x ((((((lean * y) - (σ 49 (2 * (6 * r + y) + 0).toNat)) - (σ 45 r.toNat)) + (σ 46 r.toNat)) - 1).tdiv (σ 46 r.toNat))) (y + 1) (by omega) (by omega) (by rw [show (y + 1).toNat = y.toNat + 1 by omega, kCrF, co_frm hj, co_to hj, if_pos (by omega), show ((y.toNat : Nat) : Int) = y by omega, ← soo_mN hxb.1 hfo.1 hxb.2 (by omega), ← hx, hval]) ls (lv_sub hl [4, 5, 6, 1, 0] rfl)
          · skip
            have hval : mN (kFO (co σ) r.toNat 0 y (lean * y)) = 0 := by rw [efo, ceil_0 (by omega) (by omega)]; rfl
            refine z_ic C dX9_crossed_59 ?_
            refine z_goto C 81 (by decide) dX9_crossed_60 ?_
            refine z_sRO C hP hl (c_X9_sooner (σ := σ) x 0 (by omega) (by omega))  wg_736 wg_10 wg_734 wg_735 cw_X9_sooner ⟨Nat.le_of_ble_eq_true rfl, Nat.le_of_ble_eq_true rfl⟩ rfl rfl (Nat.le_of_ble_eq_true rfl) dX9_crossed_81 ?_
            refine z_isn C hl [(3, .int (zI (soo x 0))), (6, .int (zI (((lean * y) - (σ 49 (2 * (6 * r + y) + 0).toNat)) - (σ 45 r.toNat)))), (5, .int (zI (2 * (6 * r + y) + 0))), (0, .ref (q 44)), (1, .int (zI r)), (2, .int (zI lean)), (4, .int (zI y))] (by decide) rfl dX9_crossed_84 (fun ls hl => ?_)
            refine z_iinc C hl 6 rfl [(4, .int (zI (y + 1))), (3, .int (zI (soo x 0))), (6, .int (zI (((lean * y) - (σ 49 (2 * (6 * r + y) + 0).toNat)) - (σ 45 r.toNat)))), (5, .int (zI (2 * (6 * r + y) + 0))), (0, .ref (q 44)), (1, .int (zI r)), (2, .int (zI lean))] (by decide) rfl dX9_crossed_85 (fun ls hl => ?_)
            refine z_goto C 6 (by decide) dX9_crossed_88 ?_
            exact ih6 (soo x 0) (y + 1) (by omega) (by omega) (by rw [show (y + 1).toNat = y.toNat + 1 by omega, kCrF, co_frm hj, co_to hj, if_pos (by omega), show ((y.toNat : Nat) : Int) = y by omega, ← soo_mN hxb.1 hfo.1 hxb.2 (by omega), ← hx, hval]) ls (lv_sub hl [4, 5, 6, 1, 0] rfl)
  exact L6 ((6 - 0 : Int).toNat + 1) (-6) 0 (by omega) (by omega) rfl ls (lv_sub hl [2, 3, 4, 1, 0] rfl)

set_option maxHeartbeats 4000000 in
set_option maxRecDepth 100000 in
theorem c_X9_hasTorso {l : Launch} {D : va_G} {q : Nat → Nat} {g : Nat → ClassId} {σ : Mem} (r : Int) (hI : TI σ) (hR : MR σ) (hla : 0 ≤ r ∧ r < σ 1 2) : RO l yX9_hasTorso cX9_hasTorso 2 (some .boolean) 2 48 D q g σ [.ref (q 44), .int (zI r)] (some (.int (zI (bz (kHas (co σ) r.toNat = true))))) := by
  refine RO.intro (plainFor_of_name (by decide)) (Nat.le_of_ble_eq_true rfl) (fun p e s m args below meth c ls B hP hl => ?_)
  have C := B.1
  have hl : lv_has ls 2 [(0, .ref (q 44)), (1, .int (zI r))] := hl
  have h1 := hI.1
  have hIc := TI_cc hI
  have hj : r.toNat < 6 := by omega
  have hb := kCr_b hIc hj (lean := 0) (by omega)
  have hm := mN_b hb
  have hh := kCr_has hIc hj (lean := 0) (by omega)
  have hn := mN_neg hb.1
  refine z_aln C hl 0 rfl dX9_hasTorso_0 ?_
  refine z_iln C hl 1 rfl dX9_hasTorso_1 ?_
  refine z_ic C dX9_hasTorso_2 ?_
  refine z_vRO C hP hl (c_X9_crossed (σ := σ) r 0 hI hR (by omega) (by omega)) (z_recv C hP (i := 44) (by decide) rfl (ci := 9) rfl) wg_744 wg_10 wg_741 wg_743 ws_X9_crossed cw_X9_crossed ⟨Nat.le_of_ble_eq_true rfl, Nat.le_of_ble_eq_true rfl⟩ rfl rfl (Nat.le_of_ble_eq_true rfl) dX9_hasTorso_3 ?_
  refine z_if_lt C 13 (by decide) (by omega) dX9_hasTorso_6 (fun w1 => ?_) (fun w1 => ?_)
  · skip
    refine z_ic C dX9_hasTorso_13 ?_
    exact z_bret0 B (by rw [← hh]; omega) dX9_hasTorso_14
  · skip
    refine z_ic C dX9_hasTorso_9 ?_
    refine z_goto C 14 (by decide) dX9_hasTorso_10 ?_
    exact z_bret1 B (by rw [← hh]; omega) dX9_hasTorso_14

set_option maxHeartbeats 4000000 in
set_option maxRecDepth 100000 in
theorem c_X9_isHidden {l : Launch} {D : va_G} {q : Nat → Nat} {g : Nat → ClassId} {σ : Mem} (r : Int) (hI : TI σ) (hR : MR σ) (hla : 0 ≤ r ∧ r < σ 1 2) (hA : FA σ) : RO l yX9_isHidden cX9_isHidden 3 (some .boolean) 3 69 D q g σ [.ref (q 44), .int (zI r)] (some (.int (zI (bz (kHid (co σ) r = true))))) := by
  refine RO.intro (plainFor_of_name (by decide)) (Nat.le_of_ble_eq_true rfl) (fun p e s m args below meth c ls B hP hl => ?_)
  have C := B.1
  have hl : lv_has ls 3 [(0, .ref (q 44)), (1, .int (zI r))] := hl
  have h1 := hI.1
  have hh := hR.1
  have h80 := hI.2.1
  have hIc := TI_cc hI
  have hj : r.toNat < 6 := by omega
  have hb := kJn_b hIc (lane := r) (by omega)
  have hc := kLn_b hIc (lane := r) (by omega)
  have hm := mN_b hb
  have hm2 := mN_b hc
  have ht := kCr_has hIc hj (lean := σ 8 0) (by omega)
  have el : kCr (co σ) r.toNat (σ 44 7) = kLn (co σ) r := by rw [hh.2.1]; rfl
  have el2 : kCr (co σ) r.toNat (σ 8 0) = kLn (co σ) r := rfl
  rw [el2] at ht
  have eml : mN (kCr (co σ) r.toNat (σ 44 7)) = mN (kLn (co σ) r) := by rw [el]
  have hcj := mN_c (kJn (co σ) r)
  have hcl := mN_c (kLn (co σ) r)
  refine z_aln C hl 0 rfl dX9_isHidden_0 ?_
  refine z_iln C hl 1 rfl dX9_isHidden_1 ?_
  refine z_vRO C hP hl (c_X9_joinedOf (σ := σ) r hI hA (by omega)) (z_recv C hP (i := 44) (by decide) rfl (ci := 9) rfl) wg_740 wg_10 wg_737 wg_739 ws_X9_joinedOf cw_X9_joinedOf ⟨Nat.le_of_ble_eq_true rfl, Nat.le_of_ble_eq_true rfl⟩ rfl rfl (Nat.le_of_ble_eq_true rfl) dX9_isHidden_2 ?_
  refine z_isn C hl [(2, .int (zI (mN (kJn (co σ) r)))), (0, .ref (q 44)), (1, .int (zI r))] (by decide) rfl dX9_isHidden_5 (fun ls hl => ?_)
  refine z_aln C hl 1 rfl dX9_isHidden_6 ?_
  refine z_iln C hl 2 rfl dX9_isHidden_7 ?_
  refine z_vRO C hP hl (c_X9_hasTorso (σ := σ) r hI hR (by omega)) (z_recv C hP (i := 44) (by decide) rfl (ci := 9) rfl) wg_752 wg_10 wg_749 wg_751 ws_X9_hasTorso cw_X9_hasTorso ⟨Nat.le_of_ble_eq_true rfl, Nat.le_of_ble_eq_true rfl⟩ rfl rfl (Nat.le_of_ble_eq_true rfl) dX9_isHidden_8 ?_
  refine z_bif_eq C 35 (by decide) dX9_isHidden_11 (fun w1 => ?_) (fun w1 => ?_)
  · skip
    refine z_ic C dX9_isHidden_35 ?_
    exact z_bret0 B (by unfold kHid; cases hk : kHas (co σ) r.toNat <;> simp [hk] at ht w1 ⊢ <;> omega) dX9_isHidden_36
  · skip
    refine z_iln C hl 0 rfl dX9_isHidden_14 ?_
    refine z_if_lt C 31 (by decide) (by omega) dX9_isHidden_15 (fun w2 => ?_) (fun w2 => ?_)
    · skip
      refine z_ic C dX9_isHidden_31 ?_
      refine z_goto C 36 (by decide) dX9_isHidden_32 ?_
      exact z_bret1 B (by unfold kHid; cases hk : kHas (co σ) r.toNat <;> simp [hk] at ht w1 w2 ⊢ <;> omega) dX9_isHidden_36
    · skip
      refine z_iln C hl 0 rfl dX9_isHidden_18 ?_
      refine z_aln C hl 1 rfl dX9_isHidden_19 ?_
      refine z_iln C hl 2 rfl dX9_isHidden_20 ?_
      refine z_aln C hl 1 rfl dX9_isHidden_21 ?_
      refine gf_X9_94 C hP dX9_isHidden_22 ?_
      refine z_vRO C hP hl (c_X9_crossed (σ := σ) r (σ 44 7) hI hR (by omega) (by omega)) (z_recv C hP (i := 44) (by decide) rfl (ci := 9) rfl) wg_744 wg_10 wg_741 wg_743 ws_X9_crossed cw_X9_crossed ⟨Nat.le_of_ble_eq_true rfl, Nat.le_of_ble_eq_true rfl⟩ rfl rfl (Nat.le_of_ble_eq_true rfl) dX9_isHidden_25 ?_
      refine z_icmp_le C 35 (by decide) (by omega) (by omega) dX9_isHidden_28 (fun w3 => ?_) (fun w3 => ?_)
      · skip
        refine z_ic C dX9_isHidden_35 ?_
        exact z_bret0 B (by unfold kHid; cases hk : kHas (co σ) r.toNat <;> simp [hk] at ht w1 w2 w3 ⊢ <;> omega) dX9_isHidden_36
      · skip
        refine z_ic C dX9_isHidden_31 ?_
        refine z_goto C 36 (by decide) dX9_isHidden_32 ?_
        exact z_bret1 B (by unfold kHid; cases hk : kHas (co σ) r.toNat <;> simp [hk] at ht w1 w2 w3 ⊢ <;> omega) dX9_isHidden_36

set_option maxHeartbeats 4000000 in
set_option maxRecDepth 100000 in
theorem c_X9_hearsOf {l : Launch} {D : va_G} {q : Nat → Nat} {g : Nat → ClassId} {σ : Mem} (r : Int) (hI : TI σ) (hR : MR σ) (hla : 0 ≤ r ∧ r < σ 1 2) : RO l yX9_hearsOf cX9_hearsOf 3 (some .int) 0 0 D q g σ [.ref (q 44), .int (zI r)] (some (.int (zI (kHe (co σ) r)))) := by
  refine RO.intro (plainFor_of_name (by decide)) (Nat.le_of_ble_eq_true rfl) (fun p e s m args below meth c ls B hP hl => ?_)
  have C := B.1
  have hl : lv_has ls 3 [(0, .ref (q 44)), (1, .int (zI r))] := hl
  have h1 := hI.1
  have h2 := hI.2.1
  have hh := hR.1
  have e12 : co σ 1 2 = σ 1 2 := rfl
  have e83 : co σ 8 3 = σ 8 3 := rfl
  refine z_aln C hl 0 rfl dX9_hearsOf_0 ?_
  refine gf_X9_66 C hP dX9_hearsOf_1 ?_
  refine z_ic C dX9_hearsOf_4 ?_
  refine z_isub C dX9_hearsOf_5 ?_
  refine z_iln C hl 1 rfl dX9_hearsOf_6 ?_
  refine z_isub C dX9_hearsOf_7 ?_
  refine z_isn C hl [(2, .int (zI (((σ 44 6) - 1) - r))), (0, .ref (q 44)), (1, .int (zI r))] (by decide) rfl dX9_hearsOf_8 (fun ls hl => ?_)
  refine z_ic C dX9_hearsOf_9 ?_
  refine z_aln C hl 1 rfl dX9_hearsOf_10 ?_
  refine gf_X9_100 C hP dX9_hearsOf_11 ?_
  refine z_ic C dX9_hearsOf_14 ?_
  refine z_icmp_ne C 27 (by decide) (by omega) (by omega) dX9_hearsOf_15 (fun w1 => ?_) (fun w1 => ?_)
  · skip
    refine z_iln C hl 2 rfl dX9_hearsOf_27 ?_
    refine z_imul C dX9_hearsOf_28 ?_
    exact z_iret B (by unfold kHe; split <;> omega) dX9_hearsOf_29
  · skip
    refine z_iln C hl 0 rfl dX9_hearsOf_18 ?_
    refine z_iln C hl 2 rfl dX9_hearsOf_19 ?_
    refine z_icmp_ge C 27 (by decide) (by omega) (by omega) dX9_hearsOf_20 (fun w2 => ?_) (fun w2 => ?_)
    · skip
      refine z_iln C hl 2 rfl dX9_hearsOf_27 ?_
      refine z_imul C dX9_hearsOf_28 ?_
      exact z_iret B (by unfold kHe; split <;> omega) dX9_hearsOf_29
    · skip
      refine z_iln C hl 0 rfl dX9_hearsOf_23 ?_
      refine z_goto C 28 (by decide) dX9_hearsOf_24 ?_
      refine z_imul C dX9_hearsOf_28 ?_
      exact z_iret B (by unfold kHe; split <;> omega) dX9_hearsOf_29

set_option maxHeartbeats 4000000 in
set_option maxRecDepth 100000 in
theorem c_X9_sign {l : Launch} {D : va_G} {q : Nat → Nat} {g : Nat → ClassId} {σ : Mem} (v : Int) (hr_v : zR v) : RO l yX9_sign cX9_sign 1 (some .int) 0 0 D q g σ [.int (zI v)] (some (.int (zI (sgn v)))) := by
  refine RO.intro (plainFor_of_name (by decide)) (Nat.le_of_ble_eq_true rfl) (fun p e s m args below meth c ls B hP hl => ?_)
  have C := B.1
  have hl : lv_has ls 1 [(0, .int (zI v))] := hl
  refine z_iln C hl 0 rfl dX9_sign_0 ?_
  refine z_if_le C 8 (by decide) (by omega) dX9_sign_1 (fun w1 => ?_) (fun w1 => ?_)
  · skip
    refine z_iln C hl 0 rfl dX9_sign_8 ?_
    refine z_if_ge C 16 (by decide) (by omega) dX9_sign_9 (fun w2 => ?_) (fun w2 => ?_)
    · skip
      refine z_ic C dX9_sign_16 ?_
      exact z_iret B (by unfold sgn; split <;> (try split) <;> omega) dX9_sign_17
    · skip
      refine z_ic C dX9_sign_12 ?_
      refine z_goto C 17 (by decide) dX9_sign_13 ?_
      exact z_iret B (by unfold sgn; split <;> (try split) <;> omega) dX9_sign_17
  · skip
    refine z_ic C dX9_sign_4 ?_
    refine z_goto C 17 (by decide) dX9_sign_5 ?_
    exact z_iret B (by unfold sgn; split <;> (try split) <;> omega) dX9_sign_17

set_option maxHeartbeats 4000000 in
set_option maxRecDepth 100000 in
theorem c_X9_timeOf {l : Launch} {D : va_G} {q : Nat → Nat} {g : Nat → ClassId} {σ : Mem} (r md : Int) (hI : TI σ) (hR : MR σ) (hla : 0 ≤ r ∧ r < σ 1 2) (hA : FA σ) (hr_md : zR md) : RO l yX9_timeOf cX9_timeOf 3 (some .int) 3 67 D q g σ [.ref (q 44), .int (zI r), .int (zI md)] (some (.int (zI (mN (kJn (co σ) r) - (if md = 0 then 0 else kHe (co σ) r))))) := by
  refine RO.intro (plainFor_of_name (by decide)) (Nat.le_of_ble_eq_true rfl) (fun p e s m args below meth c ls B hP hl => ?_)
  have C := B.1
  have hl : lv_has ls 3 [(0, .ref (q 44)), (1, .int (zI r)), (2, .int (zI md))] := hl
  have h1 := hI.1
  have hIc := TI_cc hI
  refine z_aln C hl 0 rfl dX9_timeOf_0 ?_
  refine z_iln C hl 1 rfl dX9_timeOf_1 ?_
  refine z_vRO C hP hl (c_X9_joinedOf (σ := σ) r hI hA (by omega)) (z_recv C hP (i := 44) (by decide) rfl (ci := 9) rfl) wg_740 wg_10 wg_737 wg_739 ws_X9_joinedOf cw_X9_joinedOf ⟨Nat.le_of_ble_eq_true rfl, Nat.le_of_ble_eq_true rfl⟩ rfl rfl (Nat.le_of_ble_eq_true rfl) dX9_timeOf_2 ?_
  refine z_iln C hl 2 rfl dX9_timeOf_5 ?_
  refine z_if_eq C 17 (by decide) (by omega) dX9_timeOf_6 (fun w1 => ?_) (fun w1 => ?_)
  · skip
    refine z_ic C dX9_timeOf_17 ?_
    refine z_isub C dX9_timeOf_18 ?_
    exact z_iret B (by split <;> omega) dX9_timeOf_19
  · skip
    refine z_aln C hl 0 rfl dX9_timeOf_9 ?_
    refine z_iln C hl 1 rfl dX9_timeOf_10 ?_
    refine z_vRO C hP hl (c_X9_hearsOf (σ := σ) r hI hR (by omega)) (z_recv C hP (i := 44) (by decide) rfl (ci := 9) rfl) wg_756 wg_10 wg_753 wg_755 ws_X9_hearsOf cw_X9_hearsOf ⟨Nat.le_of_ble_eq_true rfl, Nat.le_of_ble_eq_true rfl⟩ rfl rfl (Nat.le_of_ble_eq_true rfl) dX9_timeOf_11 ?_
    refine z_goto C 18 (by decide) dX9_timeOf_14 ?_
    refine z_isub C dX9_timeOf_18 ?_
    exact z_iret B (by split <;> omega) dX9_timeOf_19
