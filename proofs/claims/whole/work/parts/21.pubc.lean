set_option maxHeartbeats 4000000 in
set_option maxRecDepth 100000 in
theorem c_X8_of {l : Launch} {D : va_G} {q : Nat → Nat} {g : Nat → ClassId} {σ : Mem} (r what : Int) (hI : TI σ) (hr_r : zR r) (hr_what : zR what) : RO l yX8_of cX8_of 3 (some .int) 7 158 D q g σ [.ref (q 0), .int (zI r), .int (zI what)] (some (.int (zI (if ¬ (0 ≤ r ∧ r < σ 1 2) then -1 else kOf (co σ) r what)))) := by
  refine RO.intro (plainFor_of_name (by decide)) (Nat.le_of_ble_eq_true rfl) (fun p e s m args below meth c ls B hP hl => ?_)
  have C := B.1
  have hl : lv_has ls 3 [(0, .ref (q 0)), (1, .int (zI r)), (2, .int (zI what))] := hl
  have h1 := hI.1
  have hIc := TI_cc hI
  have h80 := hI.2.1
  refine z_aln C hl 0 rfl dX8_of_0 ?_
  refine gf_X8_10 C hP dX8_of_1 ?_
  refine z_iln C hl 1 rfl dX8_of_4 ?_
  refine z_vRO C hP hl (c_X7_has (σ := σ) r hI (by omega)) (z_recv C hP (i := 1) (by decide) rfl (ci := 7) rfl) wg_224 wg_2 wg_221 wg_222 wg_223 cw_X7_has ⟨Nat.le_of_ble_eq_true rfl, Nat.le_of_ble_eq_true rfl⟩ rfl rfl (Nat.le_of_ble_eq_true rfl) dX8_of_5 ?_
  refine z_bif_ne C 13 (by decide) dX8_of_8 (fun w1 => ?_) (fun w1 => ?_)
  · skip
    have hj := kJn_b hIc (lane := r) (by omega)
    have hl2 := kLn_b hIc (lane := r) (by omega)
    have hc0 := kCr_b hIc (j := r.toNat) (by omega) (lean := 0) (by omega)
    have hh0 := kHr_b hIc (side := what) (lane := r) (by omega)
    refine z_iln C hl 2 rfl dX8_of_13 ?_
    by_cases hc2 : what = 0
    · refine z_tsI C 0 (by omega) (by omega) rfl 60 (by decide) dX8_of_14 ?_
      refine z_aln C hl 0 rfl dX8_of_60 ?_
      refine gf_X8_10 C hP dX8_of_61 ?_
      refine z_iln C hl 2 rfl dX8_of_64 ?_
      refine z_iln C hl 1 rfl dX8_of_65 ?_
      refine z_vRO C hP hl (c_X7_hair (σ := σ) what r hI (by omega) (by omega)) (z_recv C hP (i := 1) (by decide) rfl (ci := 7) rfl) wg_270 wg_2 wg_267 wg_268 wg_269 cw_X7_hair ⟨Nat.le_of_ble_eq_true rfl, Nat.le_of_ble_eq_true rfl⟩ rfl rfl (Nat.le_of_ble_eq_true rfl) dX8_of_66 ?_
      refine z_sRO C hP hl (c_X8_orNone (σ := σ) (kHr (co σ) what r) (by omega))  wg_303 wg_1 wg_301 wg_302 cw_X8_orNone ⟨Nat.le_of_ble_eq_true rfl, Nat.le_of_ble_eq_true rfl⟩ rfl rfl (Nat.le_of_ble_eq_true rfl) dX8_of_69 ?_
      exact z_iret B (by rw [if_neg (by omega)]; unfold kOf; rw [if_pos (by omega)]; rw [show what = 0 by omega]) dX8_of_72
    by_cases hc3 : what = 1
    · refine z_tsI C 1 (by omega) (by omega) rfl 60 (by decide) dX8_of_14 ?_
      refine z_aln C hl 0 rfl dX8_of_60 ?_
      refine gf_X8_10 C hP dX8_of_61 ?_
      refine z_iln C hl 2 rfl dX8_of_64 ?_
      refine z_iln C hl 1 rfl dX8_of_65 ?_
      refine z_vRO C hP hl (c_X7_hair (σ := σ) what r hI (by omega) (by omega)) (z_recv C hP (i := 1) (by decide) rfl (ci := 7) rfl) wg_270 wg_2 wg_267 wg_268 wg_269 cw_X7_hair ⟨Nat.le_of_ble_eq_true rfl, Nat.le_of_ble_eq_true rfl⟩ rfl rfl (Nat.le_of_ble_eq_true rfl) dX8_of_66 ?_
      refine z_sRO C hP hl (c_X8_orNone (σ := σ) (kHr (co σ) what r) (by omega))  wg_303 wg_1 wg_301 wg_302 cw_X8_orNone ⟨Nat.le_of_ble_eq_true rfl, Nat.le_of_ble_eq_true rfl⟩ rfl rfl (Nat.le_of_ble_eq_true rfl) dX8_of_69 ?_
      exact z_iret B (by rw [if_neg (by omega)]; unfold kOf; rw [if_neg (by omega), if_pos (by omega)]; rw [show what = 1 by omega]) dX8_of_72
    by_cases hc4 : what = 2
    · refine z_tsI C 2 (by omega) (by omega) rfl 73 (by decide) dX8_of_14 ?_
      refine z_aln C hl 0 rfl dX8_of_73 ?_
      refine gf_X8_10 C hP dX8_of_74 ?_
      refine z_iln C hl 1 rfl dX8_of_77 ?_
      refine z_vRO C hP hl (c_X7_joined (σ := σ) r hI (by omega)) (z_recv C hP (i := 1) (by decide) rfl (ci := 7) rfl) wg_308 wg_2 wg_305 wg_306 wg_307 cw_X7_joined ⟨Nat.le_of_ble_eq_true rfl, Nat.le_of_ble_eq_true rfl⟩ rfl rfl (Nat.le_of_ble_eq_true rfl) dX8_of_78 ?_
      refine z_sRO C hP hl (c_X8_orNone (σ := σ) (kJn (co σ) r) (by omega))  wg_303 wg_1 wg_301 wg_302 cw_X8_orNone ⟨Nat.le_of_ble_eq_true rfl, Nat.le_of_ble_eq_true rfl⟩ rfl rfl (Nat.le_of_ble_eq_true rfl) dX8_of_81 ?_
      exact z_iret B (by rw [if_neg (by omega)]; unfold kOf; rw [if_neg (by omega), if_neg (by omega), if_pos (by omega)]) dX8_of_84
    by_cases hc5 : what = 3
    · refine z_tsI C 3 (by omega) (by omega) rfl 85 (by decide) dX8_of_14 ?_
      refine z_aln C hl 0 rfl dX8_of_85 ?_
      refine gf_X8_10 C hP dX8_of_86 ?_
      refine gf_X8_66 C hP dX8_of_89 ?_
      refine z_iln C hl 1 rfl dX8_of_92 ?_
      refine z_aald C hP (i := 7) (t := 2) (b := 26) (by decide) rfl (fun _ => rfl) (by omega) (by decide) dX8_of_93 ?_
      refine z_ic C dX8_of_94 ?_
      refine z_vRO C hP hl (c_X4_crossing (σ := σ) (j := (r.toNat)) 0 (by omega) hI (by omega)) (z_recv C hP (i := (26 + r.toNat)) (by omega) (cE_run (j := r.toNat) (by omega) _) (ci := 4) rfl) wg_313 wg_3 wg_310 wg_311 wg_312 cw_X4_crossing ⟨Nat.le_of_ble_eq_true rfl, Nat.le_of_ble_eq_true rfl⟩ rfl rfl (Nat.le_of_ble_eq_true rfl) dX8_of_95 ?_
      refine z_sRO C hP hl (c_X8_orNone (σ := σ) (kCr (co σ) (r.toNat) 0) (by omega))  wg_303 wg_1 wg_301 wg_302 cw_X8_orNone ⟨Nat.le_of_ble_eq_true rfl, Nat.le_of_ble_eq_true rfl⟩ rfl rfl (Nat.le_of_ble_eq_true rfl) dX8_of_98 ?_
      exact z_iret B (by rw [if_neg (by omega)]; unfold kOf; rw [if_neg (by omega), if_neg (by omega), if_neg (by omega), if_pos (by omega)]) dX8_of_101
    by_cases hc6 : what = 4
    · refine z_tsI C 4 (by omega) (by omega) rfl 102 (by decide) dX8_of_14 ?_
      refine z_aln C hl 0 rfl dX8_of_102 ?_
      refine gf_X8_10 C hP dX8_of_103 ?_
      refine z_iln C hl 1 rfl dX8_of_106 ?_
      refine z_vRO C hP hl (c_X7_leaned (σ := σ) r hI (by omega)) (z_recv C hP (i := 1) (by decide) rfl (ci := 7) rfl) wg_319 wg_2 wg_316 wg_317 wg_318 cw_X7_leaned ⟨Nat.le_of_ble_eq_true rfl, Nat.le_of_ble_eq_true rfl⟩ rfl rfl (Nat.le_of_ble_eq_true rfl) dX8_of_107 ?_
      refine z_sRO C hP hl (c_X8_orNone (σ := σ) (kLn (co σ) r) (by omega))  wg_303 wg_1 wg_301 wg_302 cw_X8_orNone ⟨Nat.le_of_ble_eq_true rfl, Nat.le_of_ble_eq_true rfl⟩ rfl rfl (Nat.le_of_ble_eq_true rfl) dX8_of_110 ?_
      exact z_iret B (by rw [if_neg (by omega)]; unfold kOf; rw [if_neg (by omega), if_neg (by omega), if_neg (by omega), if_neg (by omega), if_pos (by omega)]) dX8_of_113
    by_cases hc7 : what = 5
    · refine z_tsI C 5 (by omega) (by omega) rfl 114 (by decide) dX8_of_14 ?_
      refine z_aln C hl 0 rfl dX8_of_114 ?_
      refine gf_X8_10 C hP dX8_of_115 ?_
      refine z_iln C hl 1 rfl dX8_of_118 ?_
      refine z_vRO C hP hl (c_X7_isHidden (σ := σ) r hI (by omega)) (z_recv C hP (i := 1) (by decide) rfl (ci := 7) rfl) wg_324 wg_2 wg_321 wg_322 wg_323 cw_X7_isHidden ⟨Nat.le_of_ble_eq_true rfl, Nat.le_of_ble_eq_true rfl⟩ rfl rfl (Nat.le_of_ble_eq_true rfl) dX8_of_119 ?_
      refine z_bif_eq C 129 (by decide) dX8_of_122 (fun w8 => ?_) (fun w8 => ?_)
      · skip
        refine z_ic C dX8_of_129 ?_
        exact z_iret B (by rw [if_neg (by omega)]; unfold kOf; rw [if_neg (by omega), if_neg (by omega), if_neg (by omega), if_neg (by omega), if_neg (by omega), if_pos (by omega)]; rw [if_neg w8]) dX8_of_130
      · skip
        refine z_ic C dX8_of_125 ?_
        refine z_goto C 130 (by decide) dX8_of_126 ?_
        exact z_iret B (by rw [if_neg (by omega)]; unfold kOf; rw [if_neg (by omega), if_neg (by omega), if_neg (by omega), if_neg (by omega), if_neg (by omega), if_pos (by omega)]; rw [if_pos w8]) dX8_of_130
    by_cases hc9 : what = 6
    · refine z_tsI C 6 (by omega) (by omega) rfl 131 (by decide) dX8_of_14 ?_
      refine z_aln C hl 0 rfl dX8_of_131 ?_
      refine gf_X8_10 C hP dX8_of_132 ?_
      refine z_iln C hl 1 rfl dX8_of_135 ?_
      refine z_vRO C hP hl (c_X7_hears (σ := σ) r hI (by omega)) (z_recv C hP (i := 1) (by decide) rfl (ci := 7) rfl) wg_334 wg_2 wg_331 wg_332 wg_333 cw_X7_hears ⟨Nat.le_of_ble_eq_true rfl, Nat.le_of_ble_eq_true rfl⟩ rfl rfl (Nat.le_of_ble_eq_true rfl) dX8_of_136 ?_
      exact z_iret B (by rw [if_neg (by omega)]; unfold kOf; rw [if_neg (by omega), if_neg (by omega), if_neg (by omega), if_neg (by omega), if_neg (by omega), if_neg (by omega), if_pos (by omega)]) dX8_of_139
    by_cases hc10 : what = 7
    · refine z_tsI C 7 (by omega) (by omega) rfl 140 (by decide) dX8_of_14 ?_
      refine z_aln C hl 0 rfl dX8_of_140 ?_
      refine gf_X8_10 C hP dX8_of_141 ?_
      refine z_iln C hl 1 rfl dX8_of_144 ?_
      refine z_vRO C hP hl (c_X7_early (σ := σ) r hI (by omega)) (z_recv C hP (i := 1) (by decide) rfl (ci := 7) rfl) wg_338 wg_2 wg_335 wg_336 wg_337 cw_X7_early ⟨Nat.le_of_ble_eq_true rfl, Nat.le_of_ble_eq_true rfl⟩ rfl rfl (Nat.le_of_ble_eq_true rfl) dX8_of_145 ?_
      exact z_iret B (by rw [if_neg (by omega)]; unfold kOf; rw [if_neg (by omega), if_neg (by omega), if_neg (by omega), if_neg (by omega), if_neg (by omega), if_neg (by omega), if_neg (by omega), if_pos (by omega)]) dX8_of_148
    refine z_tsO C (by omega) (by omega) 149 (by decide) dX8_of_14 ?_
    refine z_bp C dX8_of_149 rfl ?_
    exact z_iret B (by rw [if_neg (by omega)]; unfold kOf; rw [if_neg (by omega), if_neg (by omega), if_neg (by omega), if_neg (by omega), if_neg (by omega), if_neg (by omega), if_neg (by omega), if_neg (by omega)]) dX8_of_151
  · skip
    refine z_ic C dX8_of_11 ?_
    exact z_iret B (by rw [if_pos (by omega)]) dX8_of_12

set_option maxHeartbeats 4000000 in
set_option maxRecDepth 100000 in
theorem c_X8_moved {l : Launch} {D : va_G} {q : Nat → Nat} {g : Nat → ClassId} {σ : Mem} (i : Int) (hI : TI σ) (hr_i : zR i) : RO l yX8_moved cX8_moved 5 (some .int) 6 135 D q g σ [.ref (q 0), .int (zI i)] (some (.int (zI (kMoved (co σ) i)))) := by
  refine RO.intro (plainFor_of_name (by decide)) (Nat.le_of_ble_eq_true rfl) (fun p e s m args below meth c ls B hP hl => ?_)
  have C := B.1
  have hl : lv_has ls 5 [(0, .ref (q 0)), (1, .int (zI i))] := hl
  have h1 := hI.1
  have e12 : co σ 1 2 = σ 1 2 := rfl
  refine z_ic C dX8_moved_0 ?_
  refine z_isn C hl [(2, .int (zI 0)), (0, .ref (q 0)), (1, .int (zI i))] (by decide) rfl dX8_moved_1 (fun ls hl => ?_)
  refine z_ic C dX8_moved_2 ?_
  refine z_isn C hl [(3, .int (zI 0)), (2, .int (zI 0)), (0, .ref (q 0)), (1, .int (zI i))] (by decide) rfl dX8_moved_3 (fun ls hl => ?_)
  have L4 : ∀ (n : Nat) (f : Int) (a : Int)  , σ 1 2 - a < (n : Int) → (0 ≤ a ∧ a ≤ σ 1 2) → (0 ≤ f ∧ f ≤ 6 * a) → (kMoved (co σ) i = mvA (co σ) i (co σ 1 2 - a).toNat a f) → ∀ ls : Array Slot, lv_has ls 5 [(0, .ref (q 0)), (1, .int (zI i)), (2, .int (zI f)), (3, .int (zI a))] → WO p l e 6 135 s m args below meth c (some (.int (zI (kMoved (co σ) i)))) (F0 m 4 ls []) := by
    intro n
    induction n with
    | zero => intro f a hm ha hf he ls hl; exact False.elim (by omega)
    | succ n ih =>
      intro f a hm ha hf he ls hl
      have ih4 := ih; clear ih
      refine z_iln C hl 3 rfl dX8_moved_4 ?_
      refine z_aln C hl 0 rfl dX8_moved_5 ?_
      refine gf_X8_10 C hP dX8_moved_6 ?_
      refine gf_X8_118 C hP dX8_moved_9 ?_
      refine z_icmp_ge C 73 (by decide) (by omega) (by omega) dX8_moved_12 (fun w1 => ?_) (fun w1 => ?_)
      · skip
        refine z_iln C hl 1 rfl dX8_moved_73 ?_
        refine z_ic C dX8_moved_74 ?_
        refine z_icmp_ne C 82 (by decide) (by omega) (by omega) dX8_moved_75 (fun w2 => ?_) (fun w2 => ?_)
        · skip
          refine z_bp C dX8_moved_82 rfl ?_
          exact z_iret B (by rw [he, show (co σ 1 2 - a).toNat = 0 by omega, mvA]; split <;> omega) dX8_moved_84
        · skip
          refine z_iln C hl 2 rfl dX8_moved_78 ?_
          refine z_goto C 84 (by decide) dX8_moved_79 ?_
          exact z_iret B (by rw [he, show (co σ 1 2 - a).toNat = 0 by omega, mvA]; split <;> omega) dX8_moved_84
      · skip
        refine z_iln C hl 3 rfl dX8_moved_15 ?_
        refine z_ic C dX8_moved_16 ?_
        refine z_iadd C dX8_moved_17 ?_
        refine z_ist C hl [(4, .int (zI (a + 1))), (0, .ref (q 0)), (1, .int (zI i)), (2, .int (zI f)), (3, .int (zI a))] (by decide) rfl dX8_moved_18 (fun ls hl => ?_)
        have L20 : ∀ (n : Nat) (f : Int) (b : Int)  , σ 1 2 - b < (n : Int) → (a + 1 ≤ b ∧ b ≤ σ 1 2) → (0 ≤ f ∧ f ≤ 6 * a + b) → (kMoved (co σ) i = mvK (mvB (co σ) i a (co σ 1 2 - b).toNat b f) (mvA (co σ) i (co σ 1 2 - (a + 1)).toNat (a + 1))) → ∀ ls : Array Slot, lv_has ls 5 [(0, .ref (q 0)), (1, .int (zI i)), (2, .int (zI f)), (3, .int (zI a)), (4, .int (zI b))] → WO p l e 6 135 s m args below meth c (some (.int (zI (kMoved (co σ) i)))) (F0 m 20 ls []) := by
          intro n
          induction n with
          | zero => intro f b hm hb hf2 he2 ls hl; exact False.elim (by omega)
          | succ n ih =>
            intro f b hm hb hf2 he2 ls hl
            have ih20 := ih; clear ih
            refine z_il C hl 4 rfl dX8_moved_20 ?_
            refine z_aln C hl 0 rfl dX8_moved_22 ?_
            refine gf_X8_10 C hP dX8_moved_23 ?_
            refine gf_X8_118 C hP dX8_moved_26 ?_
            refine z_icmp_ge C 67 (by decide) (by omega) (by omega) dX8_moved_29 (fun w3 => ?_) (fun w3 => ?_)
            · skip
              refine z_iinc C hl 3 rfl [(3, .int (zI (a + 1))), (0, .ref (q 0)), (1, .int (zI i)), (2, .int (zI f)), (4, .int (zI b))] (by decide) rfl dX8_moved_67 (fun ls hl => ?_)
              refine z_goto C 4 (by decide) dX8_moved_70 ?_
              exact ih4 f (a + 1) (by omega) (by omega) (by omega) (by rw [he2, show (co σ 1 2 - b).toNat = 0 by omega]; rfl) ls (lv_sub hl [1, 2, 3, 0] rfl)
            · skip
              rw [show (co σ 1 2 - b).toNat = (co σ 1 2 - (b + 1)).toNat + 1 by omega, mvB] at he2
              refine z_aln C hl 0 rfl dX8_moved_32 ?_
              refine gf_X8_10 C hP dX8_moved_33 ?_
              refine z_iln C hl 3 rfl dX8_moved_36 ?_
              refine z_il C hl 4 rfl dX8_moved_37 ?_
              refine z_vRO C hP hl (c_X7_areMoved (σ := σ) a b hI (by omega) (by omega)) (z_recv C hP (i := 1) (by decide) rfl (ci := 7) rfl) wg_347 wg_2 wg_344 wg_345 wg_346 cw_X7_areMoved ⟨Nat.le_of_ble_eq_true rfl, Nat.le_of_ble_eq_true rfl⟩ rfl rfl (Nat.le_of_ble_eq_true rfl) dX8_moved_39 ?_
              refine z_bif_eq C 61 (by decide) dX8_moved_42 (fun w4 => ?_) (fun w4 => ?_)
              · skip
                refine z_iinc C hl 4 rfl [(4, .int (zI (b + 1))), (0, .ref (q 0)), (1, .int (zI i)), (2, .int (zI f)), (3, .int (zI a))] (by decide) rfl dX8_moved_61 (fun ls hl => ?_)
                refine z_goto C 20 (by decide) dX8_moved_64 ?_
                exact ih20 f (b + 1) (by omega) (by omega) (by omega) (by rw [he2, if_neg w4]) ls (lv_sub hl [1, 2, 3, 4, 0] rfl)
              · skip
                refine z_iln C hl 2 rfl dX8_moved_45 ?_
                refine z_iln C hl 1 rfl dX8_moved_46 ?_
                refine z_icmp_ne C 58 (by decide) (by omega) (by omega) dX8_moved_47 (fun w5 => ?_) (fun w5 => ?_)
                · skip
                  refine z_iinc C hl 2 rfl [(2, .int (zI (f + 1))), (0, .ref (q 0)), (1, .int (zI i)), (3, .int (zI a)), (4, .int (zI b))] (by decide) rfl dX8_moved_58 (fun ls hl => ?_)
                  refine z_iinc C hl 4 rfl [(4, .int (zI (b + 1))), (2, .int (zI (f + 1))), (0, .ref (q 0)), (1, .int (zI i)), (3, .int (zI a))] (by decide) rfl dX8_moved_61 (fun ls hl => ?_)
                  refine z_goto C 20 (by decide) dX8_moved_64 ?_
                  exact ih20 (f + 1) (b + 1) (by omega) (by omega) (by omega) (by rw [he2, if_pos w4, if_neg (by omega)]) ls (lv_sub hl [2, 3, 1, 4, 0] rfl)
                · skip
                  refine z_bp C dX8_moved_50 rfl ?_
                  refine z_iln C hl 3 rfl dX8_moved_52 ?_
                  refine z_imul C dX8_moved_53 ?_
                  refine z_il C hl 4 rfl dX8_moved_54 ?_
                  refine z_iadd C dX8_moved_56 ?_
                  exact z_iret B (by rw [he2, if_pos w4, if_pos (by omega)]; rfl) dX8_moved_57
        exact L20 ((σ 1 2 - (a + 1) : Int).toNat + 1) f (a + 1) (by omega) (by omega) (by omega) (by rw [he, show (co σ 1 2 - a).toNat = (co σ 1 2 - (a + 1)).toNat + 1 by omega, mvA]) ls (lv_sub hl [1, 2, 3, 4, 0] rfl)
  exact L4 ((σ 1 2 - 0 : Int).toNat + 1) 0 0 (by omega) (by omega) (by omega) (by rw [Int.sub_zero]; rfl) ls (lv_sub hl [2, 3, 1, 0] rfl)

set_option maxHeartbeats 4000000 in
set_option maxRecDepth 100000 in
theorem c_X8_place {l : Launch} {D : va_G} {q : Nat → Nat} {g : Nat → ClassId} {σ : Mem} (hq : qok q) (r rule : Int) (hI : TI σ) (hr_r : zR r) (hr_rule : zR rule) : RW l yX8_place cX8_place 3 (some .int) 7 160 D q g σ [.ref (q 0), .int (zI r), .int (zI rule)] vI (fun res τ => Fr σ τ ∧ res = if ¬ (0 ≤ r ∧ r < σ 1 2) then -1 else if ¬ (0 ≤ rule ∧ rule ≤ 1) then -2 else kPla (co σ) r rule) := by
  refine RW.intro (plainFor_of_name (by decide)) (Nat.le_of_ble_eq_true rfl) (fun p e s m args below meth c ls B hP hS hl => ?_)
  have C := B.1
  have hl : lv_has ls 3 [(0, .ref (q 0)), (1, .int (zI r)), (2, .int (zI rule))] := hl
  have h1 := hI.1
  have hIc := TI_cc hI
  have e12 : co σ 1 2 = σ 1 2 := rfl
  have h81 := hI.2.1
  refine z_aln C hl 0 rfl dX8_place_0 ?_
  refine gf_X8_10 C hP dX8_place_1 ?_
  refine z_iln C hl 1 rfl dX8_place_4 ?_
  refine z_vRO C hP hl (c_X7_has (σ := σ) r hI (by omega)) (z_recv C hP (i := 1) (by decide) rfl (ci := 7) rfl) wg_224 wg_2 wg_221 wg_222 wg_223 cw_X7_has ⟨Nat.le_of_ble_eq_true rfl, Nat.le_of_ble_eq_true rfl⟩ rfl rfl (Nat.le_of_ble_eq_true rfl) dX8_place_5 ?_
  refine z_bif_ne C 13 (by decide) dX8_place_8 (fun w1 => ?_) (fun w1 => ?_)
  · skip
    refine z_iln C hl 2 rfl dX8_place_13 ?_
    refine z_sRO C hP hl (c_X8_isEither (σ := σ) rule (by omega))  wg_247 wg_1 wg_245 wg_246 cw_X8_isEither ⟨Nat.le_of_ble_eq_true rfl, Nat.le_of_ble_eq_true rfl⟩ rfl rfl (Nat.le_of_ble_eq_true rfl) dX8_place_14 ?_
    refine z_bif_ne C 23 (by decide) dX8_place_17 (fun w2 => ?_) (fun w2 => ?_)
    · skip
      refine z_aln C hl 0 rfl dX8_place_23 ?_
      refine z_ic C dX8_place_24 ?_
      refine z_vRWv C hP hS hl (c_X8_rank (σ := σ) hq 0 hI (by omega)) (z_recv C hP (i := 0) (by decide) rfl (ci := 8) rfl) wg_358 wg_1 wg_355 wg_357 ws_X8_rank cw_X8_rank ⟨Nat.le_of_ble_eq_true rfl, Nat.le_of_ble_eq_true rfl⟩ rfl rfl (Nat.le_of_ble_eq_true rfl) dX8_place_25 (fun r25 τ25 H locs hp25 hP hS => ?_)
      obtain ⟨hF, hK⟩ := hp25
      have hor := kOrd_rng (co σ) 0 (co σ 1 2).toNat
      have hk0 := hK.1
      have hIt := Fr_TI hF hI
      have e81 := hF 8 1 rfl
      have hbb : ∀ j : Nat, (j : Int) < τ25 2 2 → (-1000 ≤ τ25 10 j ∧ τ25 10 j ≤ 100000000) ∧ zR (τ25 9 j) ∧ τ25 9 j = kOl (co σ) 0 j ∧ τ25 10 j = kKey (co σ) 0 (kOl (co σ) 0 j) := fun j hj => by have h3 := hK.2 j (by omega); have h4 := hor.2 j (by omega); have h5 := kKey_b hIc (md := 0) (lane := (kOrd (co σ) 0 (co σ 1 2).toNat).1 j) (by omega); exact ⟨by omega, by omega, h3.1, h3.2⟩
      refine z_aln C hl 0 rfl dX8_place_28 ?_
      refine gf_X8_19 C hP dX8_place_29 ?_
      refine z_iln C hl 1 rfl dX8_place_32 ?_
      refine z_iln C hl 2 rfl dX8_place_33 ?_
      refine z_aln C hl 0 rfl dX8_place_34 ?_
      refine gf_X8_10 C hP dX8_place_35 ?_
      refine gf_X8_83 C hP dX8_place_38 ?_
      refine z_ic C dX8_place_41 ?_
      refine z_ialk C hP (i := 8) (by decide) (fun _ => rfl) 1 rfl (by decide) (by decide) dX8_place_42 ?_
      refine z_vRO C hP hl (c_X3_placeOf (σ := τ25) r rule (τ25 8 1) (by omega) (fun j hj => (hbb j hj).1) (fun j hj => (hbb j hj).2.1) (by omega) (by omega) (by omega)) (z_recv C hP (i := 2) (by decide) rfl (ci := 3) rfl) wg_375 wg_4 wg_372 wg_373 wg_374 cw_X3_placeOf ⟨Nat.le_of_ble_eq_true rfl, Nat.le_of_ble_eq_true rfl⟩ rfl rfl (Nat.le_of_ble_eq_true rfl) dX8_place_43 ?_
      exact z_iretW B hP hS ⟨hF, by rw [if_neg (by omega), if_neg (by omega), kPla, kPlF_cong (fun j hj => (hbb j hj).2.2) _ 0 0 (by omega) (by omega) (by omega), show (τ25 2 2).toNat = kOn (co σ) 0 by rw [hk0]; rfl, e81]; rfl⟩ dX8_place_46
    · skip
      refine z_bp C dX8_place_20 rfl ?_
      exact z_iretW B hP hS ⟨Fr_rf, by rw [if_neg (by omega), if_pos (by omega)]⟩ dX8_place_22
  · skip
    refine z_ic C dX8_place_11 ?_
    exact z_iretW B hP hS ⟨Fr_rf, by rw [if_pos (by omega)]⟩ dX8_place_12

set_option maxHeartbeats 4000000 in
set_option maxRecDepth 100000 in
theorem c_X8_stretch {l : Launch} {D : va_G} {q : Nat → Nat} {g : Nat → ClassId} {σ : Mem} (r row : Int) (hI : TI σ) (hr_r : zR r) (hr_row : zR row) : RO l yX8_stretch cX8_stretch 3 (some .int) 4 89 D q g σ [.ref (q 0), .int (zI r), .int (zI row)] (some (.int (zI (if ¬ ((0 ≤ r ∧ r < σ 1 2) ∧ (0 ≤ row ∧ row ≤ 5)) then -1 else kStr (co σ) r row)))) := by
  refine RO.intro (plainFor_of_name (by decide)) (Nat.le_of_ble_eq_true rfl) (fun p e s m args below meth c ls B hP hl => ?_)
  have C := B.1
  have hl : lv_has ls 3 [(0, .ref (q 0)), (1, .int (zI r)), (2, .int (zI row))] := hl
  have h1 := hI.1
  have hm0 : (0 ≤ row ∧ row ≤ 5) → -15 ≤ co σ 8 0 * row ∧ co σ 8 0 * row ≤ 15 := fun h => mul_l (a := co σ 8 0) hI.2.1.1 h
  refine z_aln C hl 0 rfl dX8_stretch_0 ?_
  refine gf_X8_10 C hP dX8_stretch_1 ?_
  refine z_iln C hl 1 rfl dX8_stretch_4 ?_
  refine z_vRO C hP hl (c_X7_has (σ := σ) r hI (by omega)) (z_recv C hP (i := 1) (by decide) rfl (ci := 7) rfl) wg_224 wg_2 wg_221 wg_222 wg_223 cw_X7_has ⟨Nat.le_of_ble_eq_true rfl, Nat.le_of_ble_eq_true rfl⟩ rfl rfl (Nat.le_of_ble_eq_true rfl) dX8_stretch_5 ?_
  refine z_bif_eq C 18 (by decide) dX8_stretch_8 (fun w1 => ?_) (fun w1 => ?_)
  · skip
    refine z_ic C dX8_stretch_18 ?_
    exact z_iret B (by rw [if_pos (by omega)]) dX8_stretch_19
  · skip
    refine z_iln C hl 2 rfl dX8_stretch_11 ?_
    refine z_sRO C hP hl (c_X8_isRow (σ := σ) row (by omega))  wg_228 wg_1 wg_226 wg_227 cw_X8_isRow ⟨Nat.le_of_ble_eq_true rfl, Nat.le_of_ble_eq_true rfl⟩ rfl rfl (Nat.le_of_ble_eq_true rfl) dX8_stretch_12 ?_
    refine z_bif_ne C 20 (by decide) dX8_stretch_15 (fun w2 => ?_) (fun w2 => ?_)
    · skip
      refine z_aln C hl 0 rfl dX8_stretch_20 ?_
      refine gf_X8_10 C hP dX8_stretch_21 ?_
      refine gf_X8_66 C hP dX8_stretch_24 ?_
      refine z_iln C hl 1 rfl dX8_stretch_27 ?_
      refine z_aald C hP (i := 7) (t := 2) (b := 26) (by decide) rfl (fun _ => rfl) (by omega) (by decide) dX8_stretch_28 ?_
      refine z_ic C dX8_stretch_29 ?_
      refine z_iln C hl 2 rfl dX8_stretch_30 ?_
      refine z_aln C hl 0 rfl dX8_stretch_31 ?_
      refine gf_X8_10 C hP dX8_stretch_32 ?_
      refine z_iln C hl 2 rfl dX8_stretch_35 ?_
      refine z_vRO C hP hl (c_X7_slitPlace (σ := σ) row ) (z_recv C hP (i := 1) (by decide) rfl (ci := 7) rfl) wg_255 wg_2 wg_381 wg_253 wg_254 cw_X7_slitPlace ⟨Nat.le_of_ble_eq_true rfl, Nat.le_of_ble_eq_true rfl⟩ rfl rfl (Nat.le_of_ble_eq_true rfl) dX8_stretch_36 ?_
      refine z_vRO C hP hl (c_X4_columnsOver (σ := σ) (j := (r.toNat)) 1 row (co σ 8 0 * row) (by omega) hI (by omega) (by omega) (by omega)) (z_recv C hP (i := (26 + r.toNat)) (by omega) (cE_run (j := r.toNat) (by omega) _) (ci := 4) rfl) wg_385 wg_3 wg_382 wg_383 wg_384 cw_X4_columnsOver ⟨Nat.le_of_ble_eq_true rfl, Nat.le_of_ble_eq_true rfl⟩ rfl rfl (Nat.le_of_ble_eq_true rfl) dX8_stretch_39 ?_
      exact z_iret B (by rw [if_neg (by omega)]; rfl) dX8_stretch_42
    · skip
      refine z_ic C dX8_stretch_18 ?_
      exact z_iret B (by rw [if_pos (by omega)]) dX8_stretch_19

set_option maxHeartbeats 4000000 in
set_option maxRecDepth 100000 in
theorem c_X8_shows {l : Launch} {D : va_G} {q : Nat → Nat} {g : Nat → ClassId} {σ : Mem} (side col row : Int) (hI : TI σ) (hr_side : zR side) (hr_col : zR col) (hr_row : zR row) : RO l yX8_shows cX8_shows 4 (some .int) 2 52 D q g σ [.ref (q 0), .int (zI side), .int (zI col), .int (zI row)] (some (.int (zI (if ¬ (0 ≤ row ∧ row ≤ 5) then -1 else if ¬ ((0 ≤ side ∧ side ≤ 1) ∧ (0 ≤ col ∧ col ≤ 299)) then -2 else kFilm (co σ) side col row)))) := by
  refine RO.intro (plainFor_of_name (by decide)) (Nat.le_of_ble_eq_true rfl) (fun p e s m args below meth c ls B hP hl => ?_)
  have C := B.1
  have hl : lv_has ls 4 [(0, .ref (q 0)), (1, .int (zI side)), (2, .int (zI col)), (3, .int (zI row))] := hl
  refine z_iln C hl 3 rfl dX8_shows_0 ?_
  refine z_sRO C hP hl (c_X8_isRow (σ := σ) row (by omega))  wg_228 wg_1 wg_226 wg_227 cw_X8_isRow ⟨Nat.le_of_ble_eq_true rfl, Nat.le_of_ble_eq_true rfl⟩ rfl rfl (Nat.le_of_ble_eq_true rfl) dX8_shows_1 ?_
  refine z_bif_ne C 9 (by decide) dX8_shows_4 (fun w1 => ?_) (fun w1 => ?_)
  · skip
    refine z_iln C hl 1 rfl dX8_shows_9 ?_
    refine z_sRO C hP hl (c_X8_isEither (σ := σ) side (by omega))  wg_247 wg_1 wg_245 wg_246 cw_X8_isEither ⟨Nat.le_of_ble_eq_true rfl, Nat.le_of_ble_eq_true rfl⟩ rfl rfl (Nat.le_of_ble_eq_true rfl) dX8_shows_10 ?_
    refine z_bif_eq C 27 (by decide) dX8_shows_13 (fun w2 => ?_) (fun w2 => ?_)
    · skip
      refine z_bp C dX8_shows_27 rfl ?_
      exact z_iret B (by rw [if_neg (by omega), if_pos (by omega)]) dX8_shows_29
    · skip
      refine z_iln C hl 2 rfl dX8_shows_16 ?_
      refine z_ic C dX8_shows_17 ?_
      refine z_sp C dX8_shows_18 rfl ?_
      refine z_sRO C hP hl (c_X8_within (σ := σ) col 0 299 (by omega) (by omega) (by omega))  wg_212 wg_1 wg_210 wg_211 cw_X8_within ⟨Nat.le_of_ble_eq_true rfl, Nat.le_of_ble_eq_true rfl⟩ rfl rfl (Nat.le_of_ble_eq_true rfl) dX8_shows_21 ?_
      refine z_bif_ne C 30 (by decide) dX8_shows_24 (fun w3 => ?_) (fun w3 => ?_)
      · skip
        refine z_aln C hl 0 rfl dX8_shows_30 ?_
        refine gf_X8_10 C hP dX8_shows_31 ?_
        refine z_iln C hl 1 rfl dX8_shows_34 ?_
        refine z_iln C hl 2 rfl dX8_shows_35 ?_
        refine z_iln C hl 3 rfl dX8_shows_36 ?_
        refine z_vRO C hP hl (c_X7_film (σ := σ) side col row hI (by omega) (by omega) (by omega)) (z_recv C hP (i := 1) (by decide) rfl (ci := 7) rfl) wg_251 wg_2 wg_248 wg_249 wg_250 cw_X7_film ⟨Nat.le_of_ble_eq_true rfl, Nat.le_of_ble_eq_true rfl⟩ rfl rfl (Nat.le_of_ble_eq_true rfl) dX8_shows_37 ?_
        exact z_iret B (by rw [if_neg (by omega), if_neg (by omega)]) dX8_shows_40
      · skip
        refine z_bp C dX8_shows_27 rfl ?_
        exact z_iret B (by rw [if_neg (by omega), if_pos (by omega)]) dX8_shows_29
  · skip
    refine z_ic C dX8_shows_7 ?_
    exact z_iret B (by rw [if_pos (by omega)]) dX8_shows_8

set_option maxHeartbeats 4000000 in
set_option maxRecDepth 100000 in
theorem c_X8_canStretch {l : Launch} {D : va_G} {q : Nat → Nat} {g : Nat → ClassId} {σ : Mem} (len col v : Int) (hl : 1 ≤ len ∧ len ≤ 19) (hv : 1 ≤ v ∧ v ≤ 20) (hr_col : zR col) : RO l yX8_canStretch cX8_canStretch 3 (some .boolean) 2 43 D q g σ [.int (zI len), .int (zI col), .int (zI v)] (some (.int (zI (bz (canS len col v = true))))) := by
  refine RO.intro (plainFor_of_name (by decide)) (Nat.le_of_ble_eq_true rfl) (fun p e s m args below meth c ls B hP hl => ?_)
  have C := B.1
  have hl : lv_has ls 3 [(0, .int (zI len)), (1, .int (zI col)), (2, .int (zI v))] := hl
  have ha := div_b (a := len) (v := v) (by omega) (by omega)
  have hb := div_b (a := -len) (v := v) (by omega) (by omega)
  refine z_iln C hl 1 rfl dX8_canStretch_0 ?_
  refine z_iln C hl 0 rfl dX8_canStretch_1 ?_
  refine z_iln C hl 2 rfl dX8_canStretch_2 ?_
  refine z_sRO C hP hl (c_X8_floorQuotient (σ := σ) len v (by omega) (by omega) (by omega))  wg_282 wg_1 wg_394 wg_281 cw_X8_floorQuotient ⟨Nat.le_of_ble_eq_true rfl, Nat.le_of_ble_eq_true rfl⟩ rfl rfl (Nat.le_of_ble_eq_true rfl) dX8_canStretch_3 ?_
  refine z_iln C hl 0 rfl dX8_canStretch_6 ?_
  refine z_iln C hl 2 rfl dX8_canStretch_7 ?_
  refine z_sRO C hP hl (c_X8_ceilQuotient (σ := σ) len v (by omega) (by omega) (by omega) (by omega))  wg_295 wg_1 wg_395 wg_294 cw_X8_ceilQuotient ⟨Nat.le_of_ble_eq_true rfl, Nat.le_of_ble_eq_true rfl⟩ rfl rfl (Nat.le_of_ble_eq_true rfl) dX8_canStretch_8 ?_
  refine z_sRO C hP hl (c_X8_within (σ := σ) col (len / v) (-((-len) / v)) (by omega) (by omega) (by omega))  wg_212 wg_1 wg_210 wg_211 cw_X8_within ⟨Nat.le_of_ble_eq_true rfl, Nat.le_of_ble_eq_true rfl⟩ rfl rfl (Nat.le_of_ble_eq_true rfl) dX8_canStretch_11 ?_
  exact z_bret B (by unfold canS; rw [decide_eq_true_eq]) dX8_canStretch_14

set_option maxHeartbeats 4000000 in
set_option maxRecDepth 100000 in
theorem c_X8_speeds {l : Launch} {D : va_G} {q : Nat → Nat} {g : Nat → ClassId} {σ : Mem} (len col en : Int) (hr_len : zR len) (hr_col : zR col) (hr_en : zR en) : RO l yX8_speeds cX8_speeds 6 (some .int) 3 65 D q g σ [.ref (q 0), .int (zI len), .int (zI col), .int (zI en)] (some (.int (zI (kSpd len col en)))) := by
  refine RO.intro (plainFor_of_name (by decide)) (Nat.le_of_ble_eq_true rfl) (fun p e s m args below meth c ls B hP hl => ?_)
  have C := B.1
  have hl : lv_has ls 6 [(0, .ref (q 0)), (1, .int (zI len)), (2, .int (zI col)), (3, .int (zI en))] := hl
  refine z_iln C hl 1 rfl dX8_speeds_0 ?_
  refine z_ic C dX8_speeds_1 ?_
  refine z_bp C dX8_speeds_2 rfl ?_
  refine z_sRO C hP hl (c_X8_within (σ := σ) len 1 19 (by omega) (by omega) (by omega))  wg_212 wg_1 wg_210 wg_211 cw_X8_within ⟨Nat.le_of_ble_eq_true rfl, Nat.le_of_ble_eq_true rfl⟩ rfl rfl (Nat.le_of_ble_eq_true rfl) dX8_speeds_4 ?_
  refine z_bif_eq C 27 (by decide) dX8_speeds_7 (fun w1 => ?_) (fun w1 => ?_)
  · skip
    refine z_bp C dX8_speeds_27 rfl ?_
    exact z_iret B (by unfold kSpd; rw [if_pos (by omega)]) dX8_speeds_29
  · skip
    refine z_iln C hl 2 rfl dX8_speeds_10 ?_
    refine z_ic C dX8_speeds_11 ?_
    refine z_bp C dX8_speeds_12 rfl ?_
    refine z_sRO C hP hl (c_X8_within (σ := σ) col 0 30 (by omega) (by omega) (by omega))  wg_212 wg_1 wg_210 wg_211 cw_X8_within ⟨Nat.le_of_ble_eq_true rfl, Nat.le_of_ble_eq_true rfl⟩ rfl rfl (Nat.le_of_ble_eq_true rfl) dX8_speeds_14 ?_
    refine z_bif_eq C 27 (by decide) dX8_speeds_17 (fun w2 => ?_) (fun w2 => ?_)
    · skip
      refine z_bp C dX8_speeds_27 rfl ?_
      exact z_iret B (by unfold kSpd; rw [if_pos (by omega)]) dX8_speeds_29
    · skip
      refine z_iln C hl 3 rfl dX8_speeds_20 ?_
      refine z_sRO C hP hl (c_X8_isEither (σ := σ) en (by omega))  wg_247 wg_1 wg_245 wg_246 cw_X8_isEither ⟨Nat.le_of_ble_eq_true rfl, Nat.le_of_ble_eq_true rfl⟩ rfl rfl (Nat.le_of_ble_eq_true rfl) dX8_speeds_21 ?_
      refine z_bif_ne C 30 (by decide) dX8_speeds_24 (fun w3 => ?_) (fun w3 => ?_)
      · skip
        refine z_bp C dX8_speeds_30 rfl ?_
        refine z_ist C hl [(4, .int (zI (-6))), (0, .ref (q 0)), (1, .int (zI len)), (2, .int (zI col)), (3, .int (zI en))] (by decide) rfl dX8_speeds_32 (fun ls hl => ?_)
        refine z_ic C dX8_speeds_34 ?_
        refine z_ist C hl [(5, .int (zI 1)), (4, .int (zI (-6))), (0, .ref (q 0)), (1, .int (zI len)), (2, .int (zI col)), (3, .int (zI en))] (by decide) rfl dX8_speeds_35 (fun ls hl => ?_)
        have L37 : ∀ (n : Nat) (x : Int) (v : Int)  , 20 - v + 1 < (n : Int) → (1 ≤ v ∧ v ≤ 21) → (x = spL len col (v - 1).toNat) → (en = 0 → spF len col (v - 1).toNat = -6) → ∀ ls : Array Slot, lv_has ls 6 [(0, .ref (q 0)), (1, .int (zI len)), (2, .int (zI col)), (3, .int (zI en)), (4, .int (zI x)), (5, .int (zI v))] → WO p l e 3 65 s m args below meth c (some (.int (zI (kSpd len col en)))) (F0 m 37 ls []) := by
          intro n
          induction n with
          | zero => intro x v hm hv hx hf ls hl; exact False.elim (by omega)
          | succ n ih =>
            intro x v hm hv hx hf ls hl
            have ih37 := ih; clear ih
            refine z_il C hl 5 rfl dX8_speeds_37 ?_
            refine z_bp C dX8_speeds_39 rfl ?_
            refine z_icmp_gt C 71 (by decide) (by omega) (by omega) dX8_speeds_41 (fun w4 => ?_) (fun w4 => ?_)
            · skip
              refine z_il C hl 4 rfl dX8_speeds_71 ?_
              exact z_iret B (by unfold kSpd; rw [if_neg (by omega), hx, show (v - 1).toNat = 20 by omega]; split <;> first | rfl | (rename_i hz; have h4 := hf hz; rw [show (v - 1).toNat = 20 by omega] at h4; rw [h4]; exact spL_of h4)) dX8_speeds_73
            · skip
              refine z_iln C hl 1 rfl dX8_speeds_44 ?_
              refine z_iln C hl 2 rfl dX8_speeds_45 ?_
              refine z_il C hl 5 rfl dX8_speeds_46 ?_
              refine z_sRO C hP hl (c_X8_canStretch (σ := σ) len col v (by omega) (by omega) (by omega))  wg_393 wg_1 wg_391 wg_392 cw_X8_canStretch ⟨Nat.le_of_ble_eq_true rfl, Nat.le_of_ble_eq_true rfl⟩ rfl rfl (Nat.le_of_ble_eq_true rfl) dX8_speeds_48 ?_
              refine z_bif_eq C 65 (by decide) dX8_speeds_51 (fun w5 => ?_) (fun w5 => ?_)
              · skip
                refine z_iinc C hl 5 rfl [(5, .int (zI (v + 1))), (0, .ref (q 0)), (1, .int (zI len)), (2, .int (zI col)), (3, .int (zI en)), (4, .int (zI x))] (by decide) rfl dX8_speeds_65 (fun ls hl => ?_)
                refine z_goto C 37 (by decide) dX8_speeds_68 ?_
                exact ih37 x (v + 1) (by omega) (by omega) (by rw [show (v + 1 - 1).toNat = (v - 1).toNat + 1 by omega, spL, show (((v - 1).toNat : Nat) : Int) + 1 = v by omega, if_neg w5, hx]) (fun h => by rw [show (v + 1 - 1).toNat = (v - 1).toNat + 1 by omega, spF, hf h, if_neg (by omega), show (((v - 1).toNat : Nat) : Int) + 1 = v by omega, if_neg w5]) ls (lv_sub hl [1, 2, 3, 4, 5, 0] rfl)
              · skip
                refine z_iln C hl 3 rfl dX8_speeds_54 ?_
                refine z_if_ne C 61 (by decide) (by omega) dX8_speeds_55 (fun w6 => ?_) (fun w6 => ?_)
                · skip
                  refine z_il C hl 5 rfl dX8_speeds_61 ?_
                  refine z_ist C hl [(4, .int (zI v)), (0, .ref (q 0)), (1, .int (zI len)), (2, .int (zI col)), (3, .int (zI en)), (5, .int (zI v))] (by decide) rfl dX8_speeds_63 (fun ls hl => ?_)
                  refine z_iinc C hl 5 rfl [(5, .int (zI (v + 1))), (4, .int (zI v)), (0, .ref (q 0)), (1, .int (zI len)), (2, .int (zI col)), (3, .int (zI en))] (by decide) rfl dX8_speeds_65 (fun ls hl => ?_)
                  refine z_goto C 37 (by decide) dX8_speeds_68 ?_
                  exact ih37 v (v + 1) (by omega) (by omega) (by rw [show (v + 1 - 1).toNat = (v - 1).toNat + 1 by omega, spL, show (((v - 1).toNat : Nat) : Int) + 1 = v by omega, if_pos w5]) (fun h => by omega) ls (lv_sub hl [2, 3, 4, 5, 1, 0] rfl)
                · skip
                  refine z_il C hl 5 rfl dX8_speeds_58 ?_
                  exact z_iret B (by unfold kSpd; rw [if_neg (by omega), if_pos (by omega)]; have h2 : spF len col v.toNat = v := (by rw [show v.toNat = (v - 1).toNat + 1 by omega, spF, hf (by omega), if_neg (by omega), show (((v - 1).toNat : Nat) : Int) + 1 = v by omega, if_pos w5]); have h3 := spF_stay (len := len) (col := col) (v := v) (by omega) (20 - v.toNat) v.toNat h2; rw [show v.toNat + (20 - v.toNat) = 20 by omega] at h3; exact h3.symm) dX8_speeds_60
        exact L37 ((20 - 1 + 1 : Int).toNat + 1) (-6) 1 (by omega) (by omega) rfl (fun _ => rfl) ls (lv_sub hl [2, 3, 4, 5, 1, 0] rfl)
      · skip
        refine z_bp C dX8_speeds_27 rfl ?_
        exact z_iret B (by unfold kSpd; rw [if_pos (by omega)]) dX8_speeds_29
