set_option maxHeartbeats 4000000 in
set_option maxRecDepth 100000 in
theorem c_X9_of {l : Launch} {D : va_G} {q : Nat → Nat} {g : Nat → ClassId} {σ : Mem} (hq : qok q) (r what : Int) (hI : TI σ) (hR : MR σ) (hr_r : zR r) (hr_what : zR what) : RW l yX9_of cX9_of 3 (some .int) 4 100 D q g σ [.ref (q 44), .int (zI r), .int (zI what)] vI (fun res τ => Fr σ τ ∧ res = if ¬ (0 ≤ r ∧ r < σ 1 2) then -1 else kOf (co σ) r what) := by
  refine RW.intro (plainFor_of_name (by decide)) (Nat.le_of_ble_eq_true rfl) (fun p e s m args below meth c ls B hP hS hl => ?_)
  have C := B.1
  have hl : lv_has ls 3 [(0, .ref (q 44)), (1, .int (zI r)), (2, .int (zI what))] := hl
  have h1 := hI.1
  have hIc := TI_cc hI
  have e12 : co σ 1 2 = σ 1 2 := rfl
  have hh := hR.1
  have h80 := hI.2.1
  refine z_aln C hl 0 rfl dX9_of_0 ?_
  refine z_iln C hl 1 rfl dX9_of_1 ?_
  refine z_vRO C hP hl (c_X9_isRunner (σ := σ) r (by omega) (by omega)) (z_recv C hP (i := 44) (by decide) rfl (ci := 9) rfl) wg_688 wg_10 wg_685 wg_687 ws_X9_isRunner cw_X9_isRunner ⟨Nat.le_of_ble_eq_true rfl, Nat.le_of_ble_eq_true rfl⟩ rfl rfl (Nat.le_of_ble_eq_true rfl) dX9_of_2 ?_
  refine z_bif_ne C 10 (by decide) dX9_of_5 (fun w1 => ?_) (fun w1 => ?_)
  · skip
    refine z_aln C hl 0 rfl dX9_of_10 ?_
    refine z_vRWv C hP hS hl (c_X9_findFirst (σ := σ) hq  hI hR) (z_recv C hP (i := 44) (by decide) rfl (ci := 9) rfl) wg_729 wg_10 wg_726 wg_728 ws_X9_findFirst cw_X9_findFirst ⟨Nat.le_of_ble_eq_true rfl, Nat.le_of_ble_eq_true rfl⟩ rfl rfl (Nat.le_of_ble_eq_true rfl) dX9_of_11 (fun r11 τ11 H locs hp11 hP hS => ?_)
    obtain ⟨hF, hA⟩ := hp11
    have hIt := Fr_TI hF hI
    have hRt := Fr_MR hF hI hR
    have ec := Fr_co hF
    have e1 := hF 1 2 rfl
    have e7 := hF 44 7 rfl
    have hj := kJn_b hIc (lane := r) (by omega)
    have hl2 := kLn_b hIc (lane := r) (by omega)
    have hg := hR.2.1 r.toNat (by omega)
    have hb := hI.2.2.1 r.toNat (by omega)
    have e50 := hF 50 r.toNat rfl
    have e9 := hF 44 9 rfl
    have hhe := kHe_b hIc (lane := r) (by omega)
    have ehe : kHe (co τ11) r = kHe (co σ) r := by rw [ec]
    have eea : kEa (co σ) r = if σ (26 + r.toNat) 4 = -6 then -6 else if σ (26 + r.toNat) 4 < kHe (co σ) r + σ 8 2 then 1 else 0 := by unfold kEa; rw [co_run (by omega)]; rfl
    refine z_iln C hl 2 rfl dX9_of_14 ?_
    by_cases hc2 : what = 0
    · refine z_tsI C 0 (by omega) (by omega) rfl 60 (by decide) dX9_of_15 ?_
      refine z_aln C hl 0 rfl dX9_of_60 ?_
      refine z_iln C hl 1 rfl dX9_of_61 ?_
      refine z_iln C hl 2 rfl dX9_of_62 ?_
      refine z_bp C dX9_of_63 rfl ?_
      refine z_vRO C hP hl (c_X9_firstOf (σ := τ11) r what 63 hIt hA (by omega) (by omega) (by omega)) (z_recv C hP (i := 44) (by decide) rfl (ci := 9) rfl) wg_733 wg_10 wg_730 wg_732 ws_X9_firstOf cw_X9_firstOf ⟨Nat.le_of_ble_eq_true rfl, Nat.le_of_ble_eq_true rfl⟩ rfl rfl (Nat.le_of_ble_eq_true rfl) dX9_of_65 ?_
      exact z_iretW B hP hS ⟨hF, by rw [if_neg (by omega), ec]; unfold kOf; rw [if_pos (by omega)]; rw [show what = 0 by omega, kRw_63 6 (Nat.le_refl 6)]; rfl⟩ dX9_of_68
    by_cases hc3 : what = 1
    · refine z_tsI C 1 (by omega) (by omega) rfl 60 (by decide) dX9_of_15 ?_
      refine z_aln C hl 0 rfl dX9_of_60 ?_
      refine z_iln C hl 1 rfl dX9_of_61 ?_
      refine z_iln C hl 2 rfl dX9_of_62 ?_
      refine z_bp C dX9_of_63 rfl ?_
      refine z_vRO C hP hl (c_X9_firstOf (σ := τ11) r what 63 hIt hA (by omega) (by omega) (by omega)) (z_recv C hP (i := 44) (by decide) rfl (ci := 9) rfl) wg_733 wg_10 wg_730 wg_732 ws_X9_firstOf cw_X9_firstOf ⟨Nat.le_of_ble_eq_true rfl, Nat.le_of_ble_eq_true rfl⟩ rfl rfl (Nat.le_of_ble_eq_true rfl) dX9_of_65 ?_
      exact z_iretW B hP hS ⟨hF, by rw [if_neg (by omega), ec]; unfold kOf; rw [if_neg (by omega), if_pos (by omega)]; rw [show what = 1 by omega, kRw_63 6 (Nat.le_refl 6)]; rfl⟩ dX9_of_68
    by_cases hc4 : what = 2
    · refine z_tsI C 2 (by omega) (by omega) rfl 69 (by decide) dX9_of_15 ?_
      refine z_aln C hl 0 rfl dX9_of_69 ?_
      refine z_iln C hl 1 rfl dX9_of_70 ?_
      refine z_vRO C hP hl (c_X9_joinedOf (σ := τ11) r hIt hA (by omega)) (z_recv C hP (i := 44) (by decide) rfl (ci := 9) rfl) wg_740 wg_10 wg_737 wg_739 ws_X9_joinedOf cw_X9_joinedOf ⟨Nat.le_of_ble_eq_true rfl, Nat.le_of_ble_eq_true rfl⟩ rfl rfl (Nat.le_of_ble_eq_true rfl) dX9_of_71 ?_
      exact z_iretW B hP hS ⟨hF, by rw [if_neg (by omega), ec]; unfold kOf; rw [if_neg (by omega), if_neg (by omega), if_pos (by omega)]⟩ dX9_of_74
    by_cases hc5 : what = 3
    · refine z_tsI C 3 (by omega) (by omega) rfl 75 (by decide) dX9_of_15 ?_
      refine z_aln C hl 0 rfl dX9_of_75 ?_
      refine z_iln C hl 1 rfl dX9_of_76 ?_
      refine z_ic C dX9_of_77 ?_
      refine z_vRO C hP hl (c_X9_crossed (σ := τ11) r 0 hIt hRt (by omega) (by omega)) (z_recv C hP (i := 44) (by decide) rfl (ci := 9) rfl) wg_744 wg_10 wg_741 wg_743 ws_X9_crossed cw_X9_crossed ⟨Nat.le_of_ble_eq_true rfl, Nat.le_of_ble_eq_true rfl⟩ rfl rfl (Nat.le_of_ble_eq_true rfl) dX9_of_78 ?_
      exact z_iretW B hP hS ⟨hF, by rw [if_neg (by omega), ec]; unfold kOf; rw [if_neg (by omega), if_neg (by omega), if_neg (by omega), if_pos (by omega)]⟩ dX9_of_81
    by_cases hc6 : what = 4
    · refine z_tsI C 4 (by omega) (by omega) rfl 82 (by decide) dX9_of_15 ?_
      refine z_aln C hl 0 rfl dX9_of_82 ?_
      refine z_iln C hl 1 rfl dX9_of_83 ?_
      refine z_aln C hl 0 rfl dX9_of_84 ?_
      refine gf_X9_94 C hP dX9_of_85 ?_
      refine z_vRO C hP hl (c_X9_crossed (σ := τ11) r (τ11 44 7) hIt hRt (by omega) (by omega)) (z_recv C hP (i := 44) (by decide) rfl (ci := 9) rfl) wg_744 wg_10 wg_741 wg_743 ws_X9_crossed cw_X9_crossed ⟨Nat.le_of_ble_eq_true rfl, Nat.le_of_ble_eq_true rfl⟩ rfl rfl (Nat.le_of_ble_eq_true rfl) dX9_of_88 ?_
      exact z_iretW B hP hS ⟨hF, by rw [if_neg (by omega), ec, e7, hh.2.1]; unfold kOf; rw [if_neg (by omega), if_neg (by omega), if_neg (by omega), if_neg (by omega), if_pos (by omega)]; rfl⟩ dX9_of_91
    by_cases hc7 : what = 5
    · refine z_tsI C 5 (by omega) (by omega) rfl 92 (by decide) dX9_of_15 ?_
      refine z_aln C hl 0 rfl dX9_of_92 ?_
      refine z_iln C hl 1 rfl dX9_of_93 ?_
      refine z_vRO C hP hl (c_X9_isHidden (σ := τ11) r hIt hRt (by omega) hA) (z_recv C hP (i := 44) (by decide) rfl (ci := 9) rfl) wg_748 wg_10 wg_745 wg_747 ws_X9_isHidden cw_X9_isHidden ⟨Nat.le_of_ble_eq_true rfl, Nat.le_of_ble_eq_true rfl⟩ rfl rfl (Nat.le_of_ble_eq_true rfl) dX9_of_94 ?_
      refine z_bif_eq C 104 (by decide) dX9_of_97 (fun w8 => ?_) (fun w8 => ?_)
      · skip
        refine z_ic C dX9_of_104 ?_
        exact z_iretW B hP hS ⟨hF, by rw [if_neg (by omega)]; unfold kOf; rw [if_neg (by omega), if_neg (by omega), if_neg (by omega), if_neg (by omega), if_neg (by omega), if_pos (by omega)]; rw [← ec, if_neg w8]⟩ dX9_of_105
      · skip
        refine z_ic C dX9_of_100 ?_
        refine z_goto C 105 (by decide) dX9_of_101 ?_
        exact z_iretW B hP hS ⟨hF, by rw [if_neg (by omega)]; unfold kOf; rw [if_neg (by omega), if_neg (by omega), if_neg (by omega), if_neg (by omega), if_neg (by omega), if_pos (by omega)]; rw [← ec, if_pos w8]⟩ dX9_of_105
    by_cases hc9 : what = 6
    · refine z_tsI C 6 (by omega) (by omega) rfl 106 (by decide) dX9_of_15 ?_
      refine z_aln C hl 0 rfl dX9_of_106 ?_
      refine z_iln C hl 1 rfl dX9_of_107 ?_
      refine z_vRO C hP hl (c_X9_hearsOf (σ := τ11) r hIt hRt (by omega)) (z_recv C hP (i := 44) (by decide) rfl (ci := 9) rfl) wg_756 wg_10 wg_753 wg_755 ws_X9_hearsOf cw_X9_hearsOf ⟨Nat.le_of_ble_eq_true rfl, Nat.le_of_ble_eq_true rfl⟩ rfl rfl (Nat.le_of_ble_eq_true rfl) dX9_of_108 ?_
      exact z_iretW B hP hS ⟨hF, by rw [if_neg (by omega), ec]; unfold kOf; rw [if_neg (by omega), if_neg (by omega), if_neg (by omega), if_neg (by omega), if_neg (by omega), if_neg (by omega), if_pos (by omega)]⟩ dX9_of_111
    by_cases hc10 : what = 7
    · refine z_tsI C 7 (by omega) (by omega) rfl 112 (by decide) dX9_of_15 ?_
      refine z_aln C hl 0 rfl dX9_of_112 ?_
      refine gf_X9_26 C hP dX9_of_113 ?_
      refine z_iln C hl 1 rfl dX9_of_116 ?_
      refine z_iald C hP (i := 50) (by decide) (fun _ => rfl) (by omega) (by decide) dX9_of_117 ?_
      refine z_if_ge C 126 (by decide) (by omega) dX9_of_118 (fun w11 => ?_) (fun w11 => ?_)
      · skip
        refine z_aln C hl 0 rfl dX9_of_126 ?_
        refine gf_X9_26 C hP dX9_of_127 ?_
        refine z_iln C hl 1 rfl dX9_of_130 ?_
        refine z_iald C hP (i := 50) (by decide) (fun _ => rfl) (by omega) (by decide) dX9_of_131 ?_
        refine z_aln C hl 0 rfl dX9_of_132 ?_
        refine z_iln C hl 1 rfl dX9_of_133 ?_
        refine z_vRO C hP hl (c_X9_hearsOf (σ := τ11) r hIt hRt (by omega)) (z_recv C hP (i := 44) (by decide) rfl (ci := 9) rfl) wg_756 wg_10 wg_753 wg_755 ws_X9_hearsOf cw_X9_hearsOf ⟨Nat.le_of_ble_eq_true rfl, Nat.le_of_ble_eq_true rfl⟩ rfl rfl (Nat.le_of_ble_eq_true rfl) dX9_of_134 ?_
        refine z_aln C hl 0 rfl dX9_of_137 ?_
        refine gf_X9_62 C hP dX9_of_138 ?_
        refine z_iadd C dX9_of_141 ?_
        refine z_icmp_ge C 149 (by decide) (by omega) (by omega) dX9_of_142 (fun w12 => ?_) (fun w12 => ?_)
        · skip
          refine z_ic C dX9_of_149 ?_
          exact z_iretW B hP hS ⟨hF, by rw [if_neg (by omega)]; unfold kOf; rw [if_neg (by omega), if_neg (by omega), if_neg (by omega), if_neg (by omega), if_neg (by omega), if_neg (by omega), if_neg (by omega), if_pos (by omega)]; rw [eea]; split <;> (try split) <;> omega⟩ dX9_of_150
        · skip
          refine z_ic C dX9_of_145 ?_
          refine z_goto C 150 (by decide) dX9_of_146 ?_
          exact z_iretW B hP hS ⟨hF, by rw [if_neg (by omega)]; unfold kOf; rw [if_neg (by omega), if_neg (by omega), if_neg (by omega), if_neg (by omega), if_neg (by omega), if_neg (by omega), if_neg (by omega), if_pos (by omega)]; rw [eea]; split <;> (try split) <;> omega⟩ dX9_of_150
      · skip
        refine z_bp C dX9_of_121 rfl ?_
        refine z_goto C 150 (by decide) dX9_of_123 ?_
        exact z_iretW B hP hS ⟨hF, by rw [if_neg (by omega)]; unfold kOf; rw [if_neg (by omega), if_neg (by omega), if_neg (by omega), if_neg (by omega), if_neg (by omega), if_neg (by omega), if_neg (by omega), if_pos (by omega)]; rw [eea]; split <;> (try split) <;> omega⟩ dX9_of_150
    refine z_tsO C (by omega) (by omega) 151 (by decide) dX9_of_15 ?_
    refine z_bp C dX9_of_151 rfl ?_
    exact z_iretW B hP hS ⟨hF, by rw [if_neg (by omega)]; unfold kOf; rw [if_neg (by omega), if_neg (by omega), if_neg (by omega), if_neg (by omega), if_neg (by omega), if_neg (by omega), if_neg (by omega), if_neg (by omega)]⟩ dX9_of_153
  · skip
    refine z_ic C dX9_of_8 ?_
    exact z_iretW B hP hS ⟨Fr_rf, by rw [if_pos (by omega)]⟩ dX9_of_9

set_option maxHeartbeats 4000000 in
set_option maxRecDepth 100000 in
theorem c_X9_moved {l : Launch} {D : va_G} {q : Nat → Nat} {g : Nat → ClassId} {σ : Mem} (i : Int) (hI : TI σ) (hR : MR σ) (hr_i : zR i) : RO l yX9_moved cX9_moved 8 (some .int) 3 69 D q g σ [.ref (q 44), .int (zI i)] (some (.int (zI (kMoved (co σ) i)))) := by
  refine RO.intro (plainFor_of_name (by decide)) (Nat.le_of_ble_eq_true rfl) (fun p e s m args below meth c ls B hP hl => ?_)
  have C := B.1
  have hl : lv_has ls 8 [(0, .ref (q 44)), (1, .int (zI i))] := hl
  have h1 := hI.1
  have hIc := TI_cc hI
  have e12 : co σ 1 2 = σ 1 2 := rfl
  have hh := hR.1
  have h80 := hI.2.1
  refine z_ic C dX9_moved_0 ?_
  refine z_isn C hl [(2, .int (zI 0)), (0, .ref (q 44)), (1, .int (zI i))] (by decide) rfl dX9_moved_1 (fun ls hl => ?_)
  refine z_ic C dX9_moved_2 ?_
  refine z_isn C hl [(3, .int (zI 0)), (2, .int (zI 0)), (0, .ref (q 44)), (1, .int (zI i))] (by decide) rfl dX9_moved_3 (fun ls hl => ?_)
  have L4 : ∀ (n : Nat) (f : Int) (a : Int)  , σ 1 2 - a < (n : Int) → (0 ≤ a ∧ a ≤ σ 1 2) → (0 ≤ f ∧ f ≤ 6 * a) → (kMoved (co σ) i = mvA (co σ) i (co σ 1 2 - a).toNat a f) → ∀ ls : Array Slot, lv_has ls 8 [(0, .ref (q 44)), (1, .int (zI i)), (2, .int (zI f)), (3, .int (zI a))] → WO p l e 3 69 s m args below meth c (some (.int (zI (kMoved (co σ) i)))) (F0 m 4 ls []) := by
    intro n
    induction n with
    | zero => intro f a hm ha hf he ls hl; exact False.elim (by omega)
    | succ n ih =>
      intro f a hm ha hf he ls hl
      have ih4 := ih; clear ih
      refine z_iln C hl 3 rfl dX9_moved_4 ?_
      refine z_aln C hl 0 rfl dX9_moved_5 ?_
      refine gf_X9_66 C hP dX9_moved_6 ?_
      refine z_icmp_ge C 134 (by decide) (by omega) (by omega) dX9_moved_9 (fun w1 => ?_) (fun w1 => ?_)
      · skip
        refine z_iln C hl 1 rfl dX9_moved_134 ?_
        refine z_ic C dX9_moved_135 ?_
        refine z_icmp_ne C 143 (by decide) (by omega) (by omega) dX9_moved_136 (fun w2 => ?_) (fun w2 => ?_)
        · skip
          refine z_bp C dX9_moved_143 rfl ?_
          exact z_iret B (by rw [he, show (co σ 1 2 - a).toNat = 0 by omega, mvA]; split <;> omega) dX9_moved_145
        · skip
          refine z_iln C hl 2 rfl dX9_moved_139 ?_
          refine z_goto C 145 (by decide) dX9_moved_140 ?_
          exact z_iret B (by rw [he, show (co σ 1 2 - a).toNat = 0 by omega, mvA]; split <;> omega) dX9_moved_145
      · skip
        refine z_iln C hl 3 rfl dX9_moved_12 ?_
        refine z_ic C dX9_moved_13 ?_
        refine z_iadd C dX9_moved_14 ?_
        refine z_ist C hl [(4, .int (zI (a + 1))), (0, .ref (q 44)), (1, .int (zI i)), (2, .int (zI f)), (3, .int (zI a))] (by decide) rfl dX9_moved_15 (fun ls hl => ?_)
        have L17 : ∀ (n : Nat) (f : Int) (b : Int)  , σ 1 2 - b < (n : Int) → (a + 1 ≤ b ∧ b ≤ σ 1 2) → (0 ≤ f ∧ f ≤ 6 * a + b) → (kMoved (co σ) i = mvK (mvB (co σ) i a (co σ 1 2 - b).toNat b f) (mvA (co σ) i (co σ 1 2 - (a + 1)).toNat (a + 1))) → ∀ ls : Array Slot, lv_has ls 8 [(0, .ref (q 44)), (1, .int (zI i)), (2, .int (zI f)), (3, .int (zI a)), (4, .int (zI b))] → WO p l e 3 69 s m args below meth c (some (.int (zI (kMoved (co σ) i)))) (F0 m 17 ls []) := by
          intro n
          induction n with
          | zero => intro f b hm hb hf2 he2 ls hl; exact False.elim (by omega)
          | succ n ih =>
            intro f b hm hb hf2 he2 ls hl
            have ih17 := ih; clear ih
            refine z_il C hl 4 rfl dX9_moved_17 ?_
            refine z_aln C hl 0 rfl dX9_moved_19 ?_
            refine gf_X9_66 C hP dX9_moved_20 ?_
            refine z_icmp_ge C 128 (by decide) (by omega) (by omega) dX9_moved_23 (fun w3 => ?_) (fun w3 => ?_)
            · skip
              refine z_iinc C hl 3 rfl [(3, .int (zI (a + 1))), (0, .ref (q 44)), (1, .int (zI i)), (2, .int (zI f)), (4, .int (zI b))] (by decide) rfl dX9_moved_128 (fun ls hl => ?_)
              refine z_goto C 4 (by decide) dX9_moved_131 ?_
              exact ih4 f (a + 1) (by omega) (by omega) (by omega) (by rw [he2, show (co σ 1 2 - b).toNat = 0 by omega]; rfl) ls (lv_sub hl [1, 2, 3, 0] rfl)
            · skip
              rw [show (co σ 1 2 - b).toNat = (co σ 1 2 - (b + 1)).toNat + 1 by omega, mvB] at he2
              have hc1 := kCr_b hIc (j := a.toNat) (by omega) (lean := 0) (by omega)
              have hc2 := kCr_b hIc (j := b.toNat) (by omega) (lean := 0) (by omega)
              have hc3 := kLn_b hIc (lane := a) (by omega)
              have hc4 := kLn_b hIc (lane := b) (by omega)
              have ea : kCr (co σ) a.toNat (σ 44 7) = kLn (co σ) a := by rw [hh.2.1]; rfl
              have eb : kCr (co σ) b.toNat (σ 44 7) = kLn (co σ) b := by rw [hh.2.1]; rfl
              have hm1 := mN_b hc1
              have hm2 := mN_b hc2
              have hm3 := mN_b hc3
              have hm4 := mN_b hc4
              have hn3 : -6 ≤ mN (kCr (co σ) a.toNat (σ 44 7)) ∧ mN (kCr (co σ) a.toNat (σ 44 7)) ≤ 9999999 := by rw [ea]; exact hm3
              have hn4 : -6 ≤ mN (kCr (co σ) b.toNat (σ 44 7)) ∧ mN (kCr (co σ) b.toNat (σ 44 7)) ≤ 9999999 := by rw [eb]; exact hm4
              have ht1 := kCr_has hIc (j := a.toNat) (by omega) (lean := 0) (by omega)
              have ht2 := kCr_has hIc (j := b.toNat) (by omega) (lean := 0) (by omega)
              have ht3 := kCr_has hIc (j := a.toNat) (by omega) (lean := co σ 8 0) hI.2.1.1
              have ht4 := kCr_has hIc (j := b.toNat) (by omega) (lean := co σ 8 0) hI.2.1.1
              have hs1 := sgn_b (mN (kCr (co σ) a.toNat 0) - mN (kCr (co σ) b.toNat 0))
              have hs2 := sgn_b (mN (kCr (co σ) a.toNat (σ 44 7)) - mN (kCr (co σ) b.toNat (σ 44 7)))
              refine z_aln C hl 0 rfl dX9_moved_26 ?_
              refine z_iln C hl 3 rfl dX9_moved_27 ?_
              refine z_vRO C hP hl (c_X9_hasTorso (σ := σ) a hI hR (by omega)) (z_recv C hP (i := 44) (by decide) rfl (ci := 9) rfl) wg_752 wg_10 wg_749 wg_751 ws_X9_hasTorso cw_X9_hasTorso ⟨Nat.le_of_ble_eq_true rfl, Nat.le_of_ble_eq_true rfl⟩ rfl rfl (Nat.le_of_ble_eq_true rfl) dX9_moved_28 ?_
              refine z_bif_eq C 47 (by decide) dX9_moved_31 (fun w4 => ?_) (fun w4 => ?_)
              · skip
                refine z_ic C dX9_moved_47 ?_
                refine z_ist C hl [(5, .int (zI 0)), (0, .ref (q 44)), (1, .int (zI i)), (2, .int (zI f)), (3, .int (zI a)), (4, .int (zI b))] (by decide) rfl dX9_moved_48 (fun ls hl => ?_)
                refine z_aln C hl 1 rfl dX9_moved_50 ?_
                refine z_iln C hl 4 rfl dX9_moved_51 ?_
                refine z_ic C dX9_moved_52 ?_
                refine z_vRO C hP hl (c_X9_crossed (σ := σ) a 0 hI hR (by omega) (by omega)) (z_recv C hP (i := 44) (by decide) rfl (ci := 9) rfl) wg_744 wg_10 wg_741 wg_743 ws_X9_crossed cw_X9_crossed ⟨Nat.le_of_ble_eq_true rfl, Nat.le_of_ble_eq_true rfl⟩ rfl rfl (Nat.le_of_ble_eq_true rfl) dX9_moved_53 ?_
                refine z_aln C hl 1 rfl dX9_moved_56 ?_
                refine z_il C hl 5 rfl dX9_moved_57 ?_
                refine z_ic C dX9_moved_59 ?_
                refine z_vRO C hP hl (c_X9_crossed (σ := σ) b 0 hI hR (by omega) (by omega)) (z_recv C hP (i := 44) (by decide) rfl (ci := 9) rfl) wg_744 wg_10 wg_741 wg_743 ws_X9_crossed cw_X9_crossed ⟨Nat.le_of_ble_eq_true rfl, Nat.le_of_ble_eq_true rfl⟩ rfl rfl (Nat.le_of_ble_eq_true rfl) dX9_moved_60 ?_
                refine z_isub C dX9_moved_63 ?_
                refine z_sRO C hP hl (c_X9_sign (σ := σ) ((mN (kCr (co σ) a.toNat 0)) - (mN (kCr (co σ) b.toNat 0))) (by omega))  wg_763 wg_10 wg_761 wg_762 cw_X9_sign ⟨Nat.le_of_ble_eq_true rfl, Nat.le_of_ble_eq_true rfl⟩ rfl rfl (Nat.le_of_ble_eq_true rfl) dX9_moved_64 ?_
                refine z_ist C hl [(6, .int (zI (sgn ((mN (kCr (co σ) a.toNat 0)) - (mN (kCr (co σ) b.toNat 0)))))), (5, .int (zI 0)), (0, .ref (q 44)), (1, .int (zI i)), (2, .int (zI f)), (3, .int (zI a)), (4, .int (zI b))] (by decide) rfl dX9_moved_67 (fun ls hl => ?_)
                refine z_aln C hl 2 rfl dX9_moved_69 ?_
                refine z_iln C hl 5 rfl dX9_moved_70 ?_
                refine z_aln C hl 2 rfl dX9_moved_71 ?_
                refine gf_X9_94 C hP dX9_moved_72 ?_
                refine z_vRO C hP hl (c_X9_crossed (σ := σ) a (σ 44 7) hI hR (by omega) (by omega)) (z_recv C hP (i := 44) (by decide) rfl (ci := 9) rfl) wg_744 wg_10 wg_741 wg_743 ws_X9_crossed cw_X9_crossed ⟨Nat.le_of_ble_eq_true rfl, Nat.le_of_ble_eq_true rfl⟩ rfl rfl (Nat.le_of_ble_eq_true rfl) dX9_moved_75 ?_
                refine z_aln C hl 2 rfl dX9_moved_78 ?_
                refine z_il C hl 6 rfl dX9_moved_79 ?_
                refine z_aln C hl 2 rfl dX9_moved_81 ?_
                refine gf_X9_94 C hP dX9_moved_82 ?_
                refine z_vRO C hP hl (c_X9_crossed (σ := σ) b (σ 44 7) hI hR (by omega) (by omega)) (z_recv C hP (i := 44) (by decide) rfl (ci := 9) rfl) wg_744 wg_10 wg_741 wg_743 ws_X9_crossed cw_X9_crossed ⟨Nat.le_of_ble_eq_true rfl, Nat.le_of_ble_eq_true rfl⟩ rfl rfl (Nat.le_of_ble_eq_true rfl) dX9_moved_85 ?_
                refine z_isub C dX9_moved_88 ?_
                refine z_sRO C hP hl (c_X9_sign (σ := σ) ((mN (kCr (co σ) a.toNat (σ 44 7))) - (mN (kCr (co σ) b.toNat (σ 44 7)))) (by omega))  wg_763 wg_10 wg_761 wg_762 cw_X9_sign ⟨Nat.le_of_ble_eq_true rfl, Nat.le_of_ble_eq_true rfl⟩ rfl rfl (Nat.le_of_ble_eq_true rfl) dX9_moved_89 ?_
                refine z_ist C hl [(7, .int (zI (sgn ((mN (kCr (co σ) a.toNat (σ 44 7))) - (mN (kCr (co σ) b.toNat (σ 44 7))))))), (6, .int (zI (sgn ((mN (kCr (co σ) a.toNat 0)) - (mN (kCr (co σ) b.toNat 0)))))), (5, .int (zI 0)), (0, .ref (q 44)), (1, .int (zI i)), (2, .int (zI f)), (3, .int (zI a)), (4, .int (zI b))] (by decide) rfl dX9_moved_92 (fun ls hl => ?_)
                refine z_il C hl 2 rfl dX9_moved_94 ?_
                refine z_if_eq C 122 (by decide) (by omega) dX9_moved_96 (fun _ => ?_) (fun w5 => False.elim (by omega))
                have hmv : ¬ kMv (co σ) a b = true := by unfold kMv; simp only [Bool.and_eq_true, decide_eq_true_eq]; exact fun h => w4 h.1.1
                refine z_iinc C hl 7 rfl [(4, .int (zI (b + 1))), (7, .int (zI (sgn ((mN (kCr (co σ) a.toNat (σ 44 7))) - (mN (kCr (co σ) b.toNat (σ 44 7))))))), (6, .int (zI (sgn ((mN (kCr (co σ) a.toNat 0)) - (mN (kCr (co σ) b.toNat 0)))))), (5, .int (zI 0)), (0, .ref (q 44)), (1, .int (zI i)), (2, .int (zI f)), (3, .int (zI a))] (by decide) rfl dX9_moved_122 (fun ls hl => ?_)
                refine z_goto C 17 (by decide) dX9_moved_125 ?_
                exact ih17 f (b + 1) (by omega) (by omega) (by omega) (by rw [he2, if_neg hmv]) ls (lv_sub hl [4, 5, 6, 7, 0] rfl)
              · skip
                refine z_aln C hl 0 rfl dX9_moved_34 ?_
                refine z_il C hl 4 rfl dX9_moved_35 ?_
                refine z_vRO C hP hl (c_X9_hasTorso (σ := σ) b hI hR (by omega)) (z_recv C hP (i := 44) (by decide) rfl (ci := 9) rfl) wg_752 wg_10 wg_749 wg_751 ws_X9_hasTorso cw_X9_hasTorso ⟨Nat.le_of_ble_eq_true rfl, Nat.le_of_ble_eq_true rfl⟩ rfl rfl (Nat.le_of_ble_eq_true rfl) dX9_moved_37 ?_
                refine z_bif_eq C 47 (by decide) dX9_moved_40 (fun w6 => ?_) (fun w6 => ?_)
                · skip
                  refine z_ic C dX9_moved_47 ?_
                  refine z_ist C hl [(5, .int (zI 0)), (0, .ref (q 44)), (1, .int (zI i)), (2, .int (zI f)), (3, .int (zI a)), (4, .int (zI b))] (by decide) rfl dX9_moved_48 (fun ls hl => ?_)
                  refine z_aln C hl 1 rfl dX9_moved_50 ?_
                  refine z_iln C hl 4 rfl dX9_moved_51 ?_
                  refine z_ic C dX9_moved_52 ?_
                  refine z_vRO C hP hl (c_X9_crossed (σ := σ) a 0 hI hR (by omega) (by omega)) (z_recv C hP (i := 44) (by decide) rfl (ci := 9) rfl) wg_744 wg_10 wg_741 wg_743 ws_X9_crossed cw_X9_crossed ⟨Nat.le_of_ble_eq_true rfl, Nat.le_of_ble_eq_true rfl⟩ rfl rfl (Nat.le_of_ble_eq_true rfl) dX9_moved_53 ?_
                  refine z_aln C hl 1 rfl dX9_moved_56 ?_
                  refine z_il C hl 5 rfl dX9_moved_57 ?_
                  refine z_ic C dX9_moved_59 ?_
                  refine z_vRO C hP hl (c_X9_crossed (σ := σ) b 0 hI hR (by omega) (by omega)) (z_recv C hP (i := 44) (by decide) rfl (ci := 9) rfl) wg_744 wg_10 wg_741 wg_743 ws_X9_crossed cw_X9_crossed ⟨Nat.le_of_ble_eq_true rfl, Nat.le_of_ble_eq_true rfl⟩ rfl rfl (Nat.le_of_ble_eq_true rfl) dX9_moved_60 ?_
                  refine z_isub C dX9_moved_63 ?_
                  refine z_sRO C hP hl (c_X9_sign (σ := σ) ((mN (kCr (co σ) a.toNat 0)) - (mN (kCr (co σ) b.toNat 0))) (by omega))  wg_763 wg_10 wg_761 wg_762 cw_X9_sign ⟨Nat.le_of_ble_eq_true rfl, Nat.le_of_ble_eq_true rfl⟩ rfl rfl (Nat.le_of_ble_eq_true rfl) dX9_moved_64 ?_
                  refine z_ist C hl [(6, .int (zI (sgn ((mN (kCr (co σ) a.toNat 0)) - (mN (kCr (co σ) b.toNat 0)))))), (5, .int (zI 0)), (0, .ref (q 44)), (1, .int (zI i)), (2, .int (zI f)), (3, .int (zI a)), (4, .int (zI b))] (by decide) rfl dX9_moved_67 (fun ls hl => ?_)
                  refine z_aln C hl 2 rfl dX9_moved_69 ?_
                  refine z_iln C hl 5 rfl dX9_moved_70 ?_
                  refine z_aln C hl 2 rfl dX9_moved_71 ?_
                  refine gf_X9_94 C hP dX9_moved_72 ?_
                  refine z_vRO C hP hl (c_X9_crossed (σ := σ) a (σ 44 7) hI hR (by omega) (by omega)) (z_recv C hP (i := 44) (by decide) rfl (ci := 9) rfl) wg_744 wg_10 wg_741 wg_743 ws_X9_crossed cw_X9_crossed ⟨Nat.le_of_ble_eq_true rfl, Nat.le_of_ble_eq_true rfl⟩ rfl rfl (Nat.le_of_ble_eq_true rfl) dX9_moved_75 ?_
                  refine z_aln C hl 2 rfl dX9_moved_78 ?_
                  refine z_il C hl 6 rfl dX9_moved_79 ?_
                  refine z_aln C hl 2 rfl dX9_moved_81 ?_
                  refine gf_X9_94 C hP dX9_moved_82 ?_
                  refine z_vRO C hP hl (c_X9_crossed (σ := σ) b (σ 44 7) hI hR (by omega) (by omega)) (z_recv C hP (i := 44) (by decide) rfl (ci := 9) rfl) wg_744 wg_10 wg_741 wg_743 ws_X9_crossed cw_X9_crossed ⟨Nat.le_of_ble_eq_true rfl, Nat.le_of_ble_eq_true rfl⟩ rfl rfl (Nat.le_of_ble_eq_true rfl) dX9_moved_85 ?_
                  refine z_isub C dX9_moved_88 ?_
                  refine z_sRO C hP hl (c_X9_sign (σ := σ) ((mN (kCr (co σ) a.toNat (σ 44 7))) - (mN (kCr (co σ) b.toNat (σ 44 7)))) (by omega))  wg_763 wg_10 wg_761 wg_762 cw_X9_sign ⟨Nat.le_of_ble_eq_true rfl, Nat.le_of_ble_eq_true rfl⟩ rfl rfl (Nat.le_of_ble_eq_true rfl) dX9_moved_89 ?_
                  refine z_ist C hl [(7, .int (zI (sgn ((mN (kCr (co σ) a.toNat (σ 44 7))) - (mN (kCr (co σ) b.toNat (σ 44 7))))))), (6, .int (zI (sgn ((mN (kCr (co σ) a.toNat 0)) - (mN (kCr (co σ) b.toNat 0)))))), (5, .int (zI 0)), (0, .ref (q 44)), (1, .int (zI i)), (2, .int (zI f)), (3, .int (zI a)), (4, .int (zI b))] (by decide) rfl dX9_moved_92 (fun ls hl => ?_)
                  refine z_il C hl 2 rfl dX9_moved_94 ?_
                  refine z_if_eq C 122 (by decide) (by omega) dX9_moved_96 (fun _ => ?_) (fun w7 => False.elim (by omega))
                  have hmv : ¬ kMv (co σ) a b = true := by unfold kMv; simp only [Bool.and_eq_true, decide_eq_true_eq]; exact fun h => w6 h.1.2
                  refine z_iinc C hl 7 rfl [(4, .int (zI (b + 1))), (7, .int (zI (sgn ((mN (kCr (co σ) a.toNat (σ 44 7))) - (mN (kCr (co σ) b.toNat (σ 44 7))))))), (6, .int (zI (sgn ((mN (kCr (co σ) a.toNat 0)) - (mN (kCr (co σ) b.toNat 0)))))), (5, .int (zI 0)), (0, .ref (q 44)), (1, .int (zI i)), (2, .int (zI f)), (3, .int (zI a))] (by decide) rfl dX9_moved_122 (fun ls hl => ?_)
                  refine z_goto C 17 (by decide) dX9_moved_125 ?_
                  exact ih17 f (b + 1) (by omega) (by omega) (by omega) (by rw [he2, if_neg hmv]) ls (lv_sub hl [4, 5, 6, 7, 0] rfl)
                · skip
                  refine z_ic C dX9_moved_43 ?_
                  refine z_goto C 48 (by decide) dX9_moved_44 ?_
                  refine z_ist C hl [(5, .int (zI 1)), (0, .ref (q 44)), (1, .int (zI i)), (2, .int (zI f)), (3, .int (zI a)), (4, .int (zI b))] (by decide) rfl dX9_moved_48 (fun ls hl => ?_)
                  refine z_aln C hl 1 rfl dX9_moved_50 ?_
                  refine z_iln C hl 4 rfl dX9_moved_51 ?_
                  refine z_ic C dX9_moved_52 ?_
                  refine z_vRO C hP hl (c_X9_crossed (σ := σ) a 0 hI hR (by omega) (by omega)) (z_recv C hP (i := 44) (by decide) rfl (ci := 9) rfl) wg_744 wg_10 wg_741 wg_743 ws_X9_crossed cw_X9_crossed ⟨Nat.le_of_ble_eq_true rfl, Nat.le_of_ble_eq_true rfl⟩ rfl rfl (Nat.le_of_ble_eq_true rfl) dX9_moved_53 ?_
                  refine z_aln C hl 1 rfl dX9_moved_56 ?_
                  refine z_il C hl 5 rfl dX9_moved_57 ?_
                  refine z_ic C dX9_moved_59 ?_
                  refine z_vRO C hP hl (c_X9_crossed (σ := σ) b 0 hI hR (by omega) (by omega)) (z_recv C hP (i := 44) (by decide) rfl (ci := 9) rfl) wg_744 wg_10 wg_741 wg_743 ws_X9_crossed cw_X9_crossed ⟨Nat.le_of_ble_eq_true rfl, Nat.le_of_ble_eq_true rfl⟩ rfl rfl (Nat.le_of_ble_eq_true rfl) dX9_moved_60 ?_
                  refine z_isub C dX9_moved_63 ?_
                  refine z_sRO C hP hl (c_X9_sign (σ := σ) ((mN (kCr (co σ) a.toNat 0)) - (mN (kCr (co σ) b.toNat 0))) (by omega))  wg_763 wg_10 wg_761 wg_762 cw_X9_sign ⟨Nat.le_of_ble_eq_true rfl, Nat.le_of_ble_eq_true rfl⟩ rfl rfl (Nat.le_of_ble_eq_true rfl) dX9_moved_64 ?_
                  refine z_ist C hl [(6, .int (zI (sgn ((mN (kCr (co σ) a.toNat 0)) - (mN (kCr (co σ) b.toNat 0)))))), (5, .int (zI 1)), (0, .ref (q 44)), (1, .int (zI i)), (2, .int (zI f)), (3, .int (zI a)), (4, .int (zI b))] (by decide) rfl dX9_moved_67 (fun ls hl => ?_)
                  refine z_aln C hl 2 rfl dX9_moved_69 ?_
                  refine z_iln C hl 5 rfl dX9_moved_70 ?_
                  refine z_aln C hl 2 rfl dX9_moved_71 ?_
                  refine gf_X9_94 C hP dX9_moved_72 ?_
                  refine z_vRO C hP hl (c_X9_crossed (σ := σ) a (σ 44 7) hI hR (by omega) (by omega)) (z_recv C hP (i := 44) (by decide) rfl (ci := 9) rfl) wg_744 wg_10 wg_741 wg_743 ws_X9_crossed cw_X9_crossed ⟨Nat.le_of_ble_eq_true rfl, Nat.le_of_ble_eq_true rfl⟩ rfl rfl (Nat.le_of_ble_eq_true rfl) dX9_moved_75 ?_
                  refine z_aln C hl 2 rfl dX9_moved_78 ?_
                  refine z_il C hl 6 rfl dX9_moved_79 ?_
                  refine z_aln C hl 2 rfl dX9_moved_81 ?_
                  refine gf_X9_94 C hP dX9_moved_82 ?_
                  refine z_vRO C hP hl (c_X9_crossed (σ := σ) b (σ 44 7) hI hR (by omega) (by omega)) (z_recv C hP (i := 44) (by decide) rfl (ci := 9) rfl) wg_744 wg_10 wg_741 wg_743 ws_X9_crossed cw_X9_crossed ⟨Nat.le_of_ble_eq_true rfl, Nat.le_of_ble_eq_true rfl⟩ rfl rfl (Nat.le_of_ble_eq_true rfl) dX9_moved_85 ?_
                  refine z_isub C dX9_moved_88 ?_
                  refine z_sRO C hP hl (c_X9_sign (σ := σ) ((mN (kCr (co σ) a.toNat (σ 44 7))) - (mN (kCr (co σ) b.toNat (σ 44 7)))) (by omega))  wg_763 wg_10 wg_761 wg_762 cw_X9_sign ⟨Nat.le_of_ble_eq_true rfl, Nat.le_of_ble_eq_true rfl⟩ rfl rfl (Nat.le_of_ble_eq_true rfl) dX9_moved_89 ?_
                  refine z_ist C hl [(7, .int (zI (sgn ((mN (kCr (co σ) a.toNat (σ 44 7))) - (mN (kCr (co σ) b.toNat (σ 44 7))))))), (6, .int (zI (sgn ((mN (kCr (co σ) a.toNat 0)) - (mN (kCr (co σ) b.toNat 0)))))), (5, .int (zI 1)), (0, .ref (q 44)), (1, .int (zI i)), (2, .int (zI f)), (3, .int (zI a)), (4, .int (zI b))] (by decide) rfl dX9_moved_92 (fun ls hl => ?_)
                  refine z_il C hl 2 rfl dX9_moved_94 ?_
                  refine z_if_eq C 122 (by decide) (by omega) dX9_moved_96 (fun w8 => False.elim (by omega)) (fun _ => ?_)
                  have et : sgn (mN (kCr (co σ) a.toNat 0) - mN (kCr (co σ) b.toNat 0)) = sgn (kCr (co σ) a.toNat 0 - kCr (co σ) b.toNat 0) := sgn_mN (ht1.mpr w4) (ht2.mpr w6)
                  have el : sgn (mN (kCr (co σ) a.toNat (σ 44 7)) - mN (kCr (co σ) b.toNat (σ 44 7))) = sgn (kLn (co σ) a - kLn (co σ) b) := by rw [ea, eb]; exact sgn_mN (ht3.mpr w4) (ht4.mpr w6)
                  refine z_il C hl 1 rfl dX9_moved_99 ?_
                  refine z_il C hl 0 rfl dX9_moved_101 ?_
                  refine z_icmp_eq C 122 (by decide) (by omega) (by omega) dX9_moved_103 (fun w9 => ?_) (fun w9 => ?_)
                  · skip
                    have hmv : ¬ kMv (co σ) a b = true := by unfold kMv; simp only [Bool.and_eq_true, decide_eq_true_eq]; exact fun h => h.2 (by rw [← et, ← el]; omega)
                    refine z_iinc C hl 7 rfl [(4, .int (zI (b + 1))), (7, .int (zI (sgn ((mN (kCr (co σ) a.toNat (σ 44 7))) - (mN (kCr (co σ) b.toNat (σ 44 7))))))), (6, .int (zI (sgn ((mN (kCr (co σ) a.toNat 0)) - (mN (kCr (co σ) b.toNat 0)))))), (5, .int (zI 1)), (0, .ref (q 44)), (1, .int (zI i)), (2, .int (zI f)), (3, .int (zI a))] (by decide) rfl dX9_moved_122 (fun ls hl => ?_)
                    refine z_goto C 17 (by decide) dX9_moved_125 ?_
                    exact ih17 f (b + 1) (by omega) (by omega) (by omega) (by rw [he2, if_neg hmv]) ls (lv_sub hl [4, 5, 6, 7, 0] rfl)
                  · skip
                    have hmv : kMv (co σ) a b = true := by unfold kMv; simp only [Bool.and_eq_true, decide_eq_true_eq]; exact ⟨⟨w4, w6⟩, by rw [← et, ← el]; omega⟩
                    refine z_iln C hl 5 rfl dX9_moved_106 ?_
                    refine z_iln C hl 4 rfl dX9_moved_107 ?_
                    refine z_icmp_ne C 119 (by decide) (by omega) (by omega) dX9_moved_108 (fun w10 => ?_) (fun w10 => ?_)
                    · skip
                      refine z_iinc C hl 5 rfl [(2, .int (zI (f + 1))), (7, .int (zI (sgn ((mN (kCr (co σ) a.toNat (σ 44 7))) - (mN (kCr (co σ) b.toNat (σ 44 7))))))), (6, .int (zI (sgn ((mN (kCr (co σ) a.toNat 0)) - (mN (kCr (co σ) b.toNat 0)))))), (5, .int (zI 1)), (0, .ref (q 44)), (1, .int (zI i)), (3, .int (zI a)), (4, .int (zI b))] (by decide) rfl dX9_moved_119 (fun ls hl => ?_)
                      refine z_iinc C hl 7 rfl [(4, .int (zI (b + 1))), (2, .int (zI (f + 1))), (7, .int (zI (sgn ((mN (kCr (co σ) a.toNat (σ 44 7))) - (mN (kCr (co σ) b.toNat (σ 44 7))))))), (6, .int (zI (sgn ((mN (kCr (co σ) a.toNat 0)) - (mN (kCr (co σ) b.toNat 0)))))), (5, .int (zI 1)), (0, .ref (q 44)), (1, .int (zI i)), (3, .int (zI a))] (by decide) rfl dX9_moved_122 (fun ls hl => ?_)
                      refine z_goto C 17 (by decide) dX9_moved_125 ?_
                      exact ih17 (f + 1) (b + 1) (by omega) (by omega) (by omega) (by rw [he2, if_pos hmv, if_neg (by omega)]) ls (lv_sub hl [5, 6, 1, 7, 0] rfl)
                    · skip
                      refine z_bp C dX9_moved_111 rfl ?_
                      refine z_iln C hl 6 rfl dX9_moved_113 ?_
                      refine z_imul C dX9_moved_114 ?_
                      refine z_il C hl 7 rfl dX9_moved_115 ?_
                      refine z_iadd C dX9_moved_117 ?_
                      exact z_iret B (by rw [he2, if_pos hmv, if_pos (by omega)]; rfl) dX9_moved_118
        exact L17 ((σ 1 2 - (a + 1) : Int).toNat + 1) f (a + 1) (by omega) (by omega) (by omega) (by rw [he, show (co σ 1 2 - a).toNat = (co σ 1 2 - (a + 1)).toNat + 1 by omega, mvA]) ls (lv_sub hl [1, 2, 3, 4, 0] rfl)
  exact L4 ((σ 1 2 - 0 : Int).toNat + 1) 0 0 (by omega) (by omega) (by omega) (by rw [Int.sub_zero]; rfl) ls (lv_sub hl [2, 3, 1, 0] rfl)

set_option maxHeartbeats 4000000 in
set_option maxRecDepth 100000 in
theorem c_X9_stretch {l : Launch} {D : va_G} {q : Nat → Nat} {g : Nat → ClassId} {σ : Mem} (r row : Int) (hI : TI σ) (hR : MR σ) (hr_r : zR r) (hr_row : zR row) : RO l yX9_stretch cX9_stretch 5 (some .int) 2 51 D q g σ [.ref (q 44), .int (zI r), .int (zI row)] (some (.int (zI (if ¬ ((0 ≤ r ∧ r < σ 1 2) ∧ (0 ≤ row ∧ row ≤ 5)) then -1 else kStr (co σ) r row)))) := by
  refine RO.intro (plainFor_of_name (by decide)) (Nat.le_of_ble_eq_true rfl) (fun p e s m args below meth c ls B hP hl => ?_)
  have C := B.1
  have hl : lv_has ls 5 [(0, .ref (q 44)), (1, .int (zI r)), (2, .int (zI row))] := hl
  have h1 := hI.1
  have hIc := TI_cc hI
  have e12 : co σ 1 2 = σ 1 2 := rfl
  have hh := hR.1
  refine z_aln C hl 0 rfl dX9_stretch_0 ?_
  refine z_iln C hl 1 rfl dX9_stretch_1 ?_
  refine z_vRO C hP hl (c_X9_isRunner (σ := σ) r (by omega) (by omega)) (z_recv C hP (i := 44) (by decide) rfl (ci := 9) rfl) wg_688 wg_10 wg_685 wg_687 ws_X9_isRunner cw_X9_isRunner ⟨Nat.le_of_ble_eq_true rfl, Nat.le_of_ble_eq_true rfl⟩ rfl rfl (Nat.le_of_ble_eq_true rfl) dX9_stretch_2 ?_
  refine z_bif_eq C 15 (by decide) dX9_stretch_5 (fun w1 => ?_) (fun w1 => ?_)
  · skip
    refine z_ic C dX9_stretch_15 ?_
    exact z_iret B (by rw [if_pos (by omega)]) dX9_stretch_16
  · skip
    refine z_iln C hl 2 rfl dX9_stretch_8 ?_
    refine z_sRO C hP hl (c_X9_isRow (σ := σ) row (by omega))  wg_691 wg_10 wg_689 wg_690 cw_X9_isRow ⟨Nat.le_of_ble_eq_true rfl, Nat.le_of_ble_eq_true rfl⟩ rfl rfl (Nat.le_of_ble_eq_true rfl) dX9_stretch_9 ?_
    refine z_bif_ne C 17 (by decide) dX9_stretch_12 (fun w2 => ?_) (fun w2 => ?_)
    · skip
      have hm := mul_l (a := co σ 8 0) (b := row) hI.2.1.1 (by omega)
      have hb := (TI_cc hI).2.2.1 r.toNat (by omega)
      have hfo := kFO_b hIc (j := r.toNat) (by omega) (what := 1) (row := row) (place := co σ 8 0 * row) (by omega) (by omega)
      have hlo := kLO_b hIc (j := r.toNat) (by omega) (what := 1) (row := row) (place := co σ 8 0 * row) (by omega) (by omega)
      refine z_ic C dX9_stretch_17 ?_
      refine z_isn C hl [(3, .int (zI 0)), (0, .ref (q 44)), (1, .int (zI r)), (2, .int (zI row))] (by decide) rfl dX9_stretch_18 (fun ls hl => ?_)
      refine z_ic C dX9_stretch_19 ?_
      refine z_ist C hl [(4, .int (zI 0)), (3, .int (zI 0)), (0, .ref (q 44)), (1, .int (zI r)), (2, .int (zI row))] (by decide) rfl dX9_stretch_20 (fun ls hl => ?_)
      have L22 : ∀ (n : Nat) (x : Int) (k : Int)  , 300 - k < (n : Int) → (0 ≤ k ∧ k ≤ 300) → (x = max 0 (min (kLO (co σ) r.toNat 1 row (co σ 8 0 * row)) (k - 1) - kFO (co σ) r.toNat 1 row (co σ 8 0 * row) + 1)) → ∀ ls : Array Slot, lv_has ls 5 [(0, .ref (q 44)), (1, .int (zI r)), (2, .int (zI row)), (3, .int (zI x)), (4, .int (zI k))] → WO p l e 2 51 s m args below meth c (some (.int (zI (if ¬ ((0 ≤ r ∧ r < σ 1 2) ∧ (0 ≤ row ∧ row ≤ 5)) then -1 else kStr (co σ) r row)))) (F0 m 22 ls []) := by
        intro n
        induction n with
        | zero => intro x k hm hk hx ls hl; exact False.elim (by omega)
        | succ n ih =>
          intro x k hm hk hx ls hl
          have ih22 := ih; clear ih
          refine z_il C hl 4 rfl dX9_stretch_22 ?_
          refine z_sp C dX9_stretch_24 rfl ?_
          refine z_icmp_ge C 56 (by decide) (by omega) (by omega) dX9_stretch_27 (fun w3 => ?_) (fun w3 => ?_)
          · skip
            refine z_iln C hl 3 rfl dX9_stretch_56 ?_
            exact z_iret B (by rw [if_neg (by omega)]; unfold kStr; omega) dX9_stretch_57
          · skip
            have hcr := cov_rng (T := co σ) (j := r.toNat) (what := 1) (row := row) (col := k) (place := co σ 8 0 * row) hb.2.1.1 (by omega)
            have hrc := rng_cov (T := co σ) (j := r.toNat) (what := 1) (row := row) (col := k) (place := co σ 8 0 * row) hb.2.1.1
            refine z_iln C hl 3 rfl dX9_stretch_30 ?_
            refine z_aln C hl 0 rfl dX9_stretch_31 ?_
            refine z_iln C hl 1 rfl dX9_stretch_32 ?_
            refine z_iln C hl 2 rfl dX9_stretch_33 ?_
            refine z_ic C dX9_stretch_34 ?_
            refine z_il C hl 4 rfl dX9_stretch_35 ?_
            refine z_vRO C hP hl (c_X9_covers (σ := σ) r row 1 k hI hR (by omega) (by omega) (by omega) (by omega)) (z_recv C hP (i := 44) (by decide) rfl (ci := 9) rfl) wg_721 wg_10 wg_718 wg_720 ws_X9_covers cw_X9_covers ⟨Nat.le_of_ble_eq_true rfl, Nat.le_of_ble_eq_true rfl⟩ rfl rfl (Nat.le_of_ble_eq_true rfl) dX9_stretch_37 ?_
            refine z_bif_eq C 47 (by decide) dX9_stretch_40 (fun w4 => ?_) (fun w4 => ?_)
            · skip
              have hq : ¬ (kFO (co σ) r.toNat 1 row (co σ 8 0 * row) ≤ k ∧ k ≤ kLO (co σ) r.toNat 1 row (co σ 8 0 * row)) := fun h => w4 (hrc h)
              refine z_ic C dX9_stretch_47 ?_
              refine z_iadd C dX9_stretch_48 ?_
              refine z_isn C hl [(3, .int (zI (x + 0))), (0, .ref (q 44)), (1, .int (zI r)), (2, .int (zI row)), (4, .int (zI k))] (by decide) rfl dX9_stretch_49 (fun ls hl => ?_)
              refine z_iinc C hl 4 rfl [(4, .int (zI (k + 1))), (3, .int (zI (x + 0))), (0, .ref (q 44)), (1, .int (zI r)), (2, .int (zI row))] (by decide) rfl dX9_stretch_50 (fun ls hl => ?_)
              refine z_goto C 22 (by decide) dX9_stretch_53 ?_
              exact ih22 (x + 0) (k + 1) (by omega) (by omega) (by omega) ls (lv_sub hl [2, 3, 4, 1, 0] rfl)
            · skip
              have hq := hcr w4
              refine z_ic C dX9_stretch_43 ?_
              refine z_goto C 48 (by decide) dX9_stretch_44 ?_
              refine z_iadd C dX9_stretch_48 ?_
              refine z_isn C hl [(3, .int (zI (x + 1))), (0, .ref (q 44)), (1, .int (zI r)), (2, .int (zI row)), (4, .int (zI k))] (by decide) rfl dX9_stretch_49 (fun ls hl => ?_)
              refine z_iinc C hl 4 rfl [(4, .int (zI (k + 1))), (3, .int (zI (x + 1))), (0, .ref (q 44)), (1, .int (zI r)), (2, .int (zI row))] (by decide) rfl dX9_stretch_50 (fun ls hl => ?_)
              refine z_goto C 22 (by decide) dX9_stretch_53 ?_
              exact ih22 (x + 1) (k + 1) (by omega) (by omega) (by omega) ls (lv_sub hl [2, 3, 4, 1, 0] rfl)
      exact L22 ((300 - 0 : Int).toNat + 1) 0 0 (by omega) (by omega) (by omega) ls (lv_sub hl [2, 3, 4, 1, 0] rfl)
    · skip
      refine z_ic C dX9_stretch_15 ?_
      exact z_iret B (by rw [if_pos (by omega)]) dX9_stretch_16

set_option maxHeartbeats 4000000 in
set_option maxRecDepth 100000 in
theorem c_X9_shows {l : Launch} {D : va_G} {q : Nat → Nat} {g : Nat → ClassId} {σ : Mem} (side col row : Int) (hI : TI σ) (hR : MR σ) (hr_side : zR side) (hr_col : zR col) (hr_row : zR row) : RO l yX9_shows cX9_shows 4 (some .int) 3 76 D q g σ [.ref (q 44), .int (zI side), .int (zI col), .int (zI row)] (some (.int (zI (if ¬ (0 ≤ row ∧ row ≤ 5) then -1 else if ¬ ((0 ≤ side ∧ side ≤ 1) ∧ (0 ≤ col ∧ col ≤ 299)) then -2 else kFilm (co σ) side col row)))) := by
  refine RO.intro (plainFor_of_name (by decide)) (Nat.le_of_ble_eq_true rfl) (fun p e s m args below meth c ls B hP hl => ?_)
  have C := B.1
  have hl : lv_has ls 4 [(0, .ref (q 44)), (1, .int (zI side)), (2, .int (zI col)), (3, .int (zI row))] := hl
  refine z_iln C hl 3 rfl dX9_shows_0 ?_
  refine z_sRO C hP hl (c_X9_isRow (σ := σ) row (by omega))  wg_691 wg_10 wg_689 wg_690 cw_X9_isRow ⟨Nat.le_of_ble_eq_true rfl, Nat.le_of_ble_eq_true rfl⟩ rfl rfl (Nat.le_of_ble_eq_true rfl) dX9_shows_1 ?_
  refine z_bif_ne C 9 (by decide) dX9_shows_4 (fun w1 => ?_) (fun w1 => ?_)
  · skip
    refine z_iln C hl 1 rfl dX9_shows_9 ?_
    refine z_i2l C (by omega) dX9_shows_10 ?_
    refine z_lc0 C dX9_shows_11 ?_
    refine z_lc1 C dX9_shows_12 ?_
    refine z_sRO C hP hl (c_X9_in (σ := σ) side 0 1 (by omega) (by omega) (by omega))  wg_679 wg_10 wg_677 wg_678 cw_X9_in ⟨Nat.le_of_ble_eq_true rfl, Nat.le_of_ble_eq_true rfl⟩ rfl rfl (Nat.le_of_ble_eq_true rfl) dX9_shows_13 ?_
    refine z_bif_eq C 41 (by decide) dX9_shows_16 (fun w2 => ?_) (fun w2 => ?_)
    · skip
      refine z_bp C dX9_shows_41 rfl ?_
      exact z_iret B (by rw [if_neg (by omega), if_pos (by omega)]) dX9_shows_43
    · skip
      refine z_iln C hl 2 rfl dX9_shows_19 ?_
      refine z_i2l C (by omega) dX9_shows_20 ?_
      refine z_lc0 C dX9_shows_21 ?_
      refine z_ldc2 C (n := 299) wg_713 (by decide) dX9_shows_22 ?_
      refine z_sRO C hP hl (c_X9_in (σ := σ) col 0 299 (by omega) (by omega) (by omega))  wg_679 wg_10 wg_677 wg_678 cw_X9_in ⟨Nat.le_of_ble_eq_true rfl, Nat.le_of_ble_eq_true rfl⟩ rfl rfl (Nat.le_of_ble_eq_true rfl) dX9_shows_25 ?_
      refine z_bif_eq C 41 (by decide) dX9_shows_28 (fun w3 => ?_) (fun w3 => ?_)
      · skip
        refine z_bp C dX9_shows_41 rfl ?_
        exact z_iret B (by rw [if_neg (by omega), if_pos (by omega)]) dX9_shows_43
      · skip
        refine z_aln C hl 0 rfl dX9_shows_31 ?_
        refine z_iln C hl 1 rfl dX9_shows_32 ?_
        refine z_iln C hl 2 rfl dX9_shows_33 ?_
        refine z_iln C hl 3 rfl dX9_shows_34 ?_
        refine z_vRO C hP hl (c_X9_shown (σ := σ) side col row hI hR (by omega) (by omega) (by omega)) (z_recv C hP (i := 44) (by decide) rfl (ci := 9) rfl) wg_717 wg_10 wg_714 wg_716 ws_X9_shown cw_X9_shown ⟨Nat.le_of_ble_eq_true rfl, Nat.le_of_ble_eq_true rfl⟩ rfl rfl (Nat.le_of_ble_eq_true rfl) dX9_shows_35 ?_
        refine z_goto C 43 (by decide) dX9_shows_38 ?_
        exact z_iret B (by rw [if_neg (by omega), if_neg (by omega)]) dX9_shows_43
  · skip
    refine z_ic C dX9_shows_7 ?_
    exact z_iret B (by rw [if_pos (by omega)]) dX9_shows_8

set_option maxHeartbeats 4000000 in
set_option maxRecDepth 100000 in
theorem c_X9_speeds {l : Launch} {D : va_G} {q : Nat → Nat} {g : Nat → ClassId} {σ : Mem} (len col en : Int) (hr_len : zR len) (hr_col : zR col) (hr_en : zR en) : RO l yX9_speeds cX9_speeds 7 (some .int) 1 25 D q g σ [.ref (q 44), .int (zI len), .int (zI col), .int (zI en)] (some (.int (zI (kSpd len col en)))) := by
  refine RO.intro (plainFor_of_name (by decide)) (Nat.le_of_ble_eq_true rfl) (fun p e s m args below meth c ls B hP hl => ?_)
  have C := B.1
  have hl : lv_has ls 7 [(0, .ref (q 44)), (1, .int (zI len)), (2, .int (zI col)), (3, .int (zI en))] := hl
  refine z_iln C hl 1 rfl dX9_speeds_0 ?_
  refine z_i2l C (by omega) dX9_speeds_1 ?_
  refine z_lc1 C dX9_speeds_2 ?_
  refine z_ldc2 C (n := 19) wg_788 (by decide) dX9_speeds_3 ?_
  refine z_sRO C hP hl (c_X9_in (σ := σ) len 1 19 (by omega) (by omega) (by omega))  wg_679 wg_10 wg_677 wg_678 cw_X9_in ⟨Nat.le_of_ble_eq_true rfl, Nat.le_of_ble_eq_true rfl⟩ rfl rfl (Nat.le_of_ble_eq_true rfl) dX9_speeds_6 ?_
  refine z_bif_eq C 34 (by decide) dX9_speeds_9 (fun w1 => ?_) (fun w1 => ?_)
  · skip
    refine z_bp C dX9_speeds_34 rfl ?_
    exact z_iret B (by unfold kSpd; rw [if_pos (by omega)]) dX9_speeds_36
  · skip
    refine z_iln C hl 2 rfl dX9_speeds_12 ?_
    refine z_i2l C (by omega) dX9_speeds_13 ?_
    refine z_lc0 C dX9_speeds_14 ?_
    refine z_ldc2 C (n := 30) wg_789 (by decide) dX9_speeds_15 ?_
    refine z_sRO C hP hl (c_X9_in (σ := σ) col 0 30 (by omega) (by omega) (by omega))  wg_679 wg_10 wg_677 wg_678 cw_X9_in ⟨Nat.le_of_ble_eq_true rfl, Nat.le_of_ble_eq_true rfl⟩ rfl rfl (Nat.le_of_ble_eq_true rfl) dX9_speeds_18 ?_
    refine z_bif_eq C 34 (by decide) dX9_speeds_21 (fun w2 => ?_) (fun w2 => ?_)
    · skip
      refine z_bp C dX9_speeds_34 rfl ?_
      exact z_iret B (by unfold kSpd; rw [if_pos (by omega)]) dX9_speeds_36
    · skip
      refine z_iln C hl 3 rfl dX9_speeds_24 ?_
      refine z_i2l C (by omega) dX9_speeds_25 ?_
      refine z_lc0 C dX9_speeds_26 ?_
      refine z_lc1 C dX9_speeds_27 ?_
      refine z_sRO C hP hl (c_X9_in (σ := σ) en 0 1 (by omega) (by omega) (by omega))  wg_679 wg_10 wg_677 wg_678 cw_X9_in ⟨Nat.le_of_ble_eq_true rfl, Nat.le_of_ble_eq_true rfl⟩ rfl rfl (Nat.le_of_ble_eq_true rfl) dX9_speeds_28 ?_
      refine z_bif_ne C 37 (by decide) dX9_speeds_31 (fun w3 => ?_) (fun w3 => ?_)
      · skip
        refine z_bp C dX9_speeds_37 rfl ?_
        refine z_ist C hl [(4, .int (zI (-6))), (0, .ref (q 44)), (1, .int (zI len)), (2, .int (zI col)), (3, .int (zI en))] (by decide) rfl dX9_speeds_39 (fun ls hl => ?_)
        refine z_bp C dX9_speeds_41 rfl ?_
        refine z_ist C hl [(5, .int (zI (-6))), (4, .int (zI (-6))), (0, .ref (q 44)), (1, .int (zI len)), (2, .int (zI col)), (3, .int (zI en))] (by decide) rfl dX9_speeds_43 (fun ls hl => ?_)
        refine z_ic C dX9_speeds_45 ?_
        refine z_ist C hl [(6, .int (zI 1)), (5, .int (zI (-6))), (4, .int (zI (-6))), (0, .ref (q 44)), (1, .int (zI len)), (2, .int (zI col)), (3, .int (zI en))] (by decide) rfl dX9_speeds_46 (fun ls hl => ?_)
        have L48 : ∀ (n : Nat) (x : Int) (y : Int) (v : Int)  , 20 - v + 1 < (n : Int) → (1 ≤ v ∧ v ≤ 21) → (x = spF len col (v - 1).toNat) → (y = spL len col (v - 1).toNat) → ∀ ls : Array Slot, lv_has ls 7 [(0, .ref (q 44)), (1, .int (zI len)), (2, .int (zI col)), (3, .int (zI en)), (4, .int (zI x)), (5, .int (zI y)), (6, .int (zI v))] → WO p l e 1 25 s m args below meth c (some (.int (zI (kSpd len col en)))) (F0 m 48 ls []) := by
          intro n
          induction n with
          | zero => intro x y v hm hv hx hy ls hl; exact False.elim (by omega)
          | succ n ih =>
            intro x y v hm hv hx hy ls hl
            have ih48 := ih; clear ih
            refine z_il C hl 6 rfl dX9_speeds_48 ?_
            refine z_bp C dX9_speeds_50 rfl ?_
            refine z_icmp_gt C 100 (by decide) (by omega) (by omega) dX9_speeds_52 (fun w4 => ?_) (fun w4 => ?_)
            · skip
              refine z_iln C hl 3 rfl dX9_speeds_100 ?_
              refine z_if_ne C 109 (by decide) (by omega) dX9_speeds_101 (fun w5 => ?_) (fun w5 => ?_)
              · skip
                refine z_il C hl 5 rfl dX9_speeds_109 ?_
                exact z_iret B (by unfold kSpd; rw [if_neg (by omega), hy, show (v - 1).toNat = 20 by omega, if_neg (by omega)]) dX9_speeds_111
              · skip
                refine z_il C hl 4 rfl dX9_speeds_104 ?_
                refine z_goto C 111 (by decide) dX9_speeds_106 ?_
                exact z_iret B (by unfold kSpd; rw [if_neg (by omega), hx, show (v - 1).toNat = 20 by omega, if_pos (by omega)]) dX9_speeds_111
            · skip
              have hci := canS_iff (len := len) (col := col) (v := v) (by omega) (by omega)
              have hd1 := tdiv_b (a := len) (v := v) (by omega) (by omega)
              have hd2 := tdiv_b (a := len + v - 1) (v := v) (by omega) (by omega)
              have hfb := spF_b (len := len) (col := col) (v - 1).toNat
              refine z_iln C hl 2 rfl dX9_speeds_55 ?_
              refine z_iln C hl 1 rfl dX9_speeds_56 ?_
              refine z_il C hl 6 rfl dX9_speeds_57 ?_
              refine z_idiv C (by omega) (by omega) (by omega) dX9_speeds_59 ?_
              refine z_icmp_eq C 76 (by decide) (by omega) (by omega) dX9_speeds_60 (fun w6 => ?_) (fun w6 => ?_)
              · skip
                have hcn : canS len col v = true := hci.mpr (by omega)
                refine z_il C hl 4 rfl dX9_speeds_76 ?_
                refine z_if_ge C 86 (by decide) (by omega) dX9_speeds_78 (fun w7 => ?_) (fun w7 => ?_)
                · skip
                  refine z_il C hl 4 rfl dX9_speeds_86 ?_
                  refine z_ist C hl [(4, .int (zI x)), (0, .ref (q 44)), (1, .int (zI len)), (2, .int (zI col)), (3, .int (zI en)), (5, .int (zI y)), (6, .int (zI v))] (by decide) rfl dX9_speeds_88 (fun ls hl => ?_)
                  refine z_il C hl 6 rfl dX9_speeds_90 ?_
                  refine z_ist C hl [(5, .int (zI v)), (4, .int (zI x)), (0, .ref (q 44)), (1, .int (zI len)), (2, .int (zI col)), (3, .int (zI en)), (6, .int (zI v))] (by decide) rfl dX9_speeds_92 (fun ls hl => ?_)
                  refine z_iinc C hl 6 rfl [(6, .int (zI (v + 1))), (5, .int (zI v)), (4, .int (zI x)), (0, .ref (q 44)), (1, .int (zI len)), (2, .int (zI col)), (3, .int (zI en))] (by decide) rfl dX9_speeds_94 (fun ls hl => ?_)
                  refine z_goto C 48 (by decide) dX9_speeds_97 ?_
                  exact ih48 x v (v + 1) (by omega) (by omega) (by rw [show (v + 1 - 1).toNat = (v - 1).toNat + 1 by omega, spF, ← hx, show (((v - 1).toNat : Nat) : Int) + 1 = v by omega]; rw [if_pos hcn]; split <;> omega) (by rw [show (v + 1 - 1).toNat = (v - 1).toNat + 1 by omega, spL, show (((v - 1).toNat : Nat) : Int) + 1 = v by omega, if_pos hcn]) ls (lv_sub hl [3, 4, 5, 6, 2, 1, 0] rfl)
                · skip
                  refine z_il C hl 6 rfl dX9_speeds_81 ?_
                  refine z_goto C 88 (by decide) dX9_speeds_83 ?_
                  refine z_ist C hl [(4, .int (zI v)), (0, .ref (q 44)), (1, .int (zI len)), (2, .int (zI col)), (3, .int (zI en)), (5, .int (zI y)), (6, .int (zI v))] (by decide) rfl dX9_speeds_88 (fun ls hl => ?_)
                  refine z_il C hl 6 rfl dX9_speeds_90 ?_
                  refine z_ist C hl [(5, .int (zI v)), (4, .int (zI v)), (0, .ref (q 44)), (1, .int (zI len)), (2, .int (zI col)), (3, .int (zI en)), (6, .int (zI v))] (by decide) rfl dX9_speeds_92 (fun ls hl => ?_)
                  refine z_iinc C hl 6 rfl [(6, .int (zI (v + 1))), (5, .int (zI v)), (4, .int (zI v)), (0, .ref (q 44)), (1, .int (zI len)), (2, .int (zI col)), (3, .int (zI en))] (by decide) rfl dX9_speeds_94 (fun ls hl => ?_)
                  refine z_goto C 48 (by decide) dX9_speeds_97 ?_
                  exact ih48 v v (v + 1) (by omega) (by omega) (by rw [show (v + 1 - 1).toNat = (v - 1).toNat + 1 by omega, spF, ← hx, show (((v - 1).toNat : Nat) : Int) + 1 = v by omega]; rw [if_pos hcn]; split <;> omega) (by rw [show (v + 1 - 1).toNat = (v - 1).toNat + 1 by omega, spL, show (((v - 1).toNat : Nat) : Int) + 1 = v by omega, if_pos hcn]) ls (lv_sub hl [3, 4, 5, 6, 2, 1, 0] rfl)
              · skip
                refine z_iln C hl 2 rfl dX9_speeds_63 ?_
                refine z_iln C hl 1 rfl dX9_speeds_64 ?_
                refine z_il C hl 6 rfl dX9_speeds_65 ?_
                refine z_iadd C dX9_speeds_67 ?_
                refine z_ic C dX9_speeds_68 ?_
                refine z_isub C dX9_speeds_69 ?_
                refine z_il C hl 6 rfl dX9_speeds_70 ?_
                refine z_idiv C (by omega) (by omega) (by omega) dX9_speeds_72 ?_
                refine z_icmp_ne C 94 (by decide) (by omega) (by omega) dX9_speeds_73 (fun w8 => ?_) (fun w8 => ?_)
                · skip
                  have hcn : ¬ canS len col v = true := fun h => by have := hci.mp h; omega
                  refine z_iinc C hl 6 rfl [(6, .int (zI (v + 1))), (0, .ref (q 44)), (1, .int (zI len)), (2, .int (zI col)), (3, .int (zI en)), (4, .int (zI x)), (5, .int (zI y))] (by decide) rfl dX9_speeds_94 (fun ls hl => ?_)
                  refine z_goto C 48 (by decide) dX9_speeds_97 ?_
                  exact ih48 x y (v + 1) (by omega) (by omega) (by rw [show (v + 1 - 1).toNat = (v - 1).toNat + 1 by omega, spF, ← hx, show (((v - 1).toNat : Nat) : Int) + 1 = v by omega]; rw [if_neg hcn]; split <;> omega) (by rw [show (v + 1 - 1).toNat = (v - 1).toNat + 1 by omega, spL, show (((v - 1).toNat : Nat) : Int) + 1 = v by omega, if_neg hcn, hy]) ls (lv_sub hl [1, 2, 3, 4, 5, 6, 0] rfl)
                · skip
                  have hcn : canS len col v = true := hci.mpr (by omega)
                  refine z_il C hl 4 rfl dX9_speeds_76 ?_
                  refine z_if_ge C 86 (by decide) (by omega) dX9_speeds_78 (fun w9 => ?_) (fun w9 => ?_)
                  · skip
                    refine z_il C hl 4 rfl dX9_speeds_86 ?_
                    refine z_ist C hl [(4, .int (zI x)), (0, .ref (q 44)), (1, .int (zI len)), (2, .int (zI col)), (3, .int (zI en)), (5, .int (zI y)), (6, .int (zI v))] (by decide) rfl dX9_speeds_88 (fun ls hl => ?_)
                    refine z_il C hl 6 rfl dX9_speeds_90 ?_
                    refine z_ist C hl [(5, .int (zI v)), (4, .int (zI x)), (0, .ref (q 44)), (1, .int (zI len)), (2, .int (zI col)), (3, .int (zI en)), (6, .int (zI v))] (by decide) rfl dX9_speeds_92 (fun ls hl => ?_)
                    refine z_iinc C hl 6 rfl [(6, .int (zI (v + 1))), (5, .int (zI v)), (4, .int (zI x)), (0, .ref (q 44)), (1, .int (zI len)), (2, .int (zI col)), (3, .int (zI en))] (by decide) rfl dX9_speeds_94 (fun ls hl => ?_)
                    refine z_goto C 48 (by decide) dX9_speeds_97 ?_
                    exact ih48 x v (v + 1) (by omega) (by omega) (by rw [show (v + 1 - 1).toNat = (v - 1).toNat + 1 by omega, spF, ← hx, show (((v - 1).toNat : Nat) : Int) + 1 = v by omega]; rw [if_pos hcn]; split <;> omega) (by rw [show (v + 1 - 1).toNat = (v - 1).toNat + 1 by omega, spL, show (((v - 1).toNat : Nat) : Int) + 1 = v by omega, if_pos hcn]) ls (lv_sub hl [3, 4, 5, 6, 2, 1, 0] rfl)
                  · skip
                    refine z_il C hl 6 rfl dX9_speeds_81 ?_
                    refine z_goto C 88 (by decide) dX9_speeds_83 ?_
                    refine z_ist C hl [(4, .int (zI v)), (0, .ref (q 44)), (1, .int (zI len)), (2, .int (zI col)), (3, .int (zI en)), (5, .int (zI y)), (6, .int (zI v))] (by decide) rfl dX9_speeds_88 (fun ls hl => ?_)
                    refine z_il C hl 6 rfl dX9_speeds_90 ?_
                    refine z_ist C hl [(5, .int (zI v)), (4, .int (zI v)), (0, .ref (q 44)), (1, .int (zI len)), (2, .int (zI col)), (3, .int (zI en)), (6, .int (zI v))] (by decide) rfl dX9_speeds_92 (fun ls hl => ?_)
                    refine z_iinc C hl 6 rfl [(6, .int (zI (v + 1))), (5, .int (zI v)), (4, .int (zI v)), (0, .ref (q 44)), (1, .int (zI len)), (2, .int (zI col)), (3, .int (zI en))] (by decide) rfl dX9_speeds_94 (fun ls hl => ?_)
                    refine z_goto C 48 (by decide) dX9_speeds_97 ?_
                    exact ih48 v v (v + 1) (by omega) (by omega) (by rw [show (v + 1 - 1).toNat = (v - 1).toNat + 1 by omega, spF, ← hx, show (((v - 1).toNat : Nat) : Int) + 1 = v by omega]; rw [if_pos hcn]; split <;> omega) (by rw [show (v + 1 - 1).toNat = (v - 1).toNat + 1 by omega, spL, show (((v - 1).toNat : Nat) : Int) + 1 = v by omega, if_pos hcn]) ls (lv_sub hl [3, 4, 5, 6, 2, 1, 0] rfl)
        exact L48 ((20 - 1 + 1 : Int).toNat + 1) (-6) (-6) 1 (by omega) (by omega) rfl rfl ls (lv_sub hl [3, 4, 5, 6, 2, 1, 0] rfl)
      · skip
        refine z_bp C dX9_speeds_34 rfl ?_
        exact z_iret B (by unfold kSpd; rw [if_pos (by omega)]) dX9_speeds_36
