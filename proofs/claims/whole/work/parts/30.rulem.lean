set_option maxHeartbeats 4000000 in
set_option maxRecDepth 100000 in
theorem c_X9_rule {l : Launch} {D : va_G} {q : Nat → Nat} {g : Nat → ClassId} {σ : Mem} (hq : qok q) (β : Mem) (hn2 : 0 ≤ σ 44 20 ∧ σ 44 20 ≤ 30) (hs2 : ∀ i : Nat, (i : Int) < σ 44 20 → 33 ≤ σ 56 i ∧ σ 56 i ≤ 126) : RW l yX9_rule cX9_rule 5 (some .int) 3 69 D q g σ [.ref (q 44)] vI (fun r τ => if tFF (σ 56) (σ 44 20).toNat 0 0 ≠ -6 then r = -5 ∧ τ = σ else r = rdG β (σ 56) (σ 44 20).toNat 5 4 ∧ MD (rdG β (σ 56) (σ 44 20).toNat) τ ∧ τ 44 20 = 0 ∧ ∀ a b : Nat, ¬ (a = 57 ∨ a = 58 ∨ a = 59 ∨ (a = 44 ∧ (b = 24 ∨ b = 20))) → τ a b = σ a b) := by
  refine RW.intro (plainFor_of_name (by decide)) (Nat.le_of_ble_eq_true rfl) (fun p e s m args below meth c ls B hP hS hl => ?_)
  have C := B.1
  have hl : lv_has ls 5 [(0, .ref (q 44))] := hl
  have hfb := tFF_b (s := σ 56) (σ 44 20).toNat 0 0 (by omega)
  refine z_aln C hl 0 rfl dX9_rule_0 ?_
  refine z_vRO C hP hl (c_X9_fault (σ := σ)  (by omega) hs2) (z_recv C hP (i := 44) (by decide) rfl (ci := 9) rfl) wg_853 wg_10 wg_869 wg_851 wg_852 cw_X9_fault ⟨Nat.le_of_ble_eq_true rfl, Nat.le_of_ble_eq_true rfl⟩ rfl rfl (Nat.le_of_ble_eq_true rfl) dX9_rule_1 ?_
  refine z_if_lt C 10 (by decide) (by omega) dX9_rule_4 (fun w1 => ?_) (fun w1 => ?_)
  · skip
    have hff : tFF (σ 56) (σ 44 20).toNat 0 0 = -6 := tFF_neg _ _ _ (by omega) (by omega)
    have hok := tFF_ok (s := σ 56) (σ 44 20).toNat 0 (by simp [tSt]) (by simpa [tSt] using hff)
    have hst : ∀ j, j ≤ (σ 44 20).toNat → 0 ≤ tSt (σ 56) j ∧ tSt (σ 56) j ≤ 7 := fun j hj => hok.1 j (by omega) (by omega)
    have h4n : 4 ≤ tSt (σ 56) (σ 44 20).toNat := by have := hok.2; simpa using this
    refine z_aln C hl 0 rfl dX9_rule_10 ?_
    refine z_ic C dX9_rule_11 ?_
    refine pf_X9_217 C hq hP hS dX9_rule_12 (fun H locs hP hS => ?_)
    refine z_ic C dX9_rule_15 ?_
    refine z_isn C hl [(1, .int (zI 0)), (0, .ref (q 44))] (by decide) rfl dX9_rule_16 (fun ls hl => ?_)
    refine z_ic C dX9_rule_17 ?_
    refine z_isn C hl [(2, .int (zI 0)), (1, .int (zI 0)), (0, .ref (q 44))] (by decide) rfl dX9_rule_18 (fun ls hl => ?_)
    refine z_ic C dX9_rule_19 ?_
    refine z_isn C hl [(3, .int (zI 0)), (2, .int (zI 0)), (1, .int (zI 0)), (0, .ref (q 44))] (by decide) rfl dX9_rule_20 (fun ls hl => ?_)
    have L21 : ∀ (n : Nat) (x1 : Int) (x2 : Int) (i : Int)  (τ : Mem), σ 44 20 + 1 - i < (n : Int) → (0 ≤ i ∧ i ≤ σ 44 20 + 1) → (∀ a b : Nat, ¬ (a = 57 ∨ a = 58 ∨ a = 59 ∨ (a = 44 ∧ b = 24)) → τ a b = σ a b) → ((i ≤ σ 44 20 → MP (rdG β (σ 56) i.toNat) (tSt (σ 56) i.toNat) x1 x2 τ) ∧ (σ 44 20 < i → MD (rdG β (σ 56) (σ 44 20).toNat) τ)) → ∀ (H : Heap) (locs : List Loc), HP D q g τ H → va_S (aQ q) s.heap H locs → ∀ ls : Array Slot, lv_has ls 5 [(0, .ref (q 44)), (1, .int (zI x1)), (2, .int (zI x2)), (3, .int (zI i))] → WW p l e 3 69 s m args below meth c H locs D q g vI (fun r τ => if tFF (σ 56) (σ 44 20).toNat 0 0 ≠ -6 then r = -5 ∧ τ = σ else r = rdG β (σ 56) (σ 44 20).toNat 5 4 ∧ MD (rdG β (σ 56) (σ 44 20).toNat) τ ∧ τ 44 20 = 0 ∧ ∀ a b : Nat, ¬ (a = 57 ∨ a = 58 ∨ a = 59 ∨ (a = 44 ∧ (b = 24 ∨ b = 20))) → τ a b = σ a b) (F0 m 21 ls []) := by
      intro n
      induction n with
      | zero => intro x1 x2 i τ hm hi hfr hMM H locs hP hS ls hl; exact False.elim (by omega)
      | succ n ih =>
        intro x1 x2 i τ hm hi hfr hMM H locs hP hS ls hl
        have ih21 := ih; clear ih
        refine z_iln C hl 3 rfl dX9_rule_21 ?_
        have f20 := hfr 44 20 (by omega)
        refine z_aln C hl 0 rfl dX9_rule_22 ?_
        refine gf_X9_198 C hP dX9_rule_23 ?_
        refine z_icmp_gt C 173 (by decide) (by omega) (by omega) dX9_rule_26 (fun w2 => ?_) (fun w2 => ?_)
        · skip
          have hmd := hMM.2 (by omega)
          refine z_aln C hl 0 rfl dX9_rule_173 ?_
          refine z_ic C dX9_rule_174 ?_
          refine pf_X9_198 C hq hP hS dX9_rule_175 (fun H locs hP hS => ?_)
          refine z_aln C hl 0 rfl dX9_rule_178 ?_
          refine gf_X9_217 C hP dX9_rule_179 ?_
          refine z_tope (b := τ 44 24) (by unfold um; rw [if_neg (by omega)]) ?_
          exact z_iretW B hP hS (by rw [if_neg (by omega)]; exact ⟨hmd.1, ⟨by simp only [um]; rw [if_neg (by omega)]; exact hmd.1, fun l hl => by have := hmd.2 l hl; unfold dnL; simp [um]; exact this⟩, by simp [um], fun a b h => by have := hfr a b (by omega); simp only [um]; rw [if_neg (by omega)]; exact this⟩) dX9_rule_182
        · skip
          have hMP := hMM.1 (by omega)
          have hpi := PI_all (β := β) (s := σ 56) (n := (σ 44 20).toNat) (by omega) hst i.toNat (by omega)
          have hgb := rdG_b (β := β) (s := σ 56) i.toNat
          have hp0 := hpi.2.1
          have hL0 := hMP.1
          have hx2 := hMP.2.2.2.1
          have hLz := hMP.2.1
          have hL1 := hMP.2.2.1
          have hsti := hst i.toNat (by omega)
          have hL8 : 0 ≤ τ 44 24 ∧ τ 44 24 ≤ 8 := (Int.lt_or_le (tSt (σ 56) i.toNat) 1).elim (fun q => by have := hLz (by omega); omega) (fun q => by have := hL1 q; omega)
          refine z_iln C hl 3 rfl dX9_rule_29 ?_
          refine z_aln C hl 0 rfl dX9_rule_30 ?_
          refine gf_X9_198 C hP dX9_rule_31 ?_
          refine z_icmp_ge C 46 (by decide) (by omega) (by omega) dX9_rule_34 (fun w3 => ?_) (fun w3 => ?_)
          · skip
            have h4 : 4 ≤ tSt (σ 56) i.toNat := by rw [show i.toNat = (σ 44 20).toNat by omega]; exact h4n
            refine z_bp C dX9_rule_46 rfl ?_
            refine z_ist C hl [(4, .int (zI 59)), (0, .ref (q 44)), (1, .int (zI x1)), (2, .int (zI x2)), (3, .int (zI i))] (by decide) rfl dX9_rule_48 (fun ls hl => ?_)
            refine z_il C hl 0 rfl dX9_rule_50 ?_
            refine z_bp C dX9_rule_52 rfl ?_
            refine z_icmp_ne C 93 (by decide) (by omega) (by omega) dX9_rule_54 (fun w4 => False.elim (by omega)) (fun _ => ?_)
            refine z_aln C hl 1 rfl dX9_rule_57 ?_
            refine gf_X9_53 C hP dX9_rule_58 ?_
            refine z_aln C hl 1 rfl dX9_rule_61 ?_
            refine gf_X9_217 C hP dX9_rule_62 ?_
            refine z_iln C hl 3 rfl dX9_rule_65 ?_
            refine z_if_eq C 74 (by decide) (by omega) dX9_rule_66 (fun w5 => ?_) (fun w5 => ?_)
            · skip
              refine z_iln C hl 2 rfl dX9_rule_74 ?_
              refine z_iast C hq hP hS (i := 59) (by decide) (fun _ => rfl) (by omega) (by decide) dX9_rule_75 (fun H locs hP hS => ?_)
              refine z_aln C hl 1 rfl dX9_rule_76 ?_
              refine z_dup C rfl dX9_rule_77 ?_
              refine gf_X9_217 C hP dX9_rule_78 ?_
              refine z_tope (b := τ 44 24) (by unfold um; rw [if_neg (by omega)]) ?_
              refine z_ic C dX9_rule_81 ?_
              refine z_iadd C dX9_rule_82 ?_
              refine pf_X9_217 C hq hP hS dX9_rule_83 (fun H locs hP hS => ?_)
              refine z_ic C dX9_rule_86 ?_
              refine z_isn C hl [(1, .int (zI 0)), (4, .int (zI 59)), (0, .ref (q 44)), (2, .int (zI x2)), (3, .int (zI i))] (by decide) rfl dX9_rule_87 (fun ls hl => ?_)
              refine z_ic C dX9_rule_88 ?_
              refine z_isn C hl [(2, .int (zI 0)), (1, .int (zI 0)), (4, .int (zI 59)), (0, .ref (q 44)), (3, .int (zI i))] (by decide) rfl dX9_rule_89 (fun ls hl => ?_)
              refine z_goto C 167 (by decide) dX9_rule_90 ?_
              refine z_iinc C hl 4 rfl [(3, .int (zI (i + 1))), (2, .int (zI 0)), (1, .int (zI 0)), (4, .int (zI 59)), (0, .ref (q 44))] (by decide) rfl dX9_rule_167 (fun ls hl => ?_)
              refine z_goto C 21 (by decide) dX9_rule_170 ?_
              exact ih21 0 0 (i + 1) (um (um τ 59 (τ 44 24).toNat x1) 44 24 ((τ 44 24) + 1)) (by omega) (by omega) (fun a b h => by have := hfr a b h; simp only [um]; (repeat rw [if_neg (by omega)]); exact this) (⟨fun h => by omega, fun _ => by rw [show (σ 44 20).toNat = i.toNat by omega]; exact MP_semi hMP h4 (by rw [if_pos (by omega)])⟩) _ _ hP hS ls (lv_sub hl [4, 2, 1, 0] rfl)
            · skip
              refine z_iln C hl 2 rfl dX9_rule_69 ?_
              refine z_ineg C dX9_rule_70 ?_
              refine z_goto C 75 (by decide) dX9_rule_71 ?_
              refine z_iast C hq hP hS (i := 59) (by decide) (fun _ => rfl) (by omega) (by decide) dX9_rule_75 (fun H locs hP hS => ?_)
              refine z_aln C hl 1 rfl dX9_rule_76 ?_
              refine z_dup C rfl dX9_rule_77 ?_
              refine gf_X9_217 C hP dX9_rule_78 ?_
              refine z_tope (b := τ 44 24) (by unfold um; rw [if_neg (by omega)]) ?_
              refine z_ic C dX9_rule_81 ?_
              refine z_iadd C dX9_rule_82 ?_
              refine pf_X9_217 C hq hP hS dX9_rule_83 (fun H locs hP hS => ?_)
              refine z_ic C dX9_rule_86 ?_
              refine z_isn C hl [(1, .int (zI 0)), (4, .int (zI 59)), (0, .ref (q 44)), (2, .int (zI x2)), (3, .int (zI i))] (by decide) rfl dX9_rule_87 (fun ls hl => ?_)
              refine z_ic C dX9_rule_88 ?_
              refine z_isn C hl [(2, .int (zI 0)), (1, .int (zI 0)), (4, .int (zI 59)), (0, .ref (q 44)), (3, .int (zI i))] (by decide) rfl dX9_rule_89 (fun ls hl => ?_)
              refine z_goto C 167 (by decide) dX9_rule_90 ?_
              refine z_iinc C hl 4 rfl [(3, .int (zI (i + 1))), (2, .int (zI 0)), (1, .int (zI 0)), (4, .int (zI 59)), (0, .ref (q 44))] (by decide) rfl dX9_rule_167 (fun ls hl => ?_)
              refine z_goto C 21 (by decide) dX9_rule_170 ?_
              exact ih21 0 0 (i + 1) (um (um τ 59 (τ 44 24).toNat (-x1)) 44 24 ((τ 44 24) + 1)) (by omega) (by omega) (fun a b h => by have := hfr a b h; simp only [um]; (repeat rw [if_neg (by omega)]); exact this) (⟨fun h => by omega, fun _ => by rw [show (σ 44 20).toNat = i.toNat by omega]; exact MP_semi hMP h4 (by rw [if_neg (by omega)])⟩) _ _ hP hS ls (lv_sub hl [4, 2, 1, 0] rfl)
          · skip
            have f56 := hfr 56 i.toNat (by omega)
            have hv := hs2 i.toNat (by omega)
            have hst1 := hst (i.toNat + 1) (by omega)
            rw [tSt] at hst1
            have hk := tStep_c hsti hst1.1
            refine z_aln C hl 0 rfl dX9_rule_37 ?_
            refine gf_X9_44 C hP dX9_rule_38 ?_
            refine z_iln C hl 3 rfl dX9_rule_41 ?_
            refine z_iald C hP (i := 56) (by decide) (fun _ => rfl) (by omega) (by decide) dX9_rule_42 ?_
            refine z_goto C 48 (by decide) dX9_rule_43 ?_
            refine z_ist C hl [(4, .int (zI (τ 56 i.toNat))), (0, .ref (q 44)), (1, .int (zI x1)), (2, .int (zI x2)), (3, .int (zI i))] (by decide) rfl dX9_rule_48 (fun ls hl => ?_)
            refine z_il C hl 0 rfl dX9_rule_50 ?_
            refine z_bp C dX9_rule_52 rfl ?_
            refine z_icmp_ne C 93 (by decide) (by omega) (by omega) dX9_rule_54 (fun w6 => ?_) (fun w6 => ?_)
            · skip
              refine z_il C hl 0 rfl dX9_rule_93 ?_
              refine z_i2l C (by omega) dX9_rule_95 ?_
              refine z_ldc2 C (n := 48) wg_857 (by decide) dX9_rule_96 ?_
              refine z_ldc2 C (n := 57) wg_858 (by decide) dX9_rule_99 ?_
              refine z_sRO C hP hl (c_X9_in (σ := τ) (τ 56 i.toNat) 48 57 (by omega) (by omega) (by omega))  wg_679 wg_10 wg_677 wg_678 cw_X9_in ⟨Nat.le_of_ble_eq_true rfl, Nat.le_of_ble_eq_true rfl⟩ rfl rfl (Nat.le_of_ble_eq_true rfl) dX9_rule_102 ?_
              refine z_bif_eq C 122 (by decide) dX9_rule_105 (fun w7 => ?_) (fun w7 => ?_)
              · skip
                refine z_il C hl 0 rfl dX9_rule_122 ?_
                refine z_bp C dX9_rule_124 rfl ?_
                refine z_icmp_ne C 134 (by decide) (by omega) (by omega) dX9_rule_126 (fun w8 => ?_) (fun w8 => ?_)
                · skip
                  refine z_il C hl 0 rfl dX9_rule_134 ?_
                  refine z_sRO C hP hl (c_X9_isHow (σ := τ) (τ 56 i.toNat) (by omega))  wg_864 wg_10 wg_862 wg_863 cw_X9_isHow ⟨Nat.le_of_ble_eq_true rfl, Nat.le_of_ble_eq_true rfl⟩ rfl rfl (Nat.le_of_ble_eq_true rfl) dX9_rule_136 ?_
                  refine z_bif_eq C 156 (by decide) dX9_rule_139 (fun w9 => ?_) (fun w9 => ?_)
                  · skip
                    refine z_aln C hl 1 rfl dX9_rule_156 ?_
                    refine gf_X9_47 C hP dX9_rule_157 ?_
                    refine z_aln C hl 1 rfl dX9_rule_160 ?_
                    refine gf_X9_217 C hP dX9_rule_161 ?_
                    refine z_il C hl 0 rfl dX9_rule_164 ?_
                    refine z_iast C hq hP hS (i := 57) (by decide) (fun _ => rfl) (by omega) (by decide) dX9_rule_166 (fun H locs hP hS => ?_)
                    refine z_iinc C hl 4 rfl [(3, .int (zI (i + 1))), (4, .int (zI (τ 56 i.toNat))), (0, .ref (q 44)), (1, .int (zI x1)), (2, .int (zI x2))] (by decide) rfl dX9_rule_167 (fun ls hl => ?_)
                    refine z_goto C 21 (by decide) dX9_rule_170 ?_
                    exact ih21 x1 x2 (i + 1) (um τ 57 (τ 44 24).toNat (τ 56 i.toNat)) (by omega) (by omega) (fun a b h => by have := hfr a b h; simp only [um]; (repeat rw [if_neg (by omega)]); exact this) (⟨fun _ => by rw [show (i + 1).toNat = i.toNat + 1 by omega, rdG, tSt]; have hk5 := hk.2.2.2.2 (by rw [← f56]; omega); rw [f56, hk5.2.2]; exact MP_fact hMP hk5.1 hk5.2.1 (by have := hpi.2.2.1 hk5.1; omega), fun h => by omega⟩) _ _ hP hS ls (lv_sub hl [2, 3, 4, 0] rfl)
                  · skip
                    have hih : isH (τ 56 i.toNat) := w9
                    refine z_aln C hl 1 rfl dX9_rule_142 ?_
                    refine gf_X9_50 C hP dX9_rule_143 ?_
                    refine z_aln C hl 1 rfl dX9_rule_146 ?_
                    refine gf_X9_217 C hP dX9_rule_147 ?_
                    refine z_il C hl 0 rfl dX9_rule_150 ?_
                    refine z_iast C hq hP hS (i := 58) (by decide) (fun _ => rfl) (by omega) (by decide) dX9_rule_152 (fun H locs hP hS => ?_)
                    refine z_goto C 167 (by decide) dX9_rule_153 ?_
                    refine z_iinc C hl 4 rfl [(3, .int (zI (i + 1))), (4, .int (zI (τ 56 i.toNat))), (0, .ref (q 44)), (1, .int (zI x1)), (2, .int (zI x2))] (by decide) rfl dX9_rule_167 (fun ls hl => ?_)
                    refine z_goto C 21 (by decide) dX9_rule_170 ?_
                    exact ih21 x1 x2 (i + 1) (um τ 58 (τ 44 24).toNat (τ 56 i.toNat)) (by omega) (by omega) (fun a b h => by have := hfr a b h; simp only [um]; (repeat rw [if_neg (by omega)]); exact this) (⟨fun _ => by rw [show (i + 1).toNat = i.toNat + 1 by omega, rdG, tSt]; rw [f56] at hih ⊢; rw [(hk.2.2.2.1 hih).2]; exact MP_how hMP (hk.2.2.2.1 hih).1 hih, fun h => by omega⟩) _ _ hP hS ls (lv_sub hl [2, 3, 4, 0] rfl)
                · skip
                  refine z_ic C dX9_rule_129 ?_
                  refine z_isn C hl [(2, .int (zI 1)), (4, .int (zI (τ 56 i.toNat))), (0, .ref (q 44)), (1, .int (zI x1)), (3, .int (zI i))] (by decide) rfl dX9_rule_130 (fun ls hl => ?_)
                  refine z_goto C 167 (by decide) dX9_rule_131 ?_
                  refine z_iinc C hl 4 rfl [(3, .int (zI (i + 1))), (2, .int (zI 1)), (4, .int (zI (τ 56 i.toNat))), (0, .ref (q 44)), (1, .int (zI x1))] (by decide) rfl dX9_rule_167 (fun ls hl => ?_)
                  refine z_goto C 21 (by decide) dX9_rule_170 ?_
                  exact ih21 x1 1 (i + 1) τ (by omega) (by omega) hfr (⟨fun _ => by rw [show (i + 1).toNat = i.toNat + 1 by omega, rdG, tSt]; rw [(hk.2.2.1 (by omega)).2]; exact MP_min hMP (hk.2.2.1 (by omega)).1 (by omega), fun h => by omega⟩) _ _ hP hS ls (lv_sub hl [3, 4, 1, 0] rfl)
              · skip
                have hdg : dig (τ 56 i.toNat) := w7
                refine z_bp C dX9_rule_108 rfl ?_
                refine z_iln C hl 2 rfl dX9_rule_110 ?_
                refine z_imul C dX9_rule_111 ?_
                refine z_il C hl 0 rfl dX9_rule_112 ?_
                refine z_iadd C dX9_rule_114 ?_
                refine z_bp C dX9_rule_115 rfl ?_
                refine z_isub C dX9_rule_117 ?_
                refine z_isn C hl [(1, .int (zI (((10 * x1) + (τ 56 i.toNat)) - 48))), (4, .int (zI (τ 56 i.toNat))), (0, .ref (q 44)), (2, .int (zI x2)), (3, .int (zI i))] (by decide) rfl dX9_rule_118 (fun ls hl => ?_)
                refine z_goto C 167 (by decide) dX9_rule_119 ?_
                refine z_iinc C hl 4 rfl [(3, .int (zI (i + 1))), (1, .int (zI (((10 * x1) + (τ 56 i.toNat)) - 48))), (4, .int (zI (τ 56 i.toNat))), (0, .ref (q 44)), (2, .int (zI x2))] (by decide) rfl dX9_rule_167 (fun ls hl => ?_)
                refine z_goto C 21 (by decide) dX9_rule_170 ?_
                exact ih21 (((10 * x1) + (τ 56 i.toNat)) - 48) x2 (i + 1) τ (by omega) (by omega) hfr (⟨fun _ => by rw [show (i + 1).toNat = i.toNat + 1 by omega, rdG, tSt]; rw [f56] at hdg ⊢; exact MP_dig hMP (hk.2.1 hdg).1 hdg (hk.2.1 hdg).2.1, fun h => by omega⟩) _ _ hP hS ls (lv_sub hl [3, 1, 4, 0] rfl)
            · skip
              have hone := hpi.2.2.2.1 (by have := (hk.1 (by omega)).1; omega)
              refine z_aln C hl 1 rfl dX9_rule_57 ?_
              refine gf_X9_53 C hP dX9_rule_58 ?_
              refine z_aln C hl 1 rfl dX9_rule_61 ?_
              refine gf_X9_217 C hP dX9_rule_62 ?_
              refine z_iln C hl 3 rfl dX9_rule_65 ?_
              refine z_if_eq C 74 (by decide) (by omega) dX9_rule_66 (fun w10 => ?_) (fun w10 => ?_)
              · skip
                refine z_iln C hl 2 rfl dX9_rule_74 ?_
                refine z_iast C hq hP hS (i := 59) (by decide) (fun _ => rfl) (by omega) (by decide) dX9_rule_75 (fun H locs hP hS => ?_)
                refine z_aln C hl 1 rfl dX9_rule_76 ?_
                refine z_dup C rfl dX9_rule_77 ?_
                refine gf_X9_217 C hP dX9_rule_78 ?_
                refine z_tope (b := τ 44 24) (by unfold um; rw [if_neg (by omega)]) ?_
                refine z_ic C dX9_rule_81 ?_
                refine z_iadd C dX9_rule_82 ?_
                refine pf_X9_217 C hq hP hS dX9_rule_83 (fun H locs hP hS => ?_)
                refine z_ic C dX9_rule_86 ?_
                refine z_isn C hl [(1, .int (zI 0)), (4, .int (zI (τ 56 i.toNat))), (0, .ref (q 44)), (2, .int (zI x2)), (3, .int (zI i))] (by decide) rfl dX9_rule_87 (fun ls hl => ?_)
                refine z_ic C dX9_rule_88 ?_
                refine z_isn C hl [(2, .int (zI 0)), (1, .int (zI 0)), (4, .int (zI (τ 56 i.toNat))), (0, .ref (q 44)), (3, .int (zI i))] (by decide) rfl dX9_rule_89 (fun ls hl => ?_)
                refine z_goto C 167 (by decide) dX9_rule_90 ?_
                refine z_iinc C hl 4 rfl [(3, .int (zI (i + 1))), (2, .int (zI 0)), (1, .int (zI 0)), (4, .int (zI (τ 56 i.toNat))), (0, .ref (q 44))] (by decide) rfl dX9_rule_167 (fun ls hl => ?_)
                refine z_goto C 21 (by decide) dX9_rule_170 ?_
                exact ih21 0 0 (i + 1) (um (um τ 59 (τ 44 24).toNat x1) 44 24 ((τ 44 24) + 1)) (by omega) (by omega) (fun a b h => by have := hfr a b h; simp only [um]; (repeat rw [if_neg (by omega)]); exact this) (⟨fun _ => by rw [show (i + 1).toNat = i.toNat + 1 by omega, rdG, tSt]; rw [tk_S (by omega) (by omega), (hk.1 (by omega)).2]; exact MD_MP (MP_semi hMP (hk.1 (by omega)).1 (by rw [if_pos (by omega)])) hp0, fun h => by omega⟩) _ _ hP hS ls (lv_sub hl [4, 2, 1, 0] rfl)
              · skip
                refine z_iln C hl 2 rfl dX9_rule_69 ?_
                refine z_ineg C dX9_rule_70 ?_
                refine z_goto C 75 (by decide) dX9_rule_71 ?_
                refine z_iast C hq hP hS (i := 59) (by decide) (fun _ => rfl) (by omega) (by decide) dX9_rule_75 (fun H locs hP hS => ?_)
                refine z_aln C hl 1 rfl dX9_rule_76 ?_
                refine z_dup C rfl dX9_rule_77 ?_
                refine gf_X9_217 C hP dX9_rule_78 ?_
                refine z_tope (b := τ 44 24) (by unfold um; rw [if_neg (by omega)]) ?_
                refine z_ic C dX9_rule_81 ?_
                refine z_iadd C dX9_rule_82 ?_
                refine pf_X9_217 C hq hP hS dX9_rule_83 (fun H locs hP hS => ?_)
                refine z_ic C dX9_rule_86 ?_
                refine z_isn C hl [(1, .int (zI 0)), (4, .int (zI (τ 56 i.toNat))), (0, .ref (q 44)), (2, .int (zI x2)), (3, .int (zI i))] (by decide) rfl dX9_rule_87 (fun ls hl => ?_)
                refine z_ic C dX9_rule_88 ?_
                refine z_isn C hl [(2, .int (zI 0)), (1, .int (zI 0)), (4, .int (zI (τ 56 i.toNat))), (0, .ref (q 44)), (3, .int (zI i))] (by decide) rfl dX9_rule_89 (fun ls hl => ?_)
                refine z_goto C 167 (by decide) dX9_rule_90 ?_
                refine z_iinc C hl 4 rfl [(3, .int (zI (i + 1))), (2, .int (zI 0)), (1, .int (zI 0)), (4, .int (zI (τ 56 i.toNat))), (0, .ref (q 44))] (by decide) rfl dX9_rule_167 (fun ls hl => ?_)
                refine z_goto C 21 (by decide) dX9_rule_170 ?_
                exact ih21 0 0 (i + 1) (um (um τ 59 (τ 44 24).toNat (-x1)) 44 24 ((τ 44 24) + 1)) (by omega) (by omega) (fun a b h => by have := hfr a b h; simp only [um]; (repeat rw [if_neg (by omega)]); exact this) (⟨fun _ => by rw [show (i + 1).toNat = i.toNat + 1 by omega, rdG, tSt]; rw [tk_S (by omega) (by omega), (hk.1 (by omega)).2]; exact MD_MP (MP_semi hMP (hk.1 (by omega)).1 (by rw [if_neg (by omega)])) hp0, fun h => by omega⟩) _ _ hP hS ls (lv_sub hl [4, 2, 1, 0] rfl)
    exact L21 ((σ 44 20 + 1 - 0 : Int).toNat + 1) 0 0 0 (um σ 44 24 0) (by omega) (by omega) (fun a b h => by simp only [um]; rw [if_neg (by omega)]) ⟨fun _ => ⟨by simp [um], fun _ => by simp [um, rdG], fun h => (by simp [tSt] at h), by omega, fun l hl => (by simp [um] at hl; omega)⟩, fun h => by omega⟩ _ _ hP hS ls (lv_sub hl [3, 2, 1, 0] rfl)
  · skip
    refine z_bp C dX9_rule_7 rfl ?_
    exact z_iretW B hP hS (by rw [if_pos (by omega)]; exact ⟨rfl, rfl⟩) dX9_rule_9
