set_option maxHeartbeats 4000000 in
set_option maxRecDepth 100000 in
theorem c_X8_power {l : Launch} {D : va_G} {q : Nat → Nat} {g : Nat → ClassId} {σ : Mem} (b nn : Int) (hn : 0 ≤ nn ∧ nn ≤ 6) : RO l yX8_power cX8_power 6 (some .long) 0 0 D q g σ [.long (zJ b), .int (zI nn)] (some (.long (zJ (b ^ nn.toNat)))) := by
  refine RO.intro (plainFor_of_name (by decide)) (Nat.le_of_ble_eq_true rfl) (fun p e s m args below meth c ls B hP hl => ?_)
  have C := B.1
  have hl : lv_has ls 6 [(0, .long (zJ b)), (2, .int (zI nn))] := hl
  refine z_lc1 C dX8_power_0 ?_
  refine z_lsn C hl [(3, .long (zJ 1)), (0, .long (zJ b)), (2, .int (zI nn))] (by decide) rfl dX8_power_1 (fun ls hl => ?_)
  refine z_ic C dX8_power_2 ?_
  refine z_ist C hl [(5, .int (zI 0)), (3, .long (zJ 1)), (0, .long (zJ b)), (2, .int (zI nn))] (by decide) rfl dX8_power_3 (fun ls hl => ?_)
  have L5 : ∀ (n : Nat) (x : Int) (i : Int)  , nn - i < (n : Int) → (0 ≤ i ∧ i ≤ nn) → (x = b ^ i.toNat) → ∀ ls : Array Slot, lv_has ls 6 [(0, .long (zJ b)), (2, .int (zI nn)), (3, .long (zJ x)), (5, .int (zI i))] → WO p l e 0 0 s m args below meth c (some (.long (zJ (b ^ nn.toNat)))) (F0 m 5 ls []) := by
    intro n
    induction n with
    | zero => intro x i hm hi hx ls hl; exact False.elim (by omega)
    | succ n ih =>
      intro x i hm hi hx ls hl
      have ih5 := ih; clear ih
      refine z_il C hl 3 rfl dX8_power_5 ?_
      refine z_iln C hl 1 rfl dX8_power_7 ?_
      refine z_icmp_ge C 21 (by decide) (by omega) (by omega) dX8_power_8 (fun w1 => ?_) (fun w1 => ?_)
      · skip
        refine z_lln C hl 2 rfl dX8_power_21 ?_
        exact z_lret B (by rw [hx, show nn.toNat = i.toNat by omega]) dX8_power_22
      · skip
        refine z_lln C hl 2 rfl dX8_power_11 ?_
        refine z_lln C hl 0 rfl dX8_power_12 ?_
        refine z_lmul C dX8_power_13 ?_
        refine z_lsn C hl [(3, .long (zJ (x * b))), (0, .long (zJ b)), (2, .int (zI nn)), (5, .int (zI i))] (by decide) rfl dX8_power_14 (fun ls hl => ?_)
        refine z_iinc C hl 3 rfl [(5, .int (zI (i + 1))), (3, .long (zJ (x * b))), (0, .long (zJ b)), (2, .int (zI nn))] (by decide) rfl dX8_power_15 (fun ls hl => ?_)
        refine z_goto C 5 (by decide) dX8_power_18 ?_
        exact ih5 (x * b) (i + 1) (by omega) (by omega) (by rw [show (i + 1).toNat = i.toNat + 1 by omega, Int.pow_succ, hx]) ls (lv_sub hl [2, 3, 1, 0] rfl)
  exact L5 ((nn - 0 : Int).toNat + 1) 1 0 (by omega) (by omega) (by rw [show (0 : Int).toNat = 0 from rfl, Int.pow_zero]) ls (lv_sub hl [2, 3, 1, 0] rfl)

set_option maxHeartbeats 4000000 in
set_option maxRecDepth 100000 in
theorem c_X9_power {l : Launch} {D : va_G} {q : Nat → Nat} {g : Nat → ClassId} {σ : Mem} (b nn : Int) (hn : 0 ≤ nn ∧ nn ≤ 6) : RO l yX9_power cX9_power 6 (some .long) 0 0 D q g σ [.long (zJ b), .int (zI nn)] (some (.long (zJ (b ^ nn.toNat)))) := by
  refine RO.intro (plainFor_of_name (by decide)) (Nat.le_of_ble_eq_true rfl) (fun p e s m args below meth c ls B hP hl => ?_)
  have C := B.1
  have hl : lv_has ls 6 [(0, .long (zJ b)), (2, .int (zI nn))] := hl
  refine z_lc1 C dX9_power_0 ?_
  refine z_lsn C hl [(3, .long (zJ 1)), (0, .long (zJ b)), (2, .int (zI nn))] (by decide) rfl dX9_power_1 (fun ls hl => ?_)
  refine z_ic C dX9_power_2 ?_
  refine z_ist C hl [(5, .int (zI 0)), (3, .long (zJ 1)), (0, .long (zJ b)), (2, .int (zI nn))] (by decide) rfl dX9_power_3 (fun ls hl => ?_)
  have L5 : ∀ (n : Nat) (x : Int) (i : Int)  , nn - i < (n : Int) → (0 ≤ i ∧ i ≤ nn) → (x = b ^ i.toNat) → ∀ ls : Array Slot, lv_has ls 6 [(0, .long (zJ b)), (2, .int (zI nn)), (3, .long (zJ x)), (5, .int (zI i))] → WO p l e 0 0 s m args below meth c (some (.long (zJ (b ^ nn.toNat)))) (F0 m 5 ls []) := by
    intro n
    induction n with
    | zero => intro x i hm hi hx ls hl; exact False.elim (by omega)
    | succ n ih =>
      intro x i hm hi hx ls hl
      have ih5 := ih; clear ih
      refine z_il C hl 3 rfl dX9_power_5 ?_
      refine z_iln C hl 1 rfl dX9_power_7 ?_
      refine z_icmp_ge C 21 (by decide) (by omega) (by omega) dX9_power_8 (fun w1 => ?_) (fun w1 => ?_)
      · skip
        refine z_lln C hl 2 rfl dX9_power_21 ?_
        exact z_lret B (by rw [hx, show nn.toNat = i.toNat by omega]) dX9_power_22
      · skip
        refine z_lln C hl 2 rfl dX9_power_11 ?_
        refine z_lln C hl 0 rfl dX9_power_12 ?_
        refine z_lmul C dX9_power_13 ?_
        refine z_lsn C hl [(3, .long (zJ (x * b))), (0, .long (zJ b)), (2, .int (zI nn)), (5, .int (zI i))] (by decide) rfl dX9_power_14 (fun ls hl => ?_)
        refine z_iinc C hl 3 rfl [(5, .int (zI (i + 1))), (3, .long (zJ (x * b))), (0, .long (zJ b)), (2, .int (zI nn))] (by decide) rfl dX9_power_15 (fun ls hl => ?_)
        refine z_goto C 5 (by decide) dX9_power_18 ?_
        exact ih5 (x * b) (i + 1) (by omega) (by omega) (by rw [show (i + 1).toNat = i.toNat + 1 by omega, Int.pow_succ, hx]) ls (lv_sub hl [2, 3, 1, 0] rfl)
  exact L5 ((nn - 0 : Int).toNat + 1) 1 0 (by omega) (by omega) (by rw [show (0 : Int).toNat = 0 from rfl, Int.pow_zero]) ls (lv_sub hl [2, 3, 1, 0] rfl)

set_option maxHeartbeats 4000000 in
set_option maxRecDepth 100000 in
theorem c_X8_commonDivisor {l : Launch} {D : va_G} {q : Nat → Nat} {g : Nat → ClassId} {σ : Mem} (a b : Int) (ha : 0 ≤ a ∧ a ≤ 65944160601201) (hb : 1 ≤ b ∧ b ≤ 65944160601201) : RO l yX8_commonDivisor cX8_commonDivisor 11 (some .long) 0 0 D q g σ [.long (zJ a), .long (zJ b)] (some (.long (zJ (gcdI a b)))) := by
  refine RO.intro (plainFor_of_name (by decide)) (Nat.le_of_ble_eq_true rfl) (fun p e s m args below meth c ls B hP hl => ?_)
  have C := B.1
  have hl : lv_has ls 11 [(0, .long (zJ a)), (2, .long (zJ b))] := hl
  refine z_lln C hl 0 rfl dX8_commonDivisor_0 ?_
  refine z_lst C hl [(4, .long (zJ a)), (0, .long (zJ a)), (2, .long (zJ b))] (by decide) rfl dX8_commonDivisor_1 (fun ls hl => ?_)
  refine z_lln C hl 2 rfl dX8_commonDivisor_3 ?_
  refine z_lst C hl [(6, .long (zJ b)), (4, .long (zJ a)), (0, .long (zJ a)), (2, .long (zJ b))] (by decide) rfl dX8_commonDivisor_4 (fun ls hl => ?_)
  refine z_ic C dX8_commonDivisor_6 ?_
  refine z_ist C hl [(8, .int (zI 0)), (6, .long (zJ b)), (4, .long (zJ a)), (0, .long (zJ a)), (2, .long (zJ b))] (by decide) rfl dX8_commonDivisor_7 (fun ls hl => ?_)
  have L9 : ∀ (n : Nat) (x : Int) (y : Int) (k : Int)  , 100 - k < (n : Int) → (0 ≤ k ∧ k ≤ 100) → (0 ≤ x ∧ x ≤ 65944160601201) → (0 ≤ y ∧ y ≤ 65944160601201) → (gcdI x y = gcdI a b) → ((k = 0 ∧ 0 < y) ∨ (1 ≤ k ∧ y < x ∧ x * y * 2 ^ (k - 1).toNat ≤ 2 ^ 92)) → ∀ ls : Array Slot, lv_has ls 11 [(0, .long (zJ a)), (2, .long (zJ b)), (4, .long (zJ x)), (6, .long (zJ y)), (8, .int (zI k))] → WO p l e 0 0 s m args below meth c (some (.long (zJ (gcdI a b)))) (F0 m 9 ls []) := by
    intro n
    induction n with
    | zero => intro x y k hm hk hx hy hg hp ls hl; exact False.elim (by omega)
    | succ n ih =>
      intro x y k hm hk hx hy hg hp ls hl
      have ih9 := ih; clear ih
      refine z_il C hl 4 rfl dX8_commonDivisor_9 ?_
      refine z_bp C dX8_commonDivisor_11 rfl ?_
      refine z_icmp_ge C 44 (by decide) (by omega) (by omega) dX8_commonDivisor_13 (fun w1 => ?_) (fun w1 => ?_)
      · skip
        have hy0 : y = 0 := by (rcases Int.lt_or_le 0 y with q | q); exact False.elim (hp.elim (fun h => by omega) (fun h => pot_end (x := x) (y := y) q h.2.1 (by have h3 := h.2.2; rw [show (k - 1).toNat = 99 by omega] at h3; exact h3))); omega
        rw [hy0, gcdI_0 hx.1] at hg
        refine z_ll C hl 2 rfl dX8_commonDivisor_44 ?_
        exact z_lret B hg dX8_commonDivisor_46
      · skip
        refine z_ll C hl 3 rfl dX8_commonDivisor_16 ?_
        refine z_lc0 C dX8_commonDivisor_18 ?_
        refine z_lc_le C 44 (by decide) (by omega) (by omega) dX8_commonDivisor_19 dX8_commonDivisor_20 (fun w2 => ?_) (fun w2 => ?_)
        · skip
          have hy0 : y = 0 := by omega
          rw [hy0, gcdI_0 hx.1] at hg
          refine z_ll C hl 2 rfl dX8_commonDivisor_44 ?_
          exact z_lret B hg dX8_commonDivisor_46
        · skip
          have hs := gcdI_step (x := x) (y := y) hx.1 (by omega)
          have hp2 : y * x.tmod y * 2 ^ k.toNat ≤ 2 ^ 92 := (hp.elim (fun h => by rw [show k.toNat = 0 by omega]; exact prod_b hy (by omega)) (fun h => by rw [show k.toNat = (k - 1).toNat + 1 by omega]; exact pot_step (by omega) h.2.1 h.2.2))
          refine z_ll C hl 2 rfl dX8_commonDivisor_23 ?_
          refine z_ll C hl 3 rfl dX8_commonDivisor_25 ?_
          refine z_lrem C (by omega) (by omega) (by omega) dX8_commonDivisor_27 ?_
          refine z_lst C hl [(9, .long (zJ (x.tmod y))), (0, .long (zJ a)), (2, .long (zJ b)), (4, .long (zJ x)), (6, .long (zJ y)), (8, .int (zI k))] (by decide) rfl dX8_commonDivisor_28 (fun ls hl => ?_)
          refine z_ll C hl 4 rfl dX8_commonDivisor_30 ?_
          refine z_lst C hl [(4, .long (zJ y)), (9, .long (zJ (x.tmod y))), (0, .long (zJ a)), (2, .long (zJ b)), (6, .long (zJ y)), (8, .int (zI k))] (by decide) rfl dX8_commonDivisor_32 (fun ls hl => ?_)
          refine z_ll C hl 1 rfl dX8_commonDivisor_34 ?_
          refine z_lst C hl [(6, .long (zJ (x.tmod y))), (4, .long (zJ y)), (9, .long (zJ (x.tmod y))), (0, .long (zJ a)), (2, .long (zJ b)), (8, .int (zI k))] (by decide) rfl dX8_commonDivisor_36 (fun ls hl => ?_)
          refine z_iinc C hl 5 rfl [(8, .int (zI (k + 1))), (6, .long (zJ (x.tmod y))), (4, .long (zJ y)), (9, .long (zJ (x.tmod y))), (0, .long (zJ a)), (2, .long (zJ b))] (by decide) rfl dX8_commonDivisor_38 (fun ls hl => ?_)
          refine z_goto C 9 (by decide) dX8_commonDivisor_41 ?_
          exact ih9 y (x.tmod y) (k + 1) (by omega) (by omega) (by omega) (by omega) (hs.1.trans hg) (Or.inr ⟨by omega, by omega, by rw [show (k + 1 - 1).toNat = k.toNat by omega]; exact hp2⟩) ls (lv_sub hl [4, 5, 2, 1, 0] rfl)
  exact L9 ((100 - 0 : Int).toNat + 1) a b 0 (by omega) (by omega) (by omega) (by omega) rfl (Or.inl ⟨rfl, by omega⟩) ls (lv_sub hl [3, 4, 2, 1, 0] rfl)

set_option maxHeartbeats 4000000 in
set_option maxRecDepth 100000 in
theorem c_X8_wrong {l : Launch} {D : va_G} {q : Nat → Nat} {g : Nat → ClassId} {σ : Mem} (a b nn pt : Int) (hI : TI σ) (hr_a : zR a) (hr_b : zR b) (hr_nn : zR nn) (hr_pt : zR pt) : RO l yX8_wrong cX8_wrong 15 (some .long) 1 30 D q g σ [.ref (q 0), .int (zI a), .int (zI b), .int (zI nn), .int (zI pt)] (some (.long (zJ (kWr (σ 8 2) a b nn pt)))) := by
  refine RO.intro (plainFor_of_name (by decide)) (Nat.le_of_ble_eq_true rfl) (fun p e s m args below meth c ls B hP hl => ?_)
  have C := B.1
  have hl : lv_has ls 15 [(0, .ref (q 0)), (1, .int (zI a)), (2, .int (zI b)), (3, .int (zI nn)), (4, .int (zI pt))] := hl
  have h8 := hI.2.1
  refine z_iln C hl 1 rfl dX8_wrong_0 ?_
  refine z_ic C dX8_wrong_1 ?_
  refine z_sp C dX8_wrong_2 rfl ?_
  refine z_sRO C hP hl (c_X8_within (σ := σ) a 0 200 (by omega) (by omega) (by omega))  wg_212 wg_1 wg_210 wg_211 cw_X8_within ⟨Nat.le_of_ble_eq_true rfl, Nat.le_of_ble_eq_true rfl⟩ rfl rfl (Nat.le_of_ble_eq_true rfl) dX8_wrong_5 ?_
  refine z_bif_eq C 22 (by decide) dX8_wrong_8 (fun w1 => ?_) (fun w1 => ?_)
  · skip
    refine z_ldc2 C (n := -2) wg_408 (by decide) dX8_wrong_22 ?_
    exact z_lret B (by unfold kWr; rw [if_pos (by omega)]) dX8_wrong_25
  · skip
    refine z_iln C hl 2 rfl dX8_wrong_11 ?_
    refine z_iln C hl 1 rfl dX8_wrong_12 ?_
    refine z_sp C dX8_wrong_13 rfl ?_
    refine z_sRO C hP hl (c_X8_within (σ := σ) b a 200 (by omega) (by omega) (by omega))  wg_212 wg_1 wg_210 wg_211 cw_X8_within ⟨Nat.le_of_ble_eq_true rfl, Nat.le_of_ble_eq_true rfl⟩ rfl rfl (Nat.le_of_ble_eq_true rfl) dX8_wrong_16 ?_
    refine z_bif_ne C 26 (by decide) dX8_wrong_19 (fun w2 => ?_) (fun w2 => ?_)
    · skip
      refine z_iln C hl 3 rfl dX8_wrong_26 ?_
      refine z_ic C dX8_wrong_27 ?_
      refine z_bp C dX8_wrong_28 rfl ?_
      refine z_sRO C hP hl (c_X8_within (σ := σ) nn 1 6 (by omega) (by omega) (by omega))  wg_212 wg_1 wg_210 wg_211 cw_X8_within ⟨Nat.le_of_ble_eq_true rfl, Nat.le_of_ble_eq_true rfl⟩ rfl rfl (Nat.le_of_ble_eq_true rfl) dX8_wrong_30 ?_
      refine z_bif_eq C 44 (by decide) dX8_wrong_33 (fun w3 => ?_) (fun w3 => ?_)
      · skip
        refine z_ldc2 C (n := -2) wg_408 (by decide) dX8_wrong_44 ?_
        exact z_lret B (by unfold kWr; rw [if_pos (by omega)]) dX8_wrong_47
      · skip
        refine z_il C hl 4 rfl dX8_wrong_36 ?_
        refine z_sRO C hP hl (c_X8_isEither (σ := σ) pt (by omega))  wg_247 wg_1 wg_245 wg_246 cw_X8_isEither ⟨Nat.le_of_ble_eq_true rfl, Nat.le_of_ble_eq_true rfl⟩ rfl rfl (Nat.le_of_ble_eq_true rfl) dX8_wrong_38 ?_
        refine z_bif_ne C 48 (by decide) dX8_wrong_41 (fun w4 => ?_) (fun w4 => ?_)
        · skip
          have hwb := kW_b (ear := σ 8 2) (a := a) (b := b) (n := nn) (by omega) (by omega) (by omega)
          have hgb := gcdI_b (a := kUp (σ 8 2) a b nn) (b := kLw a b nn) (by omega)
          have hpb := pow_b (e := b - a + 1) (q := kQk (σ 8 2) a b) (n := nn) (by omega) (by unfold kQk; omega) (by omega)
          have eU : kUp (σ 8 2) a b nn = (b - a + 1) ^ nn.toNat - (b - a + 1 - (max 0 (min b (σ 8 2 - 1) - a + 1))) ^ nn.toNat := rfl
          have eL : kLw a b nn = (b - a + 1) ^ nn.toNat := rfl
          rw [eU, eL] at hwb hgb
          refine z_iln C hl 2 rfl dX8_wrong_48 ?_
          refine z_iln C hl 1 rfl dX8_wrong_49 ?_
          refine z_isub C dX8_wrong_50 ?_
          refine z_ic C dX8_wrong_51 ?_
          refine z_iadd C dX8_wrong_52 ?_
          refine z_ist C hl [(5, .int (zI ((b - a) + 1))), (0, .ref (q 0)), (1, .int (zI a)), (2, .int (zI b)), (3, .int (zI nn)), (4, .int (zI pt))] (by decide) rfl dX8_wrong_53 (fun ls hl => ?_)
          refine z_ic C dX8_wrong_55 ?_
          refine z_iln C hl 3 rfl dX8_wrong_56 ?_
          refine z_aln C hl 1 rfl dX8_wrong_57 ?_
          refine gf_X8_10 C hP dX8_wrong_58 ?_
          refine gf_X8_83 C hP dX8_wrong_61 ?_
          refine z_ic C dX8_wrong_64 ?_
          refine z_ialk C hP (i := 8) (by decide) (fun _ => rfl) 2 rfl (by decide) (by decide) dX8_wrong_65 ?_
          refine z_ic C dX8_wrong_66 ?_
          refine z_isub C dX8_wrong_67 ?_
          refine z_sRO C hP hl (c_J9_min_7cf53 (σ := σ) b ((σ 8 2) - 1) (by omega) (by omega))  wg_288 wg_11 wg_409 wg_287 cw_J9_min_7cf53 ⟨Nat.le_of_ble_eq_true rfl, Nat.le_of_ble_eq_true rfl⟩ rfl rfl (Nat.le_of_ble_eq_true rfl) dX8_wrong_68 ?_
          refine z_iln C hl 2 rfl dX8_wrong_71 ?_
          refine z_isub C dX8_wrong_72 ?_
          refine z_ic C dX8_wrong_73 ?_
          refine z_iadd C dX8_wrong_74 ?_
          refine z_sRO C hP hl (c_J9_max_7cf53 (σ := σ) 0 (((min b ((σ 8 2) - 1)) - a) + 1) (by omega) (by omega))  wg_298 wg_11 wg_410 wg_297 cw_J9_max_7cf53 ⟨Nat.le_of_ble_eq_true rfl, Nat.le_of_ble_eq_true rfl⟩ rfl rfl (Nat.le_of_ble_eq_true rfl) dX8_wrong_75 ?_
          refine z_ist C hl [(6, .int (zI (max 0 (((min b ((σ 8 2) - 1)) - a) + 1)))), (5, .int (zI ((b - a) + 1))), (0, .ref (q 0)), (1, .int (zI a)), (2, .int (zI b)), (3, .int (zI nn)), (4, .int (zI pt))] (by decide) rfl dX8_wrong_78 (fun ls hl => ?_)
          refine z_il C hl 1 rfl dX8_wrong_80 ?_
          refine z_i2l C (by omega) dX8_wrong_82 ?_
          refine z_iln C hl 5 rfl dX8_wrong_83 ?_
          refine z_sRO C hP hl (c_X8_power (σ := σ) ((b - a) + 1) nn (by omega))  wg_413 wg_1 wg_411 wg_412 cw_X8_power ⟨Nat.le_of_ble_eq_true rfl, Nat.le_of_ble_eq_true rfl⟩ rfl rfl (Nat.le_of_ble_eq_true rfl) dX8_wrong_84 ?_
          refine z_lst C hl [(7, .long (zJ (((b - a) + 1) ^ nn.toNat))), (6, .int (zI (max 0 (((min b ((σ 8 2) - 1)) - a) + 1)))), (5, .int (zI ((b - a) + 1))), (0, .ref (q 0)), (1, .int (zI a)), (2, .int (zI b)), (3, .int (zI nn)), (4, .int (zI pt))] (by decide) rfl dX8_wrong_87 (fun ls hl => ?_)
          refine z_ll C hl 0 rfl dX8_wrong_89 ?_
          refine z_il C hl 2 rfl dX8_wrong_91 ?_
          refine z_il C hl 1 rfl dX8_wrong_93 ?_
          refine z_isub C dX8_wrong_95 ?_
          refine z_i2l C (by omega) dX8_wrong_96 ?_
          refine z_iln C hl 6 rfl dX8_wrong_97 ?_
          refine z_sRO C hP hl (c_X8_power (σ := σ) (((b - a) + 1) - (max 0 (((min b ((σ 8 2) - 1)) - a) + 1))) nn (by omega))  wg_413 wg_1 wg_411 wg_412 cw_X8_power ⟨Nat.le_of_ble_eq_true rfl, Nat.le_of_ble_eq_true rfl⟩ rfl rfl (Nat.le_of_ble_eq_true rfl) dX8_wrong_98 ?_
          refine z_lsub C dX8_wrong_101 ?_
          refine z_lst C hl [(9, .long (zJ ((((b - a) + 1) ^ nn.toNat) - ((((b - a) + 1) - (max 0 (((min b ((σ 8 2) - 1)) - a) + 1))) ^ nn.toNat)))), (7, .long (zJ (((b - a) + 1) ^ nn.toNat))), (6, .int (zI (max 0 (((min b ((σ 8 2) - 1)) - a) + 1)))), (5, .int (zI ((b - a) + 1))), (0, .ref (q 0)), (1, .int (zI a)), (2, .int (zI b)), (3, .int (zI nn)), (4, .int (zI pt))] (by decide) rfl dX8_wrong_102 (fun ls hl => ?_)
          refine z_il C hl 8 rfl dX8_wrong_104 ?_
          refine z_if_ne C 114 (by decide) (by omega) dX8_wrong_106 (fun w5 => ?_) (fun w5 => ?_)
          · skip
            refine z_ll C hl 1 rfl dX8_wrong_114 ?_
            refine z_lst C hl [(11, .long (zJ (((b - a) + 1) ^ nn.toNat))), (9, .long (zJ ((((b - a) + 1) ^ nn.toNat) - ((((b - a) + 1) - (max 0 (((min b ((σ 8 2) - 1)) - a) + 1))) ^ nn.toNat)))), (7, .long (zJ (((b - a) + 1) ^ nn.toNat))), (6, .int (zI (max 0 (((min b ((σ 8 2) - 1)) - a) + 1)))), (5, .int (zI ((b - a) + 1))), (0, .ref (q 0)), (1, .int (zI a)), (2, .int (zI b)), (3, .int (zI nn)), (4, .int (zI pt))] (by decide) rfl dX8_wrong_116 (fun ls hl => ?_)
            refine z_ll C hl 1 rfl dX8_wrong_118 ?_
            refine z_ll C hl 2 rfl dX8_wrong_120 ?_
            refine z_sRO C hP hl (c_X8_commonDivisor (σ := σ) ((((b - a) + 1) ^ nn.toNat) - ((((b - a) + 1) - (max 0 (((min b ((σ 8 2) - 1)) - a) + 1))) ^ nn.toNat)) (((b - a) + 1) ^ nn.toNat) (by omega) (by omega))  wg_416 wg_1 wg_414 wg_415 cw_X8_commonDivisor ⟨Nat.le_of_ble_eq_true rfl, Nat.le_of_ble_eq_true rfl⟩ rfl rfl (Nat.le_of_ble_eq_true rfl) dX8_wrong_122 ?_
            refine z_lst C hl [(13, .long (zJ (gcdI ((((b - a) + 1) ^ nn.toNat) - ((((b - a) + 1) - (max 0 (((min b ((σ 8 2) - 1)) - a) + 1))) ^ nn.toNat)) (((b - a) + 1) ^ nn.toNat)))), (11, .long (zJ (((b - a) + 1) ^ nn.toNat))), (9, .long (zJ ((((b - a) + 1) ^ nn.toNat) - ((((b - a) + 1) - (max 0 (((min b ((σ 8 2) - 1)) - a) + 1))) ^ nn.toNat)))), (7, .long (zJ (((b - a) + 1) ^ nn.toNat))), (6, .int (zI (max 0 (((min b ((σ 8 2) - 1)) - a) + 1)))), (5, .int (zI ((b - a) + 1))), (0, .ref (q 0)), (1, .int (zI a)), (2, .int (zI b)), (3, .int (zI nn)), (4, .int (zI pt))] (by decide) rfl dX8_wrong_125 (fun ls hl => ?_)
            refine z_ll C hl 0 rfl dX8_wrong_127 ?_
            refine z_lc1 C dX8_wrong_129 ?_
            refine z_lc_ge C 139 (by decide) (by omega) (by omega) dX8_wrong_130 dX8_wrong_131 (fun w6 => ?_) (fun w6 => False.elim (by omega))
            refine z_ll C hl 1 rfl dX8_wrong_139 ?_
            refine z_ll C hl 0 rfl dX8_wrong_141 ?_
            refine z_ldiv C (by omega) (by omega) (by omega) dX8_wrong_143 ?_
            exact z_lret B (by unfold kWr; rw [if_neg (by omega), if_neg (by omega), eU, eL]) dX8_wrong_144
          · skip
            refine z_ll C hl 0 rfl dX8_wrong_109 ?_
            refine z_goto C 116 (by decide) dX8_wrong_111 ?_
            refine z_lst C hl [(11, .long (zJ ((((b - a) + 1) ^ nn.toNat) - ((((b - a) + 1) - (max 0 (((min b ((σ 8 2) - 1)) - a) + 1))) ^ nn.toNat)))), (9, .long (zJ ((((b - a) + 1) ^ nn.toNat) - ((((b - a) + 1) - (max 0 (((min b ((σ 8 2) - 1)) - a) + 1))) ^ nn.toNat)))), (7, .long (zJ (((b - a) + 1) ^ nn.toNat))), (6, .int (zI (max 0 (((min b ((σ 8 2) - 1)) - a) + 1)))), (5, .int (zI ((b - a) + 1))), (0, .ref (q 0)), (1, .int (zI a)), (2, .int (zI b)), (3, .int (zI nn)), (4, .int (zI pt))] (by decide) rfl dX8_wrong_116 (fun ls hl => ?_)
            refine z_ll C hl 1 rfl dX8_wrong_118 ?_
            refine z_ll C hl 2 rfl dX8_wrong_120 ?_
            refine z_sRO C hP hl (c_X8_commonDivisor (σ := σ) ((((b - a) + 1) ^ nn.toNat) - ((((b - a) + 1) - (max 0 (((min b ((σ 8 2) - 1)) - a) + 1))) ^ nn.toNat)) (((b - a) + 1) ^ nn.toNat) (by omega) (by omega))  wg_416 wg_1 wg_414 wg_415 cw_X8_commonDivisor ⟨Nat.le_of_ble_eq_true rfl, Nat.le_of_ble_eq_true rfl⟩ rfl rfl (Nat.le_of_ble_eq_true rfl) dX8_wrong_122 ?_
            refine z_lst C hl [(13, .long (zJ (gcdI ((((b - a) + 1) ^ nn.toNat) - ((((b - a) + 1) - (max 0 (((min b ((σ 8 2) - 1)) - a) + 1))) ^ nn.toNat)) (((b - a) + 1) ^ nn.toNat)))), (11, .long (zJ ((((b - a) + 1) ^ nn.toNat) - ((((b - a) + 1) - (max 0 (((min b ((σ 8 2) - 1)) - a) + 1))) ^ nn.toNat)))), (9, .long (zJ ((((b - a) + 1) ^ nn.toNat) - ((((b - a) + 1) - (max 0 (((min b ((σ 8 2) - 1)) - a) + 1))) ^ nn.toNat)))), (7, .long (zJ (((b - a) + 1) ^ nn.toNat))), (6, .int (zI (max 0 (((min b ((σ 8 2) - 1)) - a) + 1)))), (5, .int (zI ((b - a) + 1))), (0, .ref (q 0)), (1, .int (zI a)), (2, .int (zI b)), (3, .int (zI nn)), (4, .int (zI pt))] (by decide) rfl dX8_wrong_125 (fun ls hl => ?_)
            refine z_ll C hl 0 rfl dX8_wrong_127 ?_
            refine z_lc1 C dX8_wrong_129 ?_
            refine z_lc_ge C 139 (by decide) (by omega) (by omega) dX8_wrong_130 dX8_wrong_131 (fun w7 => ?_) (fun w7 => False.elim (by omega))
            refine z_ll C hl 1 rfl dX8_wrong_139 ?_
            refine z_ll C hl 0 rfl dX8_wrong_141 ?_
            refine z_ldiv C (by omega) (by omega) (by omega) dX8_wrong_143 ?_
            exact z_lret B (by unfold kWr; rw [if_neg (by omega), if_pos (by omega), eU, eL]) dX8_wrong_144
        · skip
          refine z_ldc2 C (n := -2) wg_408 (by decide) dX8_wrong_44 ?_
          exact z_lret B (by unfold kWr; rw [if_pos (by omega)]) dX8_wrong_47
    · skip
      refine z_ldc2 C (n := -2) wg_408 (by decide) dX8_wrong_22 ?_
      exact z_lret B (by unfold kWr; rw [if_pos (by omega)]) dX8_wrong_25

set_option maxHeartbeats 4000000 in
set_option maxRecDepth 100000 in
theorem c_X9_wrong {l : Launch} {D : va_G} {q : Nat → Nat} {g : Nat → ClassId} {σ : Mem} (a b nn pt : Int) (hI : TI σ) (hR : MR σ) (hr_a : zR a) (hr_b : zR b) (hr_nn : zR nn) (hr_pt : zR pt) : RO l yX9_wrong cX9_wrong 19 (some .long) 1 25 D q g σ [.ref (q 44), .int (zI a), .int (zI b), .int (zI nn), .int (zI pt)] (some (.long (zJ (kWr (σ 8 2) a b nn pt)))) := by
  refine RO.intro (plainFor_of_name (by decide)) (Nat.le_of_ble_eq_true rfl) (fun p e s m args below meth c ls B hP hl => ?_)
  have C := B.1
  have hl : lv_has ls 19 [(0, .ref (q 44)), (1, .int (zI a)), (2, .int (zI b)), (3, .int (zI nn)), (4, .int (zI pt))] := hl
  have h8 := hI.2.1
  have hh := hR.1
  refine z_iln C hl 1 rfl dX9_wrong_0 ?_
  refine z_i2l C (by omega) dX9_wrong_1 ?_
  refine z_lc0 C dX9_wrong_2 ?_
  refine z_iln C hl 2 rfl dX9_wrong_3 ?_
  refine z_i2l C (by omega) dX9_wrong_4 ?_
  refine z_sRO C hP hl (c_X9_in (σ := σ) a 0 b (by omega) (by omega) (by omega))  wg_679 wg_10 wg_677 wg_678 cw_X9_in ⟨Nat.le_of_ble_eq_true rfl, Nat.le_of_ble_eq_true rfl⟩ rfl rfl (Nat.le_of_ble_eq_true rfl) dX9_wrong_5 ?_
  refine z_bif_eq C 46 (by decide) dX9_wrong_8 (fun w1 => ?_) (fun w1 => ?_)
  · skip
    refine z_ldc2 C (n := -2) wg_804 (by decide) dX9_wrong_46 ?_
    exact z_lret B (by unfold kWr; rw [if_pos (by omega)]) dX9_wrong_49
  · skip
    refine z_iln C hl 2 rfl dX9_wrong_11 ?_
    refine z_i2l C (by omega) dX9_wrong_12 ?_
    refine z_lc0 C dX9_wrong_13 ?_
    refine z_ldc2 C (n := 200) wg_704 (by decide) dX9_wrong_14 ?_
    refine z_sRO C hP hl (c_X9_in (σ := σ) b 0 200 (by omega) (by omega) (by omega))  wg_679 wg_10 wg_677 wg_678 cw_X9_in ⟨Nat.le_of_ble_eq_true rfl, Nat.le_of_ble_eq_true rfl⟩ rfl rfl (Nat.le_of_ble_eq_true rfl) dX9_wrong_17 ?_
    refine z_bif_eq C 46 (by decide) dX9_wrong_20 (fun w2 => ?_) (fun w2 => ?_)
    · skip
      refine z_ldc2 C (n := -2) wg_804 (by decide) dX9_wrong_46 ?_
      exact z_lret B (by unfold kWr; rw [if_pos (by omega)]) dX9_wrong_49
    · skip
      refine z_iln C hl 3 rfl dX9_wrong_23 ?_
      refine z_i2l C (by omega) dX9_wrong_24 ?_
      refine z_lc1 C dX9_wrong_25 ?_
      refine z_ldc2 C (n := 6) wg_803 (by decide) dX9_wrong_26 ?_
      refine z_sRO C hP hl (c_X9_in (σ := σ) nn 1 6 (by omega) (by omega) (by omega))  wg_679 wg_10 wg_677 wg_678 cw_X9_in ⟨Nat.le_of_ble_eq_true rfl, Nat.le_of_ble_eq_true rfl⟩ rfl rfl (Nat.le_of_ble_eq_true rfl) dX9_wrong_29 ?_
      refine z_bif_eq C 46 (by decide) dX9_wrong_32 (fun w3 => ?_) (fun w3 => ?_)
      · skip
        refine z_ldc2 C (n := -2) wg_804 (by decide) dX9_wrong_46 ?_
        exact z_lret B (by unfold kWr; rw [if_pos (by omega)]) dX9_wrong_49
      · skip
        refine z_il C hl 4 rfl dX9_wrong_35 ?_
        refine z_i2l C (by omega) dX9_wrong_37 ?_
        refine z_lc0 C dX9_wrong_38 ?_
        refine z_lc1 C dX9_wrong_39 ?_
        refine z_sRO C hP hl (c_X9_in (σ := σ) pt 0 1 (by omega) (by omega) (by omega))  wg_679 wg_10 wg_677 wg_678 cw_X9_in ⟨Nat.le_of_ble_eq_true rfl, Nat.le_of_ble_eq_true rfl⟩ rfl rfl (Nat.le_of_ble_eq_true rfl) dX9_wrong_40 ?_
        refine z_bif_ne C 50 (by decide) dX9_wrong_43 (fun w4 => ?_) (fun w4 => ?_)
        · skip
          have hwb := kW_b (ear := σ 8 2) (a := a) (b := b) (n := nn) (by omega) (by omega) (by omega)
          have hgb := gcdI_b (a := kUp (σ 8 2) a b nn) (b := kLw a b nn) (by omega)
          have hpb := pow_b (e := b - a + 1) (q := kQk (σ 8 2) a b) (n := nn) (by omega) (by unfold kQk; omega) (by omega)
          have eL : kLw a b nn = (b - a + 1) ^ nn.toNat := rfl
          refine z_iln C hl 2 rfl dX9_wrong_50 ?_
          refine z_iln C hl 1 rfl dX9_wrong_51 ?_
          refine z_isub C dX9_wrong_52 ?_
          refine z_ic C dX9_wrong_53 ?_
          refine z_iadd C dX9_wrong_54 ?_
          refine z_i2l C (by omega) dX9_wrong_55 ?_
          refine z_lst C hl [(5, .long (zJ ((b - a) + 1))), (0, .ref (q 44)), (1, .int (zI a)), (2, .int (zI b)), (3, .int (zI nn)), (4, .int (zI pt))] (by decide) rfl dX9_wrong_56 (fun ls hl => ?_)
          refine z_lc0 C dX9_wrong_58 ?_
          refine z_lst C hl [(7, .long (zJ 0)), (5, .long (zJ ((b - a) + 1))), (0, .ref (q 44)), (1, .int (zI a)), (2, .int (zI b)), (3, .int (zI nn)), (4, .int (zI pt))] (by decide) rfl dX9_wrong_59 (fun ls hl => ?_)
          refine z_iln C hl 3 rfl dX9_wrong_61 ?_
          refine z_ist C hl [(9, .int (zI a)), (7, .long (zJ 0)), (5, .long (zJ ((b - a) + 1))), (0, .ref (q 44)), (1, .int (zI a)), (2, .int (zI b)), (3, .int (zI nn)), (4, .int (zI pt))] (by decide) rfl dX9_wrong_62 (fun ls hl => ?_)
          have L64 : ∀ (n : Nat) (q1 : Int) (k : Int)  , b + 1 - k < (n : Int) → (a ≤ k ∧ k ≤ b + 1) → (q1 = max 0 (min (k - 1) (σ 8 2 - 1) - a + 1)) → ∀ ls : Array Slot, lv_has ls 19 [(0, .ref (q 44)), (1, .int (zI a)), (2, .int (zI b)), (3, .int (zI nn)), (4, .int (zI pt)), (5, .long (zJ ((b - a) + 1))), (7, .long (zJ q1)), (9, .int (zI k))] → WO p l e 1 25 s m args below meth c (some (.long (zJ (kWr (σ 8 2) a b nn pt)))) (F0 m 64 ls []) := by
            intro n
            induction n with
            | zero => intro q1 k hm hk hq1 ls hl; exact False.elim (by omega)
            | succ n ih =>
              intro q1 k hm hk hq1 ls hl
              have ih64 := ih; clear ih
              refine z_il C hl 7 rfl dX9_wrong_64 ?_
              refine z_iln C hl 2 rfl dX9_wrong_66 ?_
              refine z_icmp_gt C 95 (by decide) (by omega) (by omega) dX9_wrong_67 (fun w5 => ?_) (fun w5 => ?_)
              · skip
                have hqk : q1 = kQk (σ 8 2) a b := by unfold kQk; omega
                have eU : kUp (σ 8 2) a b nn = (b - a + 1) ^ nn.toNat - (b - a + 1 - q1) ^ nn.toNat := by rw [hqk]; rfl
                have hwb2 := hwb
                rw [eU, eL] at hwb2
                refine z_ll C hl 5 rfl dX9_wrong_95 ?_
                refine z_iln C hl 3 rfl dX9_wrong_97 ?_
                refine z_sRO C hP hl (c_X9_power (σ := σ) ((b - a) + 1) nn (by omega))  wg_807 wg_10 wg_805 wg_806 cw_X9_power ⟨Nat.le_of_ble_eq_true rfl, Nat.le_of_ble_eq_true rfl⟩ rfl rfl (Nat.le_of_ble_eq_true rfl) dX9_wrong_98 ?_
                refine z_lst C hl [(9, .long (zJ (((b - a) + 1) ^ nn.toNat))), (0, .ref (q 44)), (1, .int (zI a)), (2, .int (zI b)), (3, .int (zI nn)), (4, .int (zI pt)), (5, .long (zJ ((b - a) + 1))), (7, .long (zJ q1))] (by decide) rfl dX9_wrong_101 (fun ls hl => ?_)
                refine z_ll C hl 0 rfl dX9_wrong_103 ?_
                refine z_ll C hl 6 rfl dX9_wrong_105 ?_
                refine z_ll C hl 7 rfl dX9_wrong_107 ?_
                refine z_lsub C dX9_wrong_109 ?_
                refine z_iln C hl 4 rfl dX9_wrong_110 ?_
                refine z_sRO C hP hl (c_X9_power (σ := σ) (((b - a) + 1) - q1) nn (by omega))  wg_807 wg_10 wg_805 wg_806 cw_X9_power ⟨Nat.le_of_ble_eq_true rfl, Nat.le_of_ble_eq_true rfl⟩ rfl rfl (Nat.le_of_ble_eq_true rfl) dX9_wrong_111 ?_
                refine z_lsub C dX9_wrong_114 ?_
                refine z_lst C hl [(11, .long (zJ ((((b - a) + 1) ^ nn.toNat) - ((((b - a) + 1) - q1) ^ nn.toNat)))), (9, .long (zJ (((b - a) + 1) ^ nn.toNat))), (0, .ref (q 44)), (1, .int (zI a)), (2, .int (zI b)), (3, .int (zI nn)), (4, .int (zI pt)), (5, .long (zJ ((b - a) + 1))), (7, .long (zJ q1))] (by decide) rfl dX9_wrong_115 (fun ls hl => ?_)
                refine z_ll C hl 0 rfl dX9_wrong_117 ?_
                refine z_lst C hl [(13, .long (zJ ((((b - a) + 1) ^ nn.toNat) - ((((b - a) + 1) - q1) ^ nn.toNat)))), (11, .long (zJ ((((b - a) + 1) ^ nn.toNat) - ((((b - a) + 1) - q1) ^ nn.toNat)))), (9, .long (zJ (((b - a) + 1) ^ nn.toNat))), (0, .ref (q 44)), (1, .int (zI a)), (2, .int (zI b)), (3, .int (zI nn)), (4, .int (zI pt)), (5, .long (zJ ((b - a) + 1))), (7, .long (zJ q1))] (by decide) rfl dX9_wrong_119 (fun ls hl => ?_)
                refine z_ll C hl 2 rfl dX9_wrong_121 ?_
                refine z_lst C hl [(15, .long (zJ (((b - a) + 1) ^ nn.toNat))), (13, .long (zJ ((((b - a) + 1) ^ nn.toNat) - ((((b - a) + 1) - q1) ^ nn.toNat)))), (11, .long (zJ ((((b - a) + 1) ^ nn.toNat) - ((((b - a) + 1) - q1) ^ nn.toNat)))), (9, .long (zJ (((b - a) + 1) ^ nn.toNat))), (0, .ref (q 44)), (1, .int (zI a)), (2, .int (zI b)), (3, .int (zI nn)), (4, .int (zI pt)), (5, .long (zJ ((b - a) + 1))), (7, .long (zJ q1))] (by decide) rfl dX9_wrong_123 (fun ls hl => ?_)
                have L125 : ∀ (n : Nat) (x : Int) (y : Int)  , y < (n : Int) → (0 ≤ x ∧ x ≤ 65944160601201) → (0 ≤ y ∧ y ≤ 65944160601201) → (gcdI x y = gcdI (kUp (σ 8 2) a b nn) (kLw a b nn)) → ∀ ls : Array Slot, lv_has ls 19 [(0, .ref (q 44)), (1, .int (zI a)), (2, .int (zI b)), (3, .int (zI nn)), (4, .int (zI pt)), (5, .long (zJ ((b - a) + 1))), (7, .long (zJ q1)), (9, .long (zJ (((b - a) + 1) ^ nn.toNat))), (11, .long (zJ ((((b - a) + 1) ^ nn.toNat) - ((((b - a) + 1) - q1) ^ nn.toNat)))), (13, .long (zJ x)), (15, .long (zJ y))] → WO p l e 1 25 s m args below meth c (some (.long (zJ (kWr (σ 8 2) a b nn pt)))) (F0 m 125 ls []) := by
                  intro n
                  induction n with
                  | zero => intro x y hm hx hy hg ls hl; exact False.elim (by omega)
                  | succ n ih =>
                    intro x y hm hx hy hg ls hl
                    have ih125 := ih; clear ih
                    refine z_ll C hl 10 rfl dX9_wrong_125 ?_
                    refine z_lc0 C dX9_wrong_127 ?_
                    refine z_lc_eq C 150 (by decide) (by omega) (by omega) dX9_wrong_128 dX9_wrong_129 (fun w6 => ?_) (fun w6 => ?_)
                    · skip
                      have hy0 : y = 0 := by omega
                      rw [hy0, gcdI_0 hx.1] at hg
                      rw [← hg] at hgb
                      refine z_il C hl 4 rfl dX9_wrong_150 ?_
                      refine z_if_ne C 163 (by decide) (by omega) dX9_wrong_152 (fun w7 => ?_) (fun w7 => ?_)
                      · skip
                        refine z_ll C hl 7 rfl dX9_wrong_163 ?_
                        refine z_ll C hl 9 rfl dX9_wrong_165 ?_
                        refine z_ldiv C (by omega) (by omega) (by omega) dX9_wrong_167 ?_
                        exact z_lret B (by unfold kWr; rw [if_neg (by omega), ← hg, if_neg (by omega), eL]) dX9_wrong_168
                      · skip
                        refine z_ll C hl 8 rfl dX9_wrong_155 ?_
                        refine z_ll C hl 9 rfl dX9_wrong_157 ?_
                        refine z_ldiv C (by omega) (by omega) (by omega) dX9_wrong_159 ?_
                        refine z_goto C 168 (by decide) dX9_wrong_160 ?_
                        exact z_lret B (by unfold kWr; rw [if_neg (by omega), ← hg, if_pos (by omega), eU]) dX9_wrong_168
                    · skip
                      have hs := gcdI_step (x := x) (y := y) hx.1 (by omega)
                      refine z_ll C hl 9 rfl dX9_wrong_132 ?_
                      refine z_ll C hl 10 rfl dX9_wrong_134 ?_
                      refine z_lrem C (by omega) (by omega) (by omega) dX9_wrong_136 ?_
                      refine z_lst C hl [(17, .long (zJ (x.tmod y))), (0, .ref (q 44)), (1, .int (zI a)), (2, .int (zI b)), (3, .int (zI nn)), (4, .int (zI pt)), (5, .long (zJ ((b - a) + 1))), (7, .long (zJ q1)), (9, .long (zJ (((b - a) + 1) ^ nn.toNat))), (11, .long (zJ ((((b - a) + 1) ^ nn.toNat) - ((((b - a) + 1) - q1) ^ nn.toNat)))), (13, .long (zJ x)), (15, .long (zJ y))] (by decide) rfl dX9_wrong_137 (fun ls hl => ?_)
                      refine z_ll C hl 11 rfl dX9_wrong_139 ?_
                      refine z_lst C hl [(13, .long (zJ y)), (17, .long (zJ (x.tmod y))), (0, .ref (q 44)), (1, .int (zI a)), (2, .int (zI b)), (3, .int (zI nn)), (4, .int (zI pt)), (5, .long (zJ ((b - a) + 1))), (7, .long (zJ q1)), (9, .long (zJ (((b - a) + 1) ^ nn.toNat))), (11, .long (zJ ((((b - a) + 1) ^ nn.toNat) - ((((b - a) + 1) - q1) ^ nn.toNat)))), (15, .long (zJ y))] (by decide) rfl dX9_wrong_141 (fun ls hl => ?_)
                      refine z_ll C hl 1 rfl dX9_wrong_143 ?_
                      refine z_lst C hl [(15, .long (zJ (x.tmod y))), (13, .long (zJ y)), (17, .long (zJ (x.tmod y))), (0, .ref (q 44)), (1, .int (zI a)), (2, .int (zI b)), (3, .int (zI nn)), (4, .int (zI pt)), (5, .long (zJ ((b - a) + 1))), (7, .long (zJ q1)), (9, .long (zJ (((b - a) + 1) ^ nn.toNat))), (11, .long (zJ ((((b - a) + 1) ^ nn.toNat) - ((((b - a) + 1) - q1) ^ nn.toNat))))] (by decide) rfl dX9_wrong_145 (fun ls hl => ?_)
                      refine z_goto C 125 (by decide) dX9_wrong_147 ?_
                      exact ih125 y (x.tmod y) (by omega) (by omega) (by omega) (hs.1.trans hg) ls (lv_sub hl [3, 4, 5, 6, 7, 8, 9, 10, 11, 1, 0] rfl)
                exact L125 (((((b - a) + 1) ^ nn.toNat) : Int).toNat + 1) ((((b - a) + 1) ^ nn.toNat) - ((((b - a) + 1) - q1) ^ nn.toNat)) (((b - a) + 1) ^ nn.toNat) (by omega) (by omega) (by omega) (by rw [eU, eL]) ls (lv_sub hl [4, 5, 6, 7, 8, 9, 10, 3, 2, 1, 0] rfl)
              · skip
                refine z_ll C hl 6 rfl dX9_wrong_70 ?_
                refine z_il C hl 7 rfl dX9_wrong_72 ?_
                refine z_aln C hl 0 rfl dX9_wrong_74 ?_
                refine gf_X9_62 C hP dX9_wrong_75 ?_
                refine z_icmp_ge C 85 (by decide) (by omega) (by omega) dX9_wrong_78 (fun w8 => ?_) (fun w8 => ?_)
                · skip
                  refine z_lc0 C dX9_wrong_85 ?_
                  refine z_ladd C dX9_wrong_86 ?_
                  refine z_lst C hl [(7, .long (zJ (q1 + 0))), (0, .ref (q 44)), (1, .int (zI a)), (2, .int (zI b)), (3, .int (zI nn)), (4, .int (zI pt)), (5, .long (zJ ((b - a) + 1))), (9, .int (zI k))] (by decide) rfl dX9_wrong_87 (fun ls hl => ?_)
                  refine z_iinc C hl 7 rfl [(9, .int (zI (k + 1))), (7, .long (zJ (q1 + 0))), (0, .ref (q 44)), (1, .int (zI a)), (2, .int (zI b)), (3, .int (zI nn)), (4, .int (zI pt)), (5, .long (zJ ((b - a) + 1)))] (by decide) rfl dX9_wrong_89 (fun ls hl => ?_)
                  refine z_goto C 64 (by decide) dX9_wrong_92 ?_
                  exact ih64 (q1 + 0) (k + 1) (by omega) (by omega) (by omega) ls (lv_sub hl [2, 3, 4, 5, 6, 7, 1, 0] rfl)
                · skip
                  refine z_lc1 C dX9_wrong_81 ?_
                  refine z_goto C 86 (by decide) dX9_wrong_82 ?_
                  refine z_ladd C dX9_wrong_86 ?_
                  refine z_lst C hl [(7, .long (zJ (q1 + 1))), (0, .ref (q 44)), (1, .int (zI a)), (2, .int (zI b)), (3, .int (zI nn)), (4, .int (zI pt)), (5, .long (zJ ((b - a) + 1))), (9, .int (zI k))] (by decide) rfl dX9_wrong_87 (fun ls hl => ?_)
                  refine z_iinc C hl 7 rfl [(9, .int (zI (k + 1))), (7, .long (zJ (q1 + 1))), (0, .ref (q 44)), (1, .int (zI a)), (2, .int (zI b)), (3, .int (zI nn)), (4, .int (zI pt)), (5, .long (zJ ((b - a) + 1)))] (by decide) rfl dX9_wrong_89 (fun ls hl => ?_)
                  refine z_goto C 64 (by decide) dX9_wrong_92 ?_
                  exact ih64 (q1 + 1) (k + 1) (by omega) (by omega) (by omega) ls (lv_sub hl [2, 3, 4, 5, 6, 7, 1, 0] rfl)
          exact L64 ((b + 1 - a : Int).toNat + 1) 0 a (by omega) (by omega) (by omega) ls (lv_sub hl [3, 4, 5, 6, 7, 2, 1, 0] rfl)
        · skip
          refine z_ldc2 C (n := -2) wg_804 (by decide) dX9_wrong_46 ?_
          exact z_lret B (by unfold kWr; rw [if_pos (by omega)]) dX9_wrong_49
