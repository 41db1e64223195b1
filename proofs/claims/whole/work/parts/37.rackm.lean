set_option maxHeartbeats 4000000 in
set_option maxRecDepth 100000 in
theorem c_X9_ones {l : Launch} {D : va_G} {q : Nat → Nat} {g : Nat → ClassId} {σ : Mem} (x : Int) (hx : 0 ≤ x ∧ x ≤ 255) : RO l yX9_ones cX9_ones 3 (some .int) 0 0 D q g σ [.int (zI x)] (some (.int (zI (pc x)))) := by
  refine RO.intro (plainFor_of_name (by decide)) (Nat.le_of_ble_eq_true rfl) (fun p e s m args below meth c ls B hP hl => ?_)
  have C := B.1
  have hl : lv_has ls 3 [(0, .int (zI x))] := hl
  refine z_ic C dX9_ones_0 ?_
  refine z_isn C hl [(1, .int (zI 0)), (0, .int (zI x))] (by decide) rfl dX9_ones_1 (fun ls hl => ?_)
  refine z_ic C dX9_ones_2 ?_
  refine z_isn C hl [(2, .int (zI 0)), (1, .int (zI 0)), (0, .int (zI x))] (by decide) rfl dX9_ones_3 (fun ls hl => ?_)
  have L4 : ∀ (n : Nat) (y : Int) (i : Int)  , 8 - i < (n : Int) → (0 ≤ i ∧ i ≤ 8) → (y = pcF x i.toNat) → ∀ ls : Array Slot, lv_has ls 3 [(0, .int (zI x)), (1, .int (zI y)), (2, .int (zI i))] → WO p l e 0 0 s m args below meth c (some (.int (zI (pc x)))) (F0 m 4 ls []) := by
    intro n
    induction n with
    | zero => intro y i hm hi hy ls hl; exact False.elim (by omega)
    | succ n ih =>
      intro y i hm hi hy ls hl
      have ih4 := ih; clear ih
      refine z_iln C hl 2 rfl dX9_ones_4 ?_
      refine z_bp C dX9_ones_5 rfl ?_
      refine z_icmp_ge C 24 (by decide) (by omega) (by omega) dX9_ones_7 (fun w1 => ?_) (fun w1 => ?_)
      · skip
        refine z_iln C hl 1 rfl dX9_ones_24 ?_
        exact z_iret B (by rw [hy, show i.toNat = 8 by omega]; exact pcF_8 x) dX9_ones_25
      · skip
        have hsb := sh_b (a := x) i.toNat (by omega)
        refine z_iln C hl 1 rfl dX9_ones_10 ?_
        refine z_iln C hl 0 rfl dX9_ones_11 ?_
        refine z_iln C hl 2 rfl dX9_ones_12 ?_
        refine z_ishr C (by omega) dX9_ones_13 ?_
        refine z_ic C dX9_ones_14 ?_
        refine z_iand1 C (by omega) dX9_ones_15 ?_
        refine z_iadd C dX9_ones_16 ?_
        refine z_isn C hl [(1, .int (zI (y + ((x / 2 ^ i.toNat) % 2)))), (0, .int (zI x)), (2, .int (zI i))] (by decide) rfl dX9_ones_17 (fun ls hl => ?_)
        refine z_iinc C hl 2 rfl [(2, .int (zI (i + 1))), (1, .int (zI (y + ((x / 2 ^ i.toNat) % 2)))), (0, .int (zI x))] (by decide) rfl dX9_ones_18 (fun ls hl => ?_)
        refine z_goto C 4 (by decide) dX9_ones_21 ?_
        exact ih4 (y + ((x / 2 ^ i.toNat) % 2)) (i + 1) (by omega) (by omega) (by rw [show (i + 1).toNat = i.toNat + 1 by omega, pcF, hy]) ls (lv_sub hl [2, 1, 0] rfl)
  exact L4 ((8 - 0 : Int).toNat + 1) 0 0 (by omega) (by omega) rfl ls (lv_sub hl [2, 1, 0] rfl)

set_option maxHeartbeats 4000000 in
set_option maxRecDepth 100000 in
theorem c_X9_seenBy {l : Launch} {D : va_G} {q : Nat → Nat} {g : Nat → ClassId} {σ : Mem} (st : Int) (hI : TI σ) (hR : MR σ) (hX : RI σ) (hM : MX σ) (hA : FA σ) (hst : 0 ≤ st ∧ st ≤ 255) : RO l yX9_seenBy cX9_seenBy 6 (some .int) 2 48 D q g σ [.ref (q 44), .int (zI st)] (some (.int (zI (((kSb (co σ) st (σ 6 3).toNat : Nat) : Int))))) := by
  refine RO.intro (plainFor_of_name (by decide)) (Nat.le_of_ble_eq_true rfl) (fun p e s m args below meth c ls B hP hl => ?_)
  have C := B.1
  have hl : lv_has ls 6 [(0, .ref (q 44)), (1, .int (zI st))] := hl
  have h1 := hI.1
  have hIc := TI_cc hI
  have hx0 := hX.1
  have hm0 := hM.1
  have hh := hR.1
  have e12 : co σ 1 2 = σ 1 2 := rfl
  have e23 : co σ 23 = σ 23 := co_at rfl
  have e24 : co σ 24 = σ 24 := co_at rfl
  have h80 := hI.2.1
  refine z_ic C dX9_seenBy_0 ?_
  refine z_isn C hl [(2, .int (zI 0)), (0, .ref (q 44)), (1, .int (zI st))] (by decide) rfl dX9_seenBy_1 (fun ls hl => ?_)
  refine z_ic C dX9_seenBy_2 ?_
  refine z_isn C hl [(3, .int (zI 0)), (2, .int (zI 0)), (0, .ref (q 44)), (1, .int (zI st))] (by decide) rfl dX9_seenBy_3 (fun ls hl => ?_)
  have L4 : ∀ (n : Nat) (x : Int) (r : Int)  , σ 1 2 - r < (n : Int) → (0 ≤ r ∧ r ≤ σ 1 2) → (x = ((kMb (co σ) st (σ 6 3).toNat r.toNat : Nat) : Int)) → ∀ ls : Array Slot, lv_has ls 6 [(0, .ref (q 44)), (1, .int (zI st)), (2, .int (zI x)), (3, .int (zI r))] → WO p l e 2 48 s m args below meth c (some (.int (zI (((kSb (co σ) st (σ 6 3).toNat : Nat) : Int))))) (F0 m 4 ls []) := by
    intro n
    induction n with
    | zero => intro x r hm hr hx ls hl; exact False.elim (by omega)
    | succ n ih =>
      intro x r hm hr hx ls hl
      have ih4 := ih; clear ih
      refine z_iln C hl 3 rfl dX9_seenBy_4 ?_
      refine z_aln C hl 0 rfl dX9_seenBy_5 ?_
      refine gf_X9_66 C hP dX9_seenBy_6 ?_
      refine z_icmp_ge C 110 (by decide) (by omega) (by omega) dX9_seenBy_9 (fun w1 => ?_) (fun w1 => ?_)
      · skip
        refine z_iln C hl 2 rfl dX9_seenBy_110 ?_
        exact z_iret B (by rw [hx, show r.toNat = (co σ 1 2).toNat by omega, kMb_eq hIc]) dX9_seenBy_111
      · skip
        refine z_bp C dX9_seenBy_12 rfl ?_
        refine z_ist C hl [(4, .int (zI (-6))), (0, .ref (q 44)), (1, .int (zI st)), (2, .int (zI x)), (3, .int (zI r))] (by decide) rfl dX9_seenBy_14 (fun ls hl => ?_)
        refine z_ic C dX9_seenBy_16 ?_
        refine z_ist C hl [(5, .int (zI 0)), (4, .int (zI (-6))), (0, .ref (q 44)), (1, .int (zI st)), (2, .int (zI x)), (3, .int (zI r))] (by decide) rfl dX9_seenBy_17 (fun ls hl => ?_)
        have L19 : ∀ (n : Nat) (f : Int) (i : Int)  , σ 6 3 - i < (n : Int) → (0 ≤ i ∧ i ≤ σ 6 3) → (f = mN (kFv (co σ) st r i.toNat)) → ∀ ls : Array Slot, lv_has ls 6 [(0, .ref (q 44)), (1, .int (zI st)), (2, .int (zI x)), (3, .int (zI r)), (4, .int (zI f)), (5, .int (zI i))] → WO p l e 2 48 s m args below meth c (some (.int (zI (((kSb (co σ) st (σ 6 3).toNat : Nat) : Int))))) (F0 m 19 ls []) := by
          intro n
          induction n with
          | zero => intro f i hm hi hf ls hl; exact False.elim (by omega)
          | succ n ih =>
            intro f i hm hi hf ls hl
            have ih19 := ih; clear ih
            refine z_il C hl 5 rfl dX9_seenBy_19 ?_
            refine z_aln C hl 0 rfl dX9_seenBy_21 ?_
            refine gf_X9_229 C hP dX9_seenBy_22 ?_
            refine z_icmp_ge C 75 (by decide) (by omega) (by omega) dX9_seenBy_25 (fun w2 => ?_) (fun w2 => ?_)
            · skip
              have hfb := kFv_b hIc (st := st) (lane := r) (by omega) (σ 6 3).toNat
              have hlb := kLn_b hIc (lane := r) (by omega)
              have hfe : f = mN (kFv (co σ) st r (σ 6 3).toNat) := by rw [hf, show i.toNat = (σ 6 3).toNat by omega]
              have hc1 := mN_c (kFv (co σ) st r (σ 6 3).toNat)
              have hc2 := mN_c (kLn (co σ) r)
              have el : mN (kCr (co σ) r.toNat (σ 44 7)) = mN (kLn (co σ) r) := by rw [hh.2.1]; rfl
              have hxp : 0 ≤ x := by omega
              have hpw : (0 : Int) ≤ (1 : Int) * 2 ^ r.toNat := by rw [Int.one_mul]; exact Int.le_of_lt (Int.pow_pos (by omega))
              refine z_iln C hl 2 rfl dX9_seenBy_75 ?_
              refine z_il C hl 4 rfl dX9_seenBy_76 ?_
              refine z_if_lt C 101 (by decide) (by omega) dX9_seenBy_78 (fun w3 => ?_) (fun w3 => ?_)
              · skip
                refine z_ic C dX9_seenBy_101 ?_
                refine z_ior C (by omega) dX9_seenBy_102 ?_
                refine z_isn C hl [(2, .int (zI (((x : Int).toNat ||| (0 : Int).toNat : Nat) : Int))), (0, .ref (q 44)), (1, .int (zI st)), (3, .int (zI r)), (4, .int (zI f)), (5, .int (zI i))] (by decide) rfl dX9_seenBy_103 (fun ls hl => ?_)
                refine z_iinc C hl 3 rfl [(3, .int (zI (r + 1))), (2, .int (zI (((x : Int).toNat ||| (0 : Int).toNat : Nat) : Int))), (0, .ref (q 44)), (1, .int (zI st)), (4, .int (zI f)), (5, .int (zI i))] (by decide) rfl dX9_seenBy_104 (fun ls hl => ?_)
                refine z_goto C 4 (by decide) dX9_seenBy_107 ?_
                exact ih4 (((x : Int).toNat ||| (0 : Int).toNat : Nat) : Int) (r + 1) (by omega) (by omega) (by rw [show (r + 1).toNat = r.toNat + 1 by omega, kMb, show ((r.toNat : Nat) : Int) = r by omega, if_neg (by omega), hx]; simp) ls (lv_sub hl [2, 3, 1, 0] rfl)
              · skip
                refine z_il C hl 4 rfl dX9_seenBy_81 ?_
                refine z_aln C hl 0 rfl dX9_seenBy_83 ?_
                refine z_iln C hl 3 rfl dX9_seenBy_84 ?_
                refine z_aln C hl 0 rfl dX9_seenBy_85 ?_
                refine gf_X9_94 C hP dX9_seenBy_86 ?_
                refine z_vRO C hP hl (c_X9_crossed (σ := σ) r (σ 44 7) hI hR (by omega) (by omega)) (z_recv C hP (i := 44) (by decide) rfl (ci := 9) rfl) wg_744 wg_10 wg_741 wg_743 ws_X9_crossed cw_X9_crossed ⟨Nat.le_of_ble_eq_true rfl, Nat.le_of_ble_eq_true rfl⟩ rfl rfl (Nat.le_of_ble_eq_true rfl) dX9_seenBy_89 ?_
                refine z_icmp_ne C 101 (by decide) (by omega) (by omega) dX9_seenBy_92 (fun w4 => ?_) (fun w4 => ?_)
                · skip
                  refine z_ic C dX9_seenBy_101 ?_
                  refine z_ior C (by omega) dX9_seenBy_102 ?_
                  refine z_isn C hl [(2, .int (zI (((x : Int).toNat ||| (0 : Int).toNat : Nat) : Int))), (0, .ref (q 44)), (1, .int (zI st)), (3, .int (zI r)), (4, .int (zI f)), (5, .int (zI i))] (by decide) rfl dX9_seenBy_103 (fun ls hl => ?_)
                  refine z_iinc C hl 3 rfl [(3, .int (zI (r + 1))), (2, .int (zI (((x : Int).toNat ||| (0 : Int).toNat : Nat) : Int))), (0, .ref (q 44)), (1, .int (zI st)), (4, .int (zI f)), (5, .int (zI i))] (by decide) rfl dX9_seenBy_104 (fun ls hl => ?_)
                  refine z_goto C 4 (by decide) dX9_seenBy_107 ?_
                  exact ih4 (((x : Int).toNat ||| (0 : Int).toNat : Nat) : Int) (r + 1) (by omega) (by omega) (by rw [show (r + 1).toNat = r.toNat + 1 by omega, kMb, show ((r.toNat : Nat) : Int) = r by omega, if_neg (by omega), hx]; simp) ls (lv_sub hl [2, 3, 1, 0] rfl)
                · skip
                  refine z_ic C dX9_seenBy_95 ?_
                  refine z_iln C hl 3 rfl dX9_seenBy_96 ?_
                  refine z_ishl C (by omega) dX9_seenBy_97 ?_
                  refine z_goto C 102 (by decide) dX9_seenBy_98 ?_
                  refine z_ior C (by omega) dX9_seenBy_102 ?_
                  refine z_isn C hl [(2, .int (zI (((x : Int).toNat ||| ((1 : Int) * 2 ^ r.toNat : Int).toNat : Nat) : Int))), (0, .ref (q 44)), (1, .int (zI st)), (3, .int (zI r)), (4, .int (zI f)), (5, .int (zI i))] (by decide) rfl dX9_seenBy_103 (fun ls hl => ?_)
                  refine z_iinc C hl 3 rfl [(3, .int (zI (r + 1))), (2, .int (zI (((x : Int).toNat ||| ((1 : Int) * 2 ^ r.toNat : Int).toNat : Nat) : Int))), (0, .ref (q 44)), (1, .int (zI st)), (4, .int (zI f)), (5, .int (zI i))] (by decide) rfl dX9_seenBy_104 (fun ls hl => ?_)
                  refine z_goto C 4 (by decide) dX9_seenBy_107 ?_
                  exact ih4 (((x : Int).toNat ||| ((1 : Int) * 2 ^ r.toNat : Int).toNat : Nat) : Int) (r + 1) (by omega) (by omega) (by rw [show (r + 1).toNat = r.toNat + 1 by omega, kMb, show ((r.toNat : Nat) : Int) = r by omega, if_pos (by omega)]; exact mb_or hx) ls (lv_sub hl [2, 3, 1, 0] rfl)
            · skip
              have hsb := sh_b (a := st) i.toNat (by omega)
              have hfb := kFv_b hIc (st := st) (lane := r) (by omega) i.toNat
              have hfm := mN_b hfb
              have hx1 := hX.2 i.toNat (by omega)
              have hm1 := hM.2 i.toNat (by omega)
              have hrb := kRw_b hIc (side := σ 23 i.toNat) (lane := r) (rows := σ 24 i.toNat) (by omega) 6 (Nat.le_refl 6)
              have hrm := mN_b hrb
              have hrm2 : -6 ≤ mN (kRw (co σ) (σ 60 i.toNat) r (σ 61 i.toNat) 6) ∧ mN (kRw (co σ) (σ 60 i.toNat) r (σ 61 i.toNat) 6) ≤ 9999999 := by rw [hm1.1, hm1.2]; exact hrm
              refine z_iln C hl 1 rfl dX9_seenBy_28 ?_
              refine z_il C hl 5 rfl dX9_seenBy_29 ?_
              refine z_ishr C (by omega) dX9_seenBy_31 ?_
              refine z_ic C dX9_seenBy_32 ?_
              refine z_iand1 C (by omega) dX9_seenBy_33 ?_
              refine z_ic C dX9_seenBy_34 ?_
              refine z_icmp_ne C 65 (by decide) (by omega) (by omega) dX9_seenBy_35 (fun w5 => ?_) (fun w5 => ?_)
              · skip
                refine z_il C hl 4 rfl dX9_seenBy_65 ?_
                refine z_ist C hl [(4, .int (zI f)), (0, .ref (q 44)), (1, .int (zI st)), (2, .int (zI x)), (3, .int (zI r)), (5, .int (zI i))] (by decide) rfl dX9_seenBy_67 (fun ls hl => ?_)
                refine z_iinc C hl 5 rfl [(5, .int (zI (i + 1))), (4, .int (zI f)), (0, .ref (q 44)), (1, .int (zI st)), (2, .int (zI x)), (3, .int (zI r))] (by decide) rfl dX9_seenBy_69 (fun ls hl => ?_)
                refine z_goto C 19 (by decide) dX9_seenBy_72 ?_
                exact ih19 f (i + 1) (by omega) (by omega) (by rw [show (i + 1).toNat = i.toNat + 1 by omega, kFv, if_neg (by omega), hf]) ls (lv_sub hl [2, 3, 4, 5, 1, 0] rfl)
              · skip
                refine z_il C hl 4 rfl dX9_seenBy_38 ?_
                refine z_aln C hl 0 rfl dX9_seenBy_40 ?_
                refine z_iln C hl 3 rfl dX9_seenBy_41 ?_
                refine z_aln C hl 0 rfl dX9_seenBy_42 ?_
                refine gf_X9_56 C hP dX9_seenBy_43 ?_
                refine z_il C hl 5 rfl dX9_seenBy_46 ?_
                refine z_iald C hP (i := 60) (by decide) (fun _ => rfl) (by omega) (by decide) dX9_seenBy_48 ?_
                refine z_aln C hl 0 rfl dX9_seenBy_49 ?_
                refine gf_X9_59 C hP dX9_seenBy_50 ?_
                refine z_il C hl 5 rfl dX9_seenBy_53 ?_
                refine z_iald C hP (i := 61) (by decide) (fun _ => rfl) (by omega) (by decide) dX9_seenBy_55 ?_
                refine z_vRO C hP hl (c_X9_firstOf (σ := σ) r (σ 60 i.toNat) (σ 61 i.toNat) hI hA (by omega) (by omega) (by omega)) (z_recv C hP (i := 44) (by decide) rfl (ci := 9) rfl) wg_733 wg_10 wg_730 wg_732 ws_X9_firstOf cw_X9_firstOf ⟨Nat.le_of_ble_eq_true rfl, Nat.le_of_ble_eq_true rfl⟩ rfl rfl (Nat.le_of_ble_eq_true rfl) dX9_seenBy_56 ?_
                refine z_sRO C hP hl (c_X9_sooner (σ := σ) f (mN (kRw (co σ) (σ 60 i.toNat) r (σ 61 i.toNat) 6)) (by omega) (by omega))  wg_736 wg_10 wg_734 wg_735 cw_X9_sooner ⟨Nat.le_of_ble_eq_true rfl, Nat.le_of_ble_eq_true rfl⟩ rfl rfl (Nat.le_of_ble_eq_true rfl) dX9_seenBy_59 ?_
                refine z_goto C 67 (by decide) dX9_seenBy_62 ?_
                refine z_ist C hl [(4, .int (zI (soo f (mN (kRw (co σ) (σ 60 i.toNat) r (σ 61 i.toNat) 6))))), (0, .ref (q 44)), (1, .int (zI st)), (2, .int (zI x)), (3, .int (zI r)), (5, .int (zI i))] (by decide) rfl dX9_seenBy_67 (fun ls hl => ?_)
                refine z_iinc C hl 5 rfl [(5, .int (zI (i + 1))), (4, .int (zI (soo f (mN (kRw (co σ) (σ 60 i.toNat) r (σ 61 i.toNat) 6))))), (0, .ref (q 44)), (1, .int (zI st)), (2, .int (zI x)), (3, .int (zI r))] (by decide) rfl dX9_seenBy_69 (fun ls hl => ?_)
                refine z_goto C 19 (by decide) dX9_seenBy_72 ?_
                exact ih19 (soo f (mN (kRw (co σ) (σ 60 i.toNat) r (σ 61 i.toNat) 6))) (i + 1) (by omega) (by omega) (by rw [show (i + 1).toNat = i.toNat + 1 by omega, kFv, if_pos (by omega), e23, e24, ← soo_mN hfb.1 hrb.1 hfb.2 hrb.2, ← hf, hm1.1, hm1.2]) ls (lv_sub hl [2, 3, 4, 5, 1, 0] rfl)
        exact L19 ((σ 6 3 - 0 : Int).toNat + 1) (-6) 0 (by omega) (by omega) rfl ls (lv_sub hl [2, 3, 4, 5, 1, 0] rfl)
  exact L4 ((σ 1 2 - 0 : Int).toNat + 1) 0 0 (by omega) (by omega) rfl ls (lv_sub hl [2, 3, 1, 0] rfl)

set_option maxHeartbeats 4000000 in
set_option maxRecDepth 100000 in
theorem c_X9_untold {l : Launch} {D : va_G} {q : Nat → Nat} {g : Nat → ClassId} {σ : Mem} (ms : Int) (hI : TI σ) (hR : MR σ) (hms : 0 ≤ ms ∧ ms ≤ 255) : RO l yX9_untold cX9_untold 6 (some .int) 3 69 D q g σ [.ref (q 44), .int (zI ms)] (some (.int (zI (unA (co σ) ms (co σ 1 2).toNat)))) := by
  refine RO.intro (plainFor_of_name (by decide)) (Nat.le_of_ble_eq_true rfl) (fun p e s m args below meth c ls B hP hl => ?_)
  have C := B.1
  have hl : lv_has ls 6 [(0, .ref (q 44)), (1, .int (zI ms))] := hl
  have h1 := hI.1
  have hh := hR.1
  have e12 : co σ 1 2 = σ 1 2 := rfl
  refine z_ic C dX9_untold_0 ?_
  refine z_isn C hl [(2, .int (zI 0)), (0, .ref (q 44)), (1, .int (zI ms))] (by decide) rfl dX9_untold_1 (fun ls hl => ?_)
  refine z_ic C dX9_untold_2 ?_
  refine z_isn C hl [(3, .int (zI 0)), (2, .int (zI 0)), (0, .ref (q 44)), (1, .int (zI ms))] (by decide) rfl dX9_untold_3 (fun ls hl => ?_)
  have L4 : ∀ (n : Nat) (x : Int) (a : Int)  , σ 1 2 - a < (n : Int) → (0 ≤ a ∧ a ≤ σ 1 2) → (x = unA (co σ) ms a.toNat) → ∀ ls : Array Slot, lv_has ls 6 [(0, .ref (q 44)), (1, .int (zI ms)), (2, .int (zI x)), (3, .int (zI a))] → WO p l e 3 69 s m args below meth c (some (.int (zI (unA (co σ) ms (co σ 1 2).toNat)))) (F0 m 4 ls []) := by
    intro n
    induction n with
    | zero => intro x a hm ha hx ls hl; exact False.elim (by omega)
    | succ n ih =>
      intro x a hm ha hx ls hl
      have ih4 := ih; clear ih
      refine z_iln C hl 3 rfl dX9_untold_4 ?_
      refine z_aln C hl 0 rfl dX9_untold_5 ?_
      refine gf_X9_66 C hP dX9_untold_6 ?_
      refine z_icmp_ge C 89 (by decide) (by omega) (by omega) dX9_untold_9 (fun w1 => ?_) (fun w1 => ?_)
      · skip
        refine z_iln C hl 2 rfl dX9_untold_89 ?_
        exact z_iret B (by rw [hx, show a.toNat = (co σ 1 2).toNat by omega]) dX9_untold_90
      · skip
        refine z_ic C dX9_untold_12 ?_
        refine z_ist C hl [(4, .int (zI 0)), (0, .ref (q 44)), (1, .int (zI ms)), (2, .int (zI x)), (3, .int (zI a))] (by decide) rfl dX9_untold_13 (fun ls hl => ?_)
        have L15 : ∀ (n : Nat) (y : Int) (b : Int)  , a - b < (n : Int) → (0 ≤ b ∧ b ≤ a) → (y = unA (co σ) ms a.toNat + unB (co σ) ms a b.toNat) → ∀ ls : Array Slot, lv_has ls 6 [(0, .ref (q 44)), (1, .int (zI ms)), (2, .int (zI y)), (3, .int (zI a)), (4, .int (zI b))] → WO p l e 3 69 s m args below meth c (some (.int (zI (unA (co σ) ms (co σ 1 2).toNat)))) (F0 m 15 ls []) := by
          intro n
          induction n with
          | zero => intro y b hm hb hy ls hl; exact False.elim (by omega)
          | succ n ih =>
            intro y b hm hb hy ls hl
            have ih15 := ih; clear ih
            refine z_il C hl 4 rfl dX9_untold_15 ?_
            refine z_iln C hl 3 rfl dX9_untold_17 ?_
            refine z_icmp_ge C 83 (by decide) (by omega) (by omega) dX9_untold_18 (fun w2 => ?_) (fun w2 => ?_)
            · skip
              refine z_iinc C hl 3 rfl [(3, .int (zI (a + 1))), (0, .ref (q 44)), (1, .int (zI ms)), (2, .int (zI y)), (4, .int (zI b))] (by decide) rfl dX9_untold_83 (fun ls hl => ?_)
              refine z_goto C 4 (by decide) dX9_untold_86 ?_
              exact ih4 y (a + 1) (by omega) (by omega) (by rw [show (a + 1).toNat = a.toNat + 1 by omega, unA, hy, show b.toNat = a.toNat by omega, show ((a.toNat : Nat) : Int) = a by omega]) ls (lv_sub hl [1, 2, 3, 0] rfl)
            · skip
              have hsa := sh_b (a := ms) a.toNat (by omega)
              have hsb := sh_b (a := ms) b.toNat (by omega)
              refine z_iln C hl 1 rfl dX9_untold_21 ?_
              refine z_iln C hl 3 rfl dX9_untold_22 ?_
              refine z_ishr C (by omega) dX9_untold_23 ?_
              refine z_ic C dX9_untold_24 ?_
              refine z_iand1 C (by omega) dX9_untold_25 ?_
              refine z_ic C dX9_untold_26 ?_
              refine z_icmp_ne C 44 (by decide) (by omega) (by omega) dX9_untold_27 (fun w3 => ?_) (fun w3 => ?_)
              · skip
                have hbo : ¬ (ms / 2 ^ a.toNat % 2 = 1 ∧ ms / 2 ^ b.toNat % 2 = 1) := by omega
                refine z_ic C dX9_untold_44 ?_
                refine z_ist C hl [(5, .int (zI 0)), (0, .ref (q 44)), (1, .int (zI ms)), (2, .int (zI y)), (3, .int (zI a)), (4, .int (zI b))] (by decide) rfl dX9_untold_45 (fun ls hl => ?_)
                refine z_iln C hl 3 rfl dX9_untold_47 ?_
                refine z_aln C hl 1 rfl dX9_untold_48 ?_
                refine z_iln C hl 4 rfl dX9_untold_49 ?_
                refine z_vRO C hP hl (c_X9_hasTorso (σ := σ) a hI hR (by omega)) (z_recv C hP (i := 44) (by decide) rfl (ci := 9) rfl) wg_752 wg_10 wg_749 wg_751 ws_X9_hasTorso cw_X9_hasTorso ⟨Nat.le_of_ble_eq_true rfl, Nat.le_of_ble_eq_true rfl⟩ rfl rfl (Nat.le_of_ble_eq_true rfl) dX9_untold_50 ?_
                refine z_bif_eq C 74 (by decide) dX9_untold_53 (fun w4 => ?_) (fun w4 => ?_)
                · skip
                  refine z_ic C dX9_untold_74 ?_
                  refine z_iadd C dX9_untold_75 ?_
                  refine z_isn C hl [(2, .int (zI (y + 0))), (5, .int (zI 0)), (0, .ref (q 44)), (1, .int (zI ms)), (3, .int (zI a)), (4, .int (zI b))] (by decide) rfl dX9_untold_76 (fun ls hl => ?_)
                  refine z_iinc C hl 5 rfl [(4, .int (zI (b + 1))), (2, .int (zI (y + 0))), (5, .int (zI 0)), (0, .ref (q 44)), (1, .int (zI ms)), (3, .int (zI a))] (by decide) rfl dX9_untold_77 (fun ls hl => ?_)
                  refine z_goto C 15 (by decide) dX9_untold_80 ?_
                  exact ih15 (y + 0) (b + 1) (by omega) (by omega) (by rw [show (b + 1).toNat = b.toNat + 1 by omega, unB, if_neg (by exact fun h => w4 h.1), hy]; omega) ls (lv_sub hl [3, 4, 1, 5, 0] rfl)
                · skip
                  refine z_aln C hl 1 rfl dX9_untold_56 ?_
                  refine z_il C hl 5 rfl dX9_untold_57 ?_
                  refine z_vRO C hP hl (c_X9_hasTorso (σ := σ) b hI hR (by omega)) (z_recv C hP (i := 44) (by decide) rfl (ci := 9) rfl) wg_752 wg_10 wg_749 wg_751 ws_X9_hasTorso cw_X9_hasTorso ⟨Nat.le_of_ble_eq_true rfl, Nat.le_of_ble_eq_true rfl⟩ rfl rfl (Nat.le_of_ble_eq_true rfl) dX9_untold_59 ?_
                  refine z_bif_eq C 74 (by decide) dX9_untold_62 (fun w5 => ?_) (fun w5 => ?_)
                  · skip
                    refine z_ic C dX9_untold_74 ?_
                    refine z_iadd C dX9_untold_75 ?_
                    refine z_isn C hl [(2, .int (zI (y + 0))), (5, .int (zI 0)), (0, .ref (q 44)), (1, .int (zI ms)), (3, .int (zI a)), (4, .int (zI b))] (by decide) rfl dX9_untold_76 (fun ls hl => ?_)
                    refine z_iinc C hl 5 rfl [(4, .int (zI (b + 1))), (2, .int (zI (y + 0))), (5, .int (zI 0)), (0, .ref (q 44)), (1, .int (zI ms)), (3, .int (zI a))] (by decide) rfl dX9_untold_77 (fun ls hl => ?_)
                    refine z_goto C 15 (by decide) dX9_untold_80 ?_
                    exact ih15 (y + 0) (b + 1) (by omega) (by omega) (by rw [show (b + 1).toNat = b.toNat + 1 by omega, unB, if_neg (by exact fun h => w5 h.2.1), hy]; omega) ls (lv_sub hl [3, 4, 1, 5, 0] rfl)
                  · skip
                    refine z_il C hl 0 rfl dX9_untold_65 ?_
                    refine z_if_ne C 74 (by decide) (by omega) dX9_untold_67 (fun w6 => False.elim (by omega)) (fun _ => ?_)
                    refine z_ic C dX9_untold_70 ?_
                    refine z_goto C 75 (by decide) dX9_untold_71 ?_
                    refine z_iadd C dX9_untold_75 ?_
                    refine z_isn C hl [(2, .int (zI (y + 1))), (5, .int (zI 0)), (0, .ref (q 44)), (1, .int (zI ms)), (3, .int (zI a)), (4, .int (zI b))] (by decide) rfl dX9_untold_76 (fun ls hl => ?_)
                    refine z_iinc C hl 5 rfl [(4, .int (zI (b + 1))), (2, .int (zI (y + 1))), (5, .int (zI 0)), (0, .ref (q 44)), (1, .int (zI ms)), (3, .int (zI a))] (by decide) rfl dX9_untold_77 (fun ls hl => ?_)
                    refine z_goto C 15 (by decide) dX9_untold_80 ?_
                    exact ih15 (y + 1) (b + 1) (by omega) (by omega) (by rw [show (b + 1).toNat = b.toNat + 1 by omega, unB, if_pos ⟨w4, w5, hbo⟩, hy]; omega) ls (lv_sub hl [3, 4, 1, 5, 0] rfl)
              · skip
                refine z_iln C hl 1 rfl dX9_untold_30 ?_
                refine z_il C hl 4 rfl dX9_untold_31 ?_
                refine z_ishr C (by omega) dX9_untold_33 ?_
                refine z_ic C dX9_untold_34 ?_
                refine z_iand1 C (by omega) dX9_untold_35 ?_
                refine z_ic C dX9_untold_36 ?_
                refine z_icmp_ne C 44 (by decide) (by omega) (by omega) dX9_untold_37 (fun w7 => ?_) (fun w7 => ?_)
                · skip
                  have hbo : ¬ (ms / 2 ^ a.toNat % 2 = 1 ∧ ms / 2 ^ b.toNat % 2 = 1) := by omega
                  refine z_ic C dX9_untold_44 ?_
                  refine z_ist C hl [(5, .int (zI 0)), (0, .ref (q 44)), (1, .int (zI ms)), (2, .int (zI y)), (3, .int (zI a)), (4, .int (zI b))] (by decide) rfl dX9_untold_45 (fun ls hl => ?_)
                  refine z_iln C hl 3 rfl dX9_untold_47 ?_
                  refine z_aln C hl 1 rfl dX9_untold_48 ?_
                  refine z_iln C hl 4 rfl dX9_untold_49 ?_
                  refine z_vRO C hP hl (c_X9_hasTorso (σ := σ) a hI hR (by omega)) (z_recv C hP (i := 44) (by decide) rfl (ci := 9) rfl) wg_752 wg_10 wg_749 wg_751 ws_X9_hasTorso cw_X9_hasTorso ⟨Nat.le_of_ble_eq_true rfl, Nat.le_of_ble_eq_true rfl⟩ rfl rfl (Nat.le_of_ble_eq_true rfl) dX9_untold_50 ?_
                  refine z_bif_eq C 74 (by decide) dX9_untold_53 (fun w8 => ?_) (fun w8 => ?_)
                  · skip
                    refine z_ic C dX9_untold_74 ?_
                    refine z_iadd C dX9_untold_75 ?_
                    refine z_isn C hl [(2, .int (zI (y + 0))), (5, .int (zI 0)), (0, .ref (q 44)), (1, .int (zI ms)), (3, .int (zI a)), (4, .int (zI b))] (by decide) rfl dX9_untold_76 (fun ls hl => ?_)
                    refine z_iinc C hl 5 rfl [(4, .int (zI (b + 1))), (2, .int (zI (y + 0))), (5, .int (zI 0)), (0, .ref (q 44)), (1, .int (zI ms)), (3, .int (zI a))] (by decide) rfl dX9_untold_77 (fun ls hl => ?_)
                    refine z_goto C 15 (by decide) dX9_untold_80 ?_
                    exact ih15 (y + 0) (b + 1) (by omega) (by omega) (by rw [show (b + 1).toNat = b.toNat + 1 by omega, unB, if_neg (by exact fun h => w8 h.1), hy]; omega) ls (lv_sub hl [3, 4, 1, 5, 0] rfl)
                  · skip
                    refine z_aln C hl 1 rfl dX9_untold_56 ?_
                    refine z_il C hl 5 rfl dX9_untold_57 ?_
                    refine z_vRO C hP hl (c_X9_hasTorso (σ := σ) b hI hR (by omega)) (z_recv C hP (i := 44) (by decide) rfl (ci := 9) rfl) wg_752 wg_10 wg_749 wg_751 ws_X9_hasTorso cw_X9_hasTorso ⟨Nat.le_of_ble_eq_true rfl, Nat.le_of_ble_eq_true rfl⟩ rfl rfl (Nat.le_of_ble_eq_true rfl) dX9_untold_59 ?_
                    refine z_bif_eq C 74 (by decide) dX9_untold_62 (fun w9 => ?_) (fun w9 => ?_)
                    · skip
                      refine z_ic C dX9_untold_74 ?_
                      refine z_iadd C dX9_untold_75 ?_
                      refine z_isn C hl [(2, .int (zI (y + 0))), (5, .int (zI 0)), (0, .ref (q 44)), (1, .int (zI ms)), (3, .int (zI a)), (4, .int (zI b))] (by decide) rfl dX9_untold_76 (fun ls hl => ?_)
                      refine z_iinc C hl 5 rfl [(4, .int (zI (b + 1))), (2, .int (zI (y + 0))), (5, .int (zI 0)), (0, .ref (q 44)), (1, .int (zI ms)), (3, .int (zI a))] (by decide) rfl dX9_untold_77 (fun ls hl => ?_)
                      refine z_goto C 15 (by decide) dX9_untold_80 ?_
                      exact ih15 (y + 0) (b + 1) (by omega) (by omega) (by rw [show (b + 1).toNat = b.toNat + 1 by omega, unB, if_neg (by exact fun h => w9 h.2.1), hy]; omega) ls (lv_sub hl [3, 4, 1, 5, 0] rfl)
                    · skip
                      refine z_il C hl 0 rfl dX9_untold_65 ?_
                      refine z_if_ne C 74 (by decide) (by omega) dX9_untold_67 (fun w10 => False.elim (by omega)) (fun _ => ?_)
                      refine z_ic C dX9_untold_70 ?_
                      refine z_goto C 75 (by decide) dX9_untold_71 ?_
                      refine z_iadd C dX9_untold_75 ?_
                      refine z_isn C hl [(2, .int (zI (y + 1))), (5, .int (zI 0)), (0, .ref (q 44)), (1, .int (zI ms)), (3, .int (zI a)), (4, .int (zI b))] (by decide) rfl dX9_untold_76 (fun ls hl => ?_)
                      refine z_iinc C hl 5 rfl [(4, .int (zI (b + 1))), (2, .int (zI (y + 1))), (5, .int (zI 0)), (0, .ref (q 44)), (1, .int (zI ms)), (3, .int (zI a))] (by decide) rfl dX9_untold_77 (fun ls hl => ?_)
                      refine z_goto C 15 (by decide) dX9_untold_80 ?_
                      exact ih15 (y + 1) (b + 1) (by omega) (by omega) (by rw [show (b + 1).toNat = b.toNat + 1 by omega, unB, if_pos ⟨w8, w9, hbo⟩, hy]; omega) ls (lv_sub hl [3, 4, 1, 5, 0] rfl)
                · skip
                  have hbo : ms / 2 ^ a.toNat % 2 = 1 ∧ ms / 2 ^ b.toNat % 2 = 1 := by omega
                  refine z_ic C dX9_untold_40 ?_
                  refine z_goto C 45 (by decide) dX9_untold_41 ?_
                  refine z_ist C hl [(5, .int (zI 1)), (0, .ref (q 44)), (1, .int (zI ms)), (2, .int (zI y)), (3, .int (zI a)), (4, .int (zI b))] (by decide) rfl dX9_untold_45 (fun ls hl => ?_)
                  refine z_iln C hl 3 rfl dX9_untold_47 ?_
                  refine z_aln C hl 1 rfl dX9_untold_48 ?_
                  refine z_iln C hl 4 rfl dX9_untold_49 ?_
                  refine z_vRO C hP hl (c_X9_hasTorso (σ := σ) a hI hR (by omega)) (z_recv C hP (i := 44) (by decide) rfl (ci := 9) rfl) wg_752 wg_10 wg_749 wg_751 ws_X9_hasTorso cw_X9_hasTorso ⟨Nat.le_of_ble_eq_true rfl, Nat.le_of_ble_eq_true rfl⟩ rfl rfl (Nat.le_of_ble_eq_true rfl) dX9_untold_50 ?_
                  refine z_bif_eq C 74 (by decide) dX9_untold_53 (fun w11 => ?_) (fun w11 => ?_)
                  · skip
                    refine z_ic C dX9_untold_74 ?_
                    refine z_iadd C dX9_untold_75 ?_
                    refine z_isn C hl [(2, .int (zI (y + 0))), (5, .int (zI 1)), (0, .ref (q 44)), (1, .int (zI ms)), (3, .int (zI a)), (4, .int (zI b))] (by decide) rfl dX9_untold_76 (fun ls hl => ?_)
                    refine z_iinc C hl 5 rfl [(4, .int (zI (b + 1))), (2, .int (zI (y + 0))), (5, .int (zI 1)), (0, .ref (q 44)), (1, .int (zI ms)), (3, .int (zI a))] (by decide) rfl dX9_untold_77 (fun ls hl => ?_)
                    refine z_goto C 15 (by decide) dX9_untold_80 ?_
                    exact ih15 (y + 0) (b + 1) (by omega) (by omega) (by rw [show (b + 1).toNat = b.toNat + 1 by omega, unB, if_neg (by exact fun h => w11 h.1), hy]; omega) ls (lv_sub hl [3, 4, 1, 5, 0] rfl)
                  · skip
                    refine z_aln C hl 1 rfl dX9_untold_56 ?_
                    refine z_il C hl 5 rfl dX9_untold_57 ?_
                    refine z_vRO C hP hl (c_X9_hasTorso (σ := σ) b hI hR (by omega)) (z_recv C hP (i := 44) (by decide) rfl (ci := 9) rfl) wg_752 wg_10 wg_749 wg_751 ws_X9_hasTorso cw_X9_hasTorso ⟨Nat.le_of_ble_eq_true rfl, Nat.le_of_ble_eq_true rfl⟩ rfl rfl (Nat.le_of_ble_eq_true rfl) dX9_untold_59 ?_
                    refine z_bif_eq C 74 (by decide) dX9_untold_62 (fun w12 => ?_) (fun w12 => ?_)
                    · skip
                      refine z_ic C dX9_untold_74 ?_
                      refine z_iadd C dX9_untold_75 ?_
                      refine z_isn C hl [(2, .int (zI (y + 0))), (5, .int (zI 1)), (0, .ref (q 44)), (1, .int (zI ms)), (3, .int (zI a)), (4, .int (zI b))] (by decide) rfl dX9_untold_76 (fun ls hl => ?_)
                      refine z_iinc C hl 5 rfl [(4, .int (zI (b + 1))), (2, .int (zI (y + 0))), (5, .int (zI 1)), (0, .ref (q 44)), (1, .int (zI ms)), (3, .int (zI a))] (by decide) rfl dX9_untold_77 (fun ls hl => ?_)
                      refine z_goto C 15 (by decide) dX9_untold_80 ?_
                      exact ih15 (y + 0) (b + 1) (by omega) (by omega) (by rw [show (b + 1).toNat = b.toNat + 1 by omega, unB, if_neg (by exact fun h => w12 h.2.1), hy]; omega) ls (lv_sub hl [3, 4, 1, 5, 0] rfl)
                    · skip
                      refine z_il C hl 0 rfl dX9_untold_65 ?_
                      refine z_if_ne C 74 (by decide) (by omega) dX9_untold_67 (fun _ => ?_) (fun w13 => False.elim (by omega))
                      refine z_ic C dX9_untold_74 ?_
                      refine z_iadd C dX9_untold_75 ?_
                      refine z_isn C hl [(2, .int (zI (y + 0))), (5, .int (zI 1)), (0, .ref (q 44)), (1, .int (zI ms)), (3, .int (zI a)), (4, .int (zI b))] (by decide) rfl dX9_untold_76 (fun ls hl => ?_)
                      refine z_iinc C hl 5 rfl [(4, .int (zI (b + 1))), (2, .int (zI (y + 0))), (5, .int (zI 1)), (0, .ref (q 44)), (1, .int (zI ms)), (3, .int (zI a))] (by decide) rfl dX9_untold_77 (fun ls hl => ?_)
                      refine z_goto C 15 (by decide) dX9_untold_80 ?_
                      exact ih15 (y + 0) (b + 1) (by omega) (by omega) (by rw [show (b + 1).toNat = b.toNat + 1 by omega, unB, if_neg (by exact fun h => h.2.2 hbo), hy]; omega) ls (lv_sub hl [3, 4, 1, 5, 0] rfl)
        exact L15 ((a - 0 : Int).toNat + 1) x 0 (by omega) (by omega) (by rw [hx]; show _ = _ + unB (co σ) ms a 0; rw [unB]; omega) ls (lv_sub hl [1, 2, 3, 4, 0] rfl)
  exact L4 ((σ 1 2 - 0 : Int).toNat + 1) 0 0 (by omega) (by omega) rfl ls (lv_sub hl [2, 3, 1, 0] rfl)

set_option maxHeartbeats 4000000 in
set_option maxRecDepth 100000 in
theorem c_X9_seen {l : Launch} {D : va_G} {q : Nat → Nat} {g : Nat → ClassId} {σ : Mem} (hq : qok q) (st wh : Int) (hI : TI σ) (hR : MR σ) (hX : RI σ) (hM : MX σ) (hr_st : zR st) (hr_wh : zR wh) : RW l yX9_seen cX9_seen 4 (some .int) 4 100 D q g σ [.ref (q 44), .int (zI st), .int (zI wh)] vI (fun r τ => Fr σ τ ∧ r = kSeen (co σ) st wh) := by
  refine RW.intro (plainFor_of_name (by decide)) (Nat.le_of_ble_eq_true rfl) (fun p e s m args below meth c ls B hP hS hl => ?_)
  have C := B.1
  have hl : lv_has ls 4 [(0, .ref (q 44)), (1, .int (zI st)), (2, .int (zI wh))] := hl
  have h1 := hI.1
  have hIc := TI_cc hI
  have hx0 := hX.1
  have hm0 := hM.1
  have e12 : co σ 1 2 = σ 1 2 := rfl
  have e63 : co σ 6 3 = σ 6 3 := rfl
  have hpw := pw2_b hx0
  have hpw1 : (1 : Int) * 2 ^ (σ 44 27).toNat = 2 ^ (σ 6 3).toNat := by rw [hm0, Int.one_mul]
  refine z_iln C hl 1 rfl dX9_seen_0 ?_
  refine z_i2l C (by omega) dX9_seen_1 ?_
  refine z_lc0 C dX9_seen_2 ?_
  refine z_ic C dX9_seen_3 ?_
  refine z_aln C hl 0 rfl dX9_seen_4 ?_
  refine gf_X9_229 C hP dX9_seen_5 ?_
  refine z_ishl C (by omega) dX9_seen_8 ?_
  refine z_ic C dX9_seen_9 ?_
  refine z_isub C dX9_seen_10 ?_
  refine z_i2l C (by omega) dX9_seen_11 ?_
  refine z_sRO C hP hl (c_X9_in (σ := σ) st 0 (((1 : Int) * 2 ^ (σ 44 27).toNat) - 1) (by omega) (by omega) (by omega))  wg_679 wg_10 wg_677 wg_678 cw_X9_in ⟨Nat.le_of_ble_eq_true rfl, Nat.le_of_ble_eq_true rfl⟩ rfl rfl (Nat.le_of_ble_eq_true rfl) dX9_seen_12 ?_
  refine z_bif_eq C 28 (by decide) dX9_seen_15 (fun w1 => ?_) (fun w1 => ?_)
  · skip
    refine z_bp C dX9_seen_28 rfl ?_
    exact z_iretW B hP hS ⟨Fr_rf, by unfold kSeen; rw [if_pos (fun h : okS st wh (co σ 6 3) => by have h2 : (0 ≤ st ∧ st ≤ 2 ^ (σ 6 3).toNat - 1) ∧ (0 ≤ wh ∧ wh ≤ 1) := h; omega)]⟩ dX9_seen_30
  · skip
    refine z_iln C hl 2 rfl dX9_seen_18 ?_
    refine z_i2l C (by omega) dX9_seen_19 ?_
    refine z_lc0 C dX9_seen_20 ?_
    refine z_lc1 C dX9_seen_21 ?_
    refine z_sRO C hP hl (c_X9_in (σ := σ) wh 0 1 (by omega) (by omega) (by omega))  wg_679 wg_10 wg_677 wg_678 cw_X9_in ⟨Nat.le_of_ble_eq_true rfl, Nat.le_of_ble_eq_true rfl⟩ rfl rfl (Nat.le_of_ble_eq_true rfl) dX9_seen_22 ?_
    refine z_bif_ne C 31 (by decide) dX9_seen_25 (fun w2 => ?_) (fun w2 => ?_)
    · skip
      refine z_aln C hl 0 rfl dX9_seen_31 ?_
      refine z_vRWv C hP hS hl (c_X9_findFirst (σ := σ) hq  hI hR) (z_recv C hP (i := 44) (by decide) rfl (ci := 9) rfl) wg_729 wg_10 wg_726 wg_728 ws_X9_findFirst cw_X9_findFirst ⟨Nat.le_of_ble_eq_true rfl, Nat.le_of_ble_eq_true rfl⟩ rfl rfl (Nat.le_of_ble_eq_true rfl) dX9_seen_32 (fun r32 τ32 H locs hp32 hP hS => ?_)
      obtain ⟨hF, hA⟩ := hp32
      have hIt := Fr_TI hF hI
      have hRt := Fr_MR hF hI hR
      have hXt := Fr_RI hF hX
      have hMt := Fr_MX hF hM
      have ec := Fr_co hF
      have f63 := hF 6 3 rfl
      have f27 := hF 44 27 rfl
      have hkl := kSb_lt (T := co τ32) (st := st) (by rw [ec]; omega) (τ32 6 3).toNat
      refine z_aln C hl 0 rfl dX9_seen_35 ?_
      refine z_iln C hl 1 rfl dX9_seen_36 ?_
      refine z_vRO C hP hl (c_X9_seenBy (σ := τ32) st hIt hRt hXt hMt hA (by omega)) (z_recv C hP (i := 44) (by decide) rfl (ci := 9) rfl) wg_891 wg_10 wg_888 wg_890 ws_X9_seenBy cw_X9_seenBy ⟨Nat.le_of_ble_eq_true rfl, Nat.le_of_ble_eq_true rfl⟩ rfl rfl (Nat.le_of_ble_eq_true rfl) dX9_seen_37 ?_
      refine z_isn C hl [(3, .int (zI ((kSb (co τ32) st (τ32 6 3).toNat : Nat) : Int))), (0, .ref (q 44)), (1, .int (zI st)), (2, .int (zI wh))] (by decide) rfl dX9_seen_40 (fun ls hl => ?_)
      refine z_iln C hl 3 rfl dX9_seen_41 ?_
      refine z_if_ne C 49 (by decide) (by omega) dX9_seen_42 (fun w3 => ?_) (fun w3 => ?_)
      · skip
        refine z_aln C hl 1 rfl dX9_seen_49 ?_
        refine z_iln C hl 0 rfl dX9_seen_50 ?_
        refine z_vRO C hP hl (c_X9_untold (σ := τ32) ((kSb (co τ32) st (τ32 6 3).toNat : Nat) : Int) hIt hRt (by omega)) (z_recv C hP (i := 44) (by decide) rfl (ci := 9) rfl) wg_895 wg_10 wg_892 wg_894 ws_X9_untold cw_X9_untold ⟨Nat.le_of_ble_eq_true rfl, Nat.le_of_ble_eq_true rfl⟩ rfl rfl (Nat.le_of_ble_eq_true rfl) dX9_seen_51 ?_
        exact z_iretW B hP hS ⟨hF, by unfold kSeen; rw [if_neg (fun h => h (show (0 ≤ st ∧ st ≤ 2 ^ (σ 6 3).toNat - 1) ∧ (0 ≤ wh ∧ wh ≤ 1) by omega)), if_neg (by omega), kU, ec, f63, e63]; exact kUnt_eq hIc⟩ dX9_seen_54
      · skip
        refine z_iln C hl 0 rfl dX9_seen_45 ?_
        refine z_goto C 54 (by decide) dX9_seen_46 ?_
        exact z_iretW B hP hS ⟨hF, by unfold kSeen; rw [if_neg (fun h => h (show (0 ≤ st ∧ st ≤ 2 ^ (σ 6 3).toNat - 1) ∧ (0 ≤ wh ∧ wh ≤ 1) by omega)), if_pos (by omega), ec, f63, e63]⟩ dX9_seen_54
    · skip
      refine z_bp C dX9_seen_28 rfl ?_
      exact z_iretW B hP hS ⟨Fr_rf, by unfold kSeen; rw [if_pos (fun h : okS st wh (co σ 6 3) => by have h2 : (0 ≤ st ∧ st ≤ 2 ^ (σ 6 3).toNat - 1) ∧ (0 ≤ wh ∧ wh ≤ 1) := h; omega)]⟩ dX9_seen_30

set_option maxHeartbeats 2000000 in
set_option maxRecDepth 100000 in
theorem c_X9_best {l : Launch} {D : va_G} {q : Nat → Nat} {g : Nat → ClassId} {σ : Mem} (hq : qok q) (k wh : Int) (hI : TI σ) (hR : MR σ) (hX : RI σ) (hM : MX σ) (hr_k : zR k) (hr_wh : zR wh) : RW l yX9_best cX9_best 7 (some .int) 4 100 D q g σ [.ref (q 44), .int (zI k), .int (zI wh)] vI (fun r τ => Fr σ τ ∧ r = kBest (co σ) k wh) := by
  refine RW.intro (plainFor_of_name (by decide)) (Nat.le_of_ble_eq_true rfl) (fun p e s m args below meth c ls B hP hS hl => ?_)
  have C := B.1
  have hl : lv_has ls 7 [(0, .ref (q 44)), (1, .int (zI k)), (2, .int (zI wh))] := hl
  have h1 := hI.1
  have hIc := TI_cc hI
  have hx0 := hX.1
  have hm0 := hM.1
  have e12 : co σ 1 2 = σ 1 2 := rfl
  have e63 : co σ 6 3 = σ 6 3 := rfl
  have hpw := pw2_b hx0
  have hpw1 : (1 : Int) * 2 ^ (σ 44 27).toNat = 2 ^ (σ 6 3).toNat := by rw [hm0, Int.one_mul]
  refine z_iln C hl 1 rfl dX9_best_0 ?_
  refine z_i2l C (by omega) dX9_best_1 ?_
  refine z_lc0 C dX9_best_2 ?_
  refine z_ldc2 C (n := 8) wg_900 (by decide) dX9_best_3 ?_
  refine z_sRO C hP hl (c_X9_in (σ := σ) k 0 8 (by omega) (by omega) (by omega))  wg_679 wg_10 wg_677 wg_678 cw_X9_in ⟨Nat.le_of_ble_eq_true rfl, Nat.le_of_ble_eq_true rfl⟩ rfl rfl (Nat.le_of_ble_eq_true rfl) dX9_best_6 ?_
  refine z_bif_eq C 22 (by decide) dX9_best_9 (fun w1 => ?_) (fun w1 => ?_)
  · skip
    refine z_bp C dX9_best_22 rfl ?_
    exact z_iretW B hP hS ⟨Fr_rf, by unfold kBest; rw [if_pos (by omega)]⟩ dX9_best_24
  · skip
    refine z_iln C hl 2 rfl dX9_best_12 ?_
    refine z_i2l C (by omega) dX9_best_13 ?_
    refine z_lc0 C dX9_best_14 ?_
    refine z_lc1 C dX9_best_15 ?_
    refine z_sRO C hP hl (c_X9_in (σ := σ) wh 0 1 (by omega) (by omega) (by omega))  wg_679 wg_10 wg_677 wg_678 cw_X9_in ⟨Nat.le_of_ble_eq_true rfl, Nat.le_of_ble_eq_true rfl⟩ rfl rfl (Nat.le_of_ble_eq_true rfl) dX9_best_16 ?_
    refine z_bif_ne C 25 (by decide) dX9_best_19 (fun w2 => ?_) (fun w2 => ?_)
    · skip
      refine z_aln C hl 0 rfl dX9_best_25 ?_
      refine z_vRWv C hP hS hl (c_X9_findFirst (σ := σ) hq  hI hR) (z_recv C hP (i := 44) (by decide) rfl (ci := 9) rfl) wg_729 wg_10 wg_726 wg_728 ws_X9_findFirst cw_X9_findFirst ⟨Nat.le_of_ble_eq_true rfl, Nat.le_of_ble_eq_true rfl⟩ rfl rfl (Nat.le_of_ble_eq_true rfl) dX9_best_26 (fun r26 τ26 H locs hp26 hP hS => ?_)
      obtain ⟨hF, hA⟩ := hp26
      have hIt := Fr_TI hF hI
      have hRt := Fr_MR hF hI hR
      have hXt := Fr_RI hF hX
      have hMt := Fr_MX hF hM
      have ec := Fr_co hF
      have f63 := hF 6 3 rfl
      have f27 := hF 44 27 rfl
      have hkl0 := kSb_lt (T := co τ26) (st := 0) (by rw [ec]; omega) (τ26 6 3).toNat
      have hpw3 : (1 : Int) * 2 ^ (τ26 44 27).toNat = 2 ^ (σ 6 3).toNat := by rw [f27]; exact hpw1
      have hbb0 := bsF_b hIc k 0
      have hu0 : unA (co τ26) ((kSb (co τ26) 0 (τ26 6 3).toNat : Nat) : Int) (co τ26 1 2).toNat = kU (co σ) 0 := by rw [ec, f63]; exact kUnt_eq hIc
      refine z_ic C dX9_best_29 ?_
      refine z_isn C hl [(3, .int (zI 0)), (0, .ref (q 44)), (1, .int (zI k)), (2, .int (zI wh))] (by decide) rfl dX9_best_30 (fun ls hl => ?_)
      refine z_aln C hl 1 rfl dX9_best_31 ?_
      refine z_aln C hl 1 rfl dX9_best_32 ?_
      refine z_ic C dX9_best_33 ?_
      refine z_vRO C hP hl (c_X9_seenBy (σ := τ26) 0 hIt hRt hXt hMt hA (by omega)) (z_recv C hP (i := 44) (by decide) rfl (ci := 9) rfl) wg_891 wg_10 wg_888 wg_890 ws_X9_seenBy cw_X9_seenBy ⟨Nat.le_of_ble_eq_true rfl, Nat.le_of_ble_eq_true rfl⟩ rfl rfl (Nat.le_of_ble_eq_true rfl) dX9_best_34 ?_
      refine z_vRO C hP hl (c_X9_untold (σ := τ26) ((kSb (co τ26) 0 (τ26 6 3).toNat : Nat) : Int) hIt hRt (by omega)) (z_recv C hP (i := 44) (by decide) rfl (ci := 9) rfl) wg_895 wg_10 wg_892 wg_894 ws_X9_untold cw_X9_untold ⟨Nat.le_of_ble_eq_true rfl, Nat.le_of_ble_eq_true rfl⟩ rfl rfl (Nat.le_of_ble_eq_true rfl) dX9_best_37 ?_
      refine z_ist C hl [(4, .int (zI (unA (co τ26) ((kSb (co τ26) 0 (τ26 6 3).toNat : Nat) : Int) (co τ26 1 2).toNat))), (3, .int (zI 0)), (0, .ref (q 44)), (1, .int (zI k)), (2, .int (zI wh))] (by decide) rfl dX9_best_40 (fun ls hl => ?_)
      refine z_ic C dX9_best_42 ?_
      refine z_ist C hl [(5, .int (zI 1)), (4, .int (zI (unA (co τ26) ((kSb (co τ26) 0 (τ26 6 3).toNat : Nat) : Int) (co τ26 1 2).toNat))), (3, .int (zI 0)), (0, .ref (q 44)), (1, .int (zI k)), (2, .int (zI wh))] (by decide) rfl dX9_best_43 (fun ls hl => ?_)
      have L45 : ∀ (n : Nat) (bs : Int) (fw : Int) (x : Int)  , 2 ^ (σ 6 3).toNat - x < (n : Int) → (1 ≤ x ∧ x ≤ 2 ^ (σ 6 3).toNat) → (bs = (bsF (co σ) k (x - 1).toNat).1) → (fw = (bsF (co σ) k (x - 1).toNat).2) → ∀ ls : Array Slot, lv_has ls 7 [(0, .ref (q 44)), (1, .int (zI k)), (2, .int (zI wh)), (3, .int (zI bs)), (4, .int (zI fw)), (5, .int (zI x))] → WW p l e 4 100 s m args below meth c H locs D q g vI (fun r τ => Fr σ τ ∧ r = kBest (co σ) k wh) (F0 m 45 ls []) := by
        intro n
        induction n with
        | zero => intro bs fw x hm hx hb1 hb2 ls hl; exact False.elim (by omega)
        | succ n ih =>
          intro bs fw x hm hx hb1 hb2 ls hl
          have ih45 := ih; clear ih
          refine z_il C hl 5 rfl dX9_best_45 ?_
          refine z_ic C dX9_best_47 ?_
          refine z_aln C hl 0 rfl dX9_best_48 ?_
          refine gf_X9_229 C hP dX9_best_49 ?_
          refine z_ishl C (by omega) dX9_best_52 ?_
          refine z_icmp_ge C 116 (by decide) (by omega) (by omega) dX9_best_53 (fun w3 => ?_) (fun w3 => ?_)
          · skip
            refine z_iln C hl 2 rfl dX9_best_116 ?_
            refine z_if_ne C 124 (by decide) (by omega) dX9_best_117 (fun w4 => ?_) (fun w4 => ?_)
            · skip
              refine z_il C hl 4 rfl dX9_best_124 ?_
              exact z_iretW B hP hS ⟨hF, by unfold kBest; rw [if_neg (by omega), e63, show 2 ^ (σ 6 3).toNat - 1 = (x - 1).toNat by omega, if_neg (by omega)]; exact hb2⟩ dX9_best_126
            · skip
              refine z_iln C hl 3 rfl dX9_best_120 ?_
              refine z_goto C 126 (by decide) dX9_best_121 ?_
              exact z_iretW B hP hS ⟨hF, by unfold kBest; rw [if_neg (by omega), e63, show 2 ^ (σ 6 3).toNat - 1 = (x - 1).toNat by omega, if_pos (by omega)]; exact hb1⟩ dX9_best_126
          · skip
            have hbb := bsF_b hIc k (x - 1).toNat
            have hkl := kSb_lt (T := co τ26) (st := x) (by rw [ec]; omega) (τ26 6 3).toNat
            have hpx := pc_b (x := x) (by omega)
            have hpb := pc_b (x := bs) (by omega)
            have hku : unA (co τ26) ((kSb (co τ26) x (τ26 6 3).toNat : Nat) : Int) (co τ26 1 2).toNat = kU (co σ) x := by rw [ec, f63]; exact kUnt_eq hIc
            have hctb := kCTF_b (T := co σ) (co σ 1 2).toNat
            have hkb := kUnt_b (t := kCT (co σ)) (m := ((kSb (co σ) x (co σ 6 3).toNat : Nat) : Int)) (by unfold kCT; omega) (by omega)
            have hkb2 : -1000 ≤ kU (co σ) x ∧ kU (co σ) x ≤ 1000 := hkb
            have hst : bsF (co σ) k (x + 1 - 1).toNat = if pc x ≤ k ∧ (kU (co σ) x < (bsF (co σ) k (x - 1).toNat).2 ∨ (kU (co σ) x = (bsF (co σ) k (x - 1).toNat).2 ∧ pc x < pc (bsF (co σ) k (x - 1).toNat).1)) then (x, kU (co σ) x) else bsF (co σ) k (x - 1).toNat := by rw [show (x + 1 - 1).toNat = (x - 1).toNat + 1 by omega, bsF, show (((x - 1).toNat : Nat) : Int) + 1 = x by omega]
            rw [← hb1, ← hb2] at hst
            refine z_il C hl 5 rfl dX9_best_56 ?_
            refine z_sRO C hP hl (c_X9_ones (σ := τ26) x (by omega))  wg_903 wg_10 wg_901 wg_902 cw_X9_ones ⟨Nat.le_of_ble_eq_true rfl, Nat.le_of_ble_eq_true rfl⟩ rfl rfl (Nat.le_of_ble_eq_true rfl) dX9_best_58 ?_
            refine z_iln C hl 1 rfl dX9_best_61 ?_
            refine z_icmp_gt C 110 (by decide) (by omega) (by omega) dX9_best_62 (fun w5 => ?_) (fun w5 => ?_)
            · skip
              refine z_iinc C hl 5 rfl [(5, .int (zI (x + 1))), (0, .ref (q 44)), (1, .int (zI k)), (2, .int (zI wh)), (3, .int (zI bs)), (4, .int (zI fw))] (by decide) rfl dX9_best_110 (fun ls hl => ?_)
              refine z_goto C 45 (by decide) dX9_best_113 ?_
              exact ih45 bs fw (x + 1) (by omega) (by omega) (by rw [hst, if_neg (by omega)]; exact hb1) (by rw [hst, if_neg (by omega)]; exact hb2) ls (lv_sub hl [1, 2, 3, 4, 5, 0] rfl)
            · skip
              refine z_aln C hl 0 rfl dX9_best_65 ?_
              refine z_aln C hl 0 rfl dX9_best_66 ?_
              refine z_il C hl 5 rfl dX9_best_67 ?_
              refine z_vRO C hP hl (c_X9_seenBy (σ := τ26) x hIt hRt hXt hMt hA (by omega)) (z_recv C hP (i := 44) (by decide) rfl (ci := 9) rfl) wg_891 wg_10 wg_888 wg_890 ws_X9_seenBy cw_X9_seenBy ⟨Nat.le_of_ble_eq_true rfl, Nat.le_of_ble_eq_true rfl⟩ rfl rfl (Nat.le_of_ble_eq_true rfl) dX9_best_69 ?_
              refine z_vRO C hP hl (c_X9_untold (σ := τ26) ((kSb (co τ26) x (τ26 6 3).toNat : Nat) : Int) hIt hRt (by omega)) (z_recv C hP (i := 44) (by decide) rfl (ci := 9) rfl) wg_895 wg_10 wg_892 wg_894 ws_X9_untold cw_X9_untold ⟨Nat.le_of_ble_eq_true rfl, Nat.le_of_ble_eq_true rfl⟩ rfl rfl (Nat.le_of_ble_eq_true rfl) dX9_best_72 ?_
              refine z_ist C hl [(6, .int (zI (unA (co τ26) ((kSb (co τ26) x (τ26 6 3).toNat : Nat) : Int) (co τ26 1 2).toNat))), (0, .ref (q 44)), (1, .int (zI k)), (2, .int (zI wh)), (3, .int (zI bs)), (4, .int (zI fw)), (5, .int (zI x))] (by decide) rfl dX9_best_75 (fun ls hl => ?_)
              refine z_il C hl 0 rfl dX9_best_77 ?_
              refine z_il C hl 5 rfl dX9_best_79 ?_
              refine z_icmp_lt C 103 (by decide) (by omega) (by omega) dX9_best_81 (fun w6 => ?_) (fun w6 => ?_)
              · skip
                refine z_il C hl 0 rfl dX9_best_103 ?_
                refine z_ist C hl [(4, .int (zI (unA (co τ26) ((kSb (co τ26) x (τ26 6 3).toNat : Nat) : Int) (co τ26 1 2).toNat))), (6, .int (zI (unA (co τ26) ((kSb (co τ26) x (τ26 6 3).toNat : Nat) : Int) (co τ26 1 2).toNat))), (0, .ref (q 44)), (1, .int (zI k)), (2, .int (zI wh)), (3, .int (zI bs)), (5, .int (zI x))] (by decide) rfl dX9_best_105 (fun ls hl => ?_)
                refine z_il C hl 6 rfl dX9_best_107 ?_
                refine z_isn C hl [(3, .int (zI x)), (4, .int (zI (unA (co τ26) ((kSb (co τ26) x (τ26 6 3).toNat : Nat) : Int) (co τ26 1 2).toNat))), (6, .int (zI (unA (co τ26) ((kSb (co τ26) x (τ26 6 3).toNat : Nat) : Int) (co τ26 1 2).toNat))), (0, .ref (q 44)), (1, .int (zI k)), (2, .int (zI wh)), (5, .int (zI x))] (by decide) rfl dX9_best_109 (fun ls hl => ?_)
                refine z_iinc C hl 6 rfl [(5, .int (zI (x + 1))), (3, .int (zI x)), (4, .int (zI (unA (co τ26) ((kSb (co τ26) x (τ26 6 3).toNat : Nat) : Int) (co τ26 1 2).toNat))), (6, .int (zI (unA (co τ26) ((kSb (co τ26) x (τ26 6 3).toNat : Nat) : Int) (co τ26 1 2).toNat))), (0, .ref (q 44)), (1, .int (zI k)), (2, .int (zI wh))] (by decide) rfl dX9_best_110 (fun ls hl => ?_)
                refine z_goto C 45 (by decide) dX9_best_113 ?_
                exact ih45 x (unA (co τ26) ((kSb (co τ26) x (τ26 6 3).toNat : Nat) : Int) (co τ26 1 2).toNat) (x + 1) (by omega) (by omega) (by rw [hst, if_pos (by omega)]) (by rw [hst, if_pos (by omega)]; exact hku) ls (lv_sub hl [4, 5, 6, 1, 2, 0] rfl)
              · skip
                refine z_il C hl 0 rfl dX9_best_84 ?_
                refine z_il C hl 5 rfl dX9_best_86 ?_
                refine z_icmp_ne C 110 (by decide) (by omega) (by omega) dX9_best_88 (fun w7 => ?_) (fun w7 => ?_)
                · skip
                  refine z_iinc C hl 6 rfl [(5, .int (zI (x + 1))), (6, .int (zI (unA (co τ26) ((kSb (co τ26) x (τ26 6 3).toNat : Nat) : Int) (co τ26 1 2).toNat))), (0, .ref (q 44)), (1, .int (zI k)), (2, .int (zI wh)), (3, .int (zI bs)), (4, .int (zI fw))] (by decide) rfl dX9_best_110 (fun ls hl => ?_)
                  refine z_goto C 45 (by decide) dX9_best_113 ?_
                  exact ih45 bs fw (x + 1) (by omega) (by omega) (by rw [hst, if_neg (by omega)]; exact hb1) (by rw [hst, if_neg (by omega)]; exact hb2) ls (lv_sub hl [2, 3, 4, 5, 6, 0] rfl)
                · skip
                  refine z_il C hl 6 rfl dX9_best_91 ?_
                  refine z_sRO C hP hl (c_X9_ones (σ := τ26) x (by omega))  wg_903 wg_10 wg_901 wg_902 cw_X9_ones ⟨Nat.le_of_ble_eq_true rfl, Nat.le_of_ble_eq_true rfl⟩ rfl rfl (Nat.le_of_ble_eq_true rfl) dX9_best_93 ?_
                  refine z_iln C hl 4 rfl dX9_best_96 ?_
                  refine z_sRO C hP hl (c_X9_ones (σ := τ26) bs (by omega))  wg_903 wg_10 wg_901 wg_902 cw_X9_ones ⟨Nat.le_of_ble_eq_true rfl, Nat.le_of_ble_eq_true rfl⟩ rfl rfl (Nat.le_of_ble_eq_true rfl) dX9_best_97 ?_
                  refine z_icmp_ge C 110 (by decide) (by omega) (by omega) dX9_best_100 (fun w8 => ?_) (fun w8 => ?_)
                  · skip
                    refine z_iinc C hl 6 rfl [(5, .int (zI (x + 1))), (6, .int (zI (unA (co τ26) ((kSb (co τ26) x (τ26 6 3).toNat : Nat) : Int) (co τ26 1 2).toNat))), (0, .ref (q 44)), (1, .int (zI k)), (2, .int (zI wh)), (3, .int (zI bs)), (4, .int (zI fw))] (by decide) rfl dX9_best_110 (fun ls hl => ?_)
                    refine z_goto C 45 (by decide) dX9_best_113 ?_
                    exact ih45 bs fw (x + 1) (by omega) (by omega) (by rw [hst, if_neg (by omega)]; exact hb1) (by rw [hst, if_neg (by omega)]; exact hb2) ls (lv_sub hl [2, 3, 4, 5, 6, 0] rfl)
                  · skip
                    refine z_il C hl 0 rfl dX9_best_103 ?_
                    refine z_ist C hl [(4, .int (zI (unA (co τ26) ((kSb (co τ26) x (τ26 6 3).toNat : Nat) : Int) (co τ26 1 2).toNat))), (6, .int (zI (unA (co τ26) ((kSb (co τ26) x (τ26 6 3).toNat : Nat) : Int) (co τ26 1 2).toNat))), (0, .ref (q 44)), (1, .int (zI k)), (2, .int (zI wh)), (3, .int (zI bs)), (5, .int (zI x))] (by decide) rfl dX9_best_105 (fun ls hl => ?_)
                    refine z_il C hl 6 rfl dX9_best_107 ?_
                    refine z_isn C hl [(3, .int (zI x)), (4, .int (zI (unA (co τ26) ((kSb (co τ26) x (τ26 6 3).toNat : Nat) : Int) (co τ26 1 2).toNat))), (6, .int (zI (unA (co τ26) ((kSb (co τ26) x (τ26 6 3).toNat : Nat) : Int) (co τ26 1 2).toNat))), (0, .ref (q 44)), (1, .int (zI k)), (2, .int (zI wh)), (5, .int (zI x))] (by decide) rfl dX9_best_109 (fun ls hl => ?_)
                    refine z_iinc C hl 6 rfl [(5, .int (zI (x + 1))), (3, .int (zI x)), (4, .int (zI (unA (co τ26) ((kSb (co τ26) x (τ26 6 3).toNat : Nat) : Int) (co τ26 1 2).toNat))), (6, .int (zI (unA (co τ26) ((kSb (co τ26) x (τ26 6 3).toNat : Nat) : Int) (co τ26 1 2).toNat))), (0, .ref (q 44)), (1, .int (zI k)), (2, .int (zI wh))] (by decide) rfl dX9_best_110 (fun ls hl => ?_)
                    refine z_goto C 45 (by decide) dX9_best_113 ?_
                    exact ih45 x (unA (co τ26) ((kSb (co τ26) x (τ26 6 3).toNat : Nat) : Int) (co τ26 1 2).toNat) (x + 1) (by omega) (by omega) (by rw [hst, if_pos (by omega)]) (by rw [hst, if_pos (by omega)]; exact hku) ls (lv_sub hl [4, 5, 6, 1, 2, 0] rfl)
      exact L45 ((2 ^ (σ 6 3).toNat - 1 : Int).toNat + 1) 0 (unA (co τ26) ((kSb (co τ26) 0 (τ26 6 3).toNat : Nat) : Int) (co τ26 1 2).toNat) 1 (by omega) (by omega) rfl hu0 ls (lv_sub hl [3, 4, 5, 2, 1, 0] rfl)
    · skip
      refine z_bp C dX9_best_22 rfl ?_
      exact z_iretW B hP hS ⟨Fr_rf, by unfold kBest; rw [if_pos (by omega)]⟩ dX9_best_24
