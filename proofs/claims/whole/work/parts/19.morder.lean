set_option maxHeartbeats 4000000 in
set_option maxRecDepth 100000 in
theorem c_X9_findOrder {l : Launch} {D : va_G} {q : Nat → Nat} {g : Nat → ClassId} {σ : Mem} (hq : qok q) (md : Int) (hI : TI σ) (hR : MR σ) (hmd : 0 ≤ md ∧ md ≤ 1) : RW l yX9_findOrder cX9_findOrder 4 none 4 100 D q g σ [.ref (q 44), .int (zI md)] vV (fun _ τ => Fr σ τ ∧ FA τ ∧ OR (co σ) md (co σ 1 2).toNat τ) := by
  refine RW.intro (plainFor_of_name (by decide)) (Nat.le_of_ble_eq_true rfl) (fun p e s m args below meth c ls B hP hS hl => ?_)
  have C := B.1
  have hl : lv_has ls 4 [(0, .ref (q 44)), (1, .int (zI md))] := hl
  have h1 := hI.1
  have hIc := TI_cc hI
  have e12 : co σ 1 2 = σ 1 2 := rfl
  have hh := hR.1
  refine z_aln C hl 0 rfl dX9_findOrder_0 ?_
  refine z_vRWv C hP hS hl (c_X9_findFirst (σ := σ) hq  hI hR) (z_recv C hP (i := 44) (by decide) rfl (ci := 9) rfl) wg_729 wg_10 wg_726 wg_728 ws_X9_findFirst cw_X9_findFirst ⟨Nat.le_of_ble_eq_true rfl, Nat.le_of_ble_eq_true rfl⟩ rfl rfl (Nat.le_of_ble_eq_true rfl) dX9_findOrder_1 (fun r1 τ1 H locs hp1 hP hS => ?_)
  refine z_aln C hl 0 rfl dX9_findOrder_4 ?_
  refine z_ic C dX9_findOrder_5 ?_
  refine pf_X9_150 C hq hP hS dX9_findOrder_6 (fun H locs hP hS => ?_)
  refine z_ic C dX9_findOrder_9 ?_
  refine z_isn C hl [(2, .int (zI 0)), (0, .ref (q 44)), (1, .int (zI md))] (by decide) rfl dX9_findOrder_10 (fun ls hl => ?_)
  have L11 : ∀ (n : Nat) (k : Int)  (τ : Mem), σ 1 2 - k < (n : Int) → (0 ≤ k ∧ k ≤ σ 1 2) → (Fr σ τ) → (FA τ) → (OR (co σ) md k.toNat τ) → ∀ (H : Heap) (locs : List Loc), HP D q g τ H → va_S (aQ q) s.heap H locs → ∀ ls : Array Slot, lv_has ls 4 [(0, .ref (q 44)), (1, .int (zI md)), (2, .int (zI k))] → WW p l e 4 100 s m args below meth c H locs D q g vV (fun _ τ => Fr σ τ ∧ FA τ ∧ OR (co σ) md (co σ 1 2).toNat τ) (F0 m 11 ls []) := by
    intro n
    induction n with
    | zero => intro k τ hm hk hF hA hO H locs hP hS ls hl; exact False.elim (by omega)
    | succ n ih =>
      intro k τ hm hk hF hA hO H locs hP hS ls hl
      have ih11 := ih; clear ih
      refine z_iln C hl 2 rfl dX9_findOrder_11 ?_
      have e6 := hF 44 6 rfl
      have e1 := hF 1 2 rfl
      refine z_aln C hl 0 rfl dX9_findOrder_12 ?_
      refine gf_X9_66 C hP dX9_findOrder_13 ?_
      refine z_icmp_ge C 101 (by decide) (by omega) (by omega) dX9_findOrder_16 (fun w1 => ?_) (fun w1 => ?_)
      · skip
        exact z_vretW B hP hS ⟨hF, hA, by rw [show (co σ 1 2).toNat = k.toNat by omega]; exact hO⟩ dX9_findOrder_101
      · skip
        have hIt := Fr_TI hF hI
        have ec := Fr_co hF
        have hjb := kJn_b hIc (lane := k) (by omega)
        have hor := kOrd_rng (co σ) md k.toNat
        have hjc := mN_c (kJn (co σ) k)
        have hje : mN (kJn (co τ) k) = mN (kJn (co σ) k) := by rw [ec]
        have hjm := mN_b hjb
        have ho0 := hO.1
        refine z_aln C hl 0 rfl dX9_findOrder_19 ?_
        refine z_iln C hl 2 rfl dX9_findOrder_20 ?_
        refine z_vRO C hP hl (c_X9_joinedOf (σ := τ) k hIt hA (by omega)) (z_recv C hP (i := 44) (by decide) rfl (ci := 9) rfl) wg_740 wg_10 wg_737 wg_739 ws_X9_joinedOf cw_X9_joinedOf ⟨Nat.le_of_ble_eq_true rfl, Nat.le_of_ble_eq_true rfl⟩ rfl rfl (Nat.le_of_ble_eq_true rfl) dX9_findOrder_21 ?_
        refine z_if_lt C 95 (by decide) (by omega) dX9_findOrder_24 (fun w2 => ?_) (fun w2 => ?_)
        · skip
          refine z_iinc C hl 2 rfl [(2, .int (zI (k + 1))), (0, .ref (q 44)), (1, .int (zI md))] (by decide) rfl dX9_findOrder_95 (fun ls hl => ?_)
          refine z_goto C 11 (by decide) dX9_findOrder_98 ?_
          exact ih11 (k + 1) τ (by omega) (by omega) hF hA (by rw [show (k + 1).toNat = k.toNat + 1 by omega]; exact OR_no hO (by rw [show ((k.toNat : Nat) : Int) = k by omega]; omega)) _ _ hP hS ls (lv_sub hl [1, 2, 0] rfl)
        · skip
          have hmn : (τ 44 13).toNat = (kOrd (co σ) md k.toNat).2 := by omega
          have hkb := kKey_b hIc (md := md) (lane := k) (by omega)
          refine z_aln C hl 0 rfl dX9_findOrder_27 ?_
          refine gf_X9_150 C hP dX9_findOrder_28 ?_
          refine z_isn C hl [(3, .int (zI (τ 44 13))), (0, .ref (q 44)), (1, .int (zI md)), (2, .int (zI k))] (by decide) rfl dX9_findOrder_31 (fun ls hl => ?_)
          have L32 : ∀ (n : Nat) (x : Int)  (υ : Mem), x < (n : Int) → (0 ≤ x ∧ x ≤ τ 44 13) → (Fr σ υ) → (FA υ) → (υ 44 13 = τ 44 13) → (kpos (fun j => kKey (co σ) md ((kOrd (co σ) md k.toNat).1 j)) (kKey (co σ) md k) (τ 44 13).toNat = kpos (fun j => kKey (co σ) md ((kOrd (co σ) md k.toNat).1 j)) (kKey (co σ) md k) x.toNat) → (shf (τ 52) (υ 52) x (τ 44 13)) → ∀ (H : Heap) (locs : List Loc), HP D q g υ H → va_S (aQ q) s.heap H locs → ∀ ls : Array Slot, lv_has ls 4 [(0, .ref (q 44)), (1, .int (zI md)), (2, .int (zI k)), (3, .int (zI x))] → WW p l e 4 100 s m args below meth c H locs D q g vV (fun _ τ => Fr σ τ ∧ FA τ ∧ OR (co σ) md (co σ 1 2).toNat τ) (F0 m 32 ls []) := by
            intro n
            induction n with
            | zero => intro x υ hm hx hF2 hA2 hz hp h52 H locs hP hS ls hl; exact False.elim (by omega)
            | succ n ih =>
              intro x υ hm hx hF2 hA2 hz hp h52 H locs hP hS ls hl
              have ih32 := ih; clear ih
              refine z_iln C hl 3 rfl dX9_findOrder_32 ?_
              refine z_if_le C 78 (by decide) (by omega) dX9_findOrder_33 (fun w3 => ?_) (fun w3 => ?_)
              · skip
                have hpx : kpos (fun j => kKey (co σ) md ((kOrd (co σ) md k.toNat).1 j)) (kKey (co σ) md k) x.toNat = x.toNat := kpos_at hx.1 (by omega)
                refine z_aln C hl 0 rfl dX9_findOrder_78 ?_
                refine gf_X9_32 C hP dX9_findOrder_79 ?_
                refine z_iln C hl 3 rfl dX9_findOrder_82 ?_
                refine z_iln C hl 2 rfl dX9_findOrder_83 ?_
                refine z_iast C hq hP hS (i := 52) (by decide) (fun _ => rfl) (by omega) (by decide) dX9_findOrder_84 (fun H locs hP hS => ?_)
                refine z_aln C hl 0 rfl dX9_findOrder_85 ?_
                refine z_dup C rfl dX9_findOrder_86 ?_
                refine gf_X9_150 C hP dX9_findOrder_87 ?_
                refine z_tope (b := υ 44 13) (by unfold um; rw [if_neg (by omega)]) ?_
                refine z_ic C dX9_findOrder_90 ?_
                refine z_iadd C dX9_findOrder_91 ?_
                refine pf_X9_150 C hq hP hS dX9_findOrder_92 (fun H locs hP hS => ?_)
                refine z_iinc C hl 2 rfl [(2, .int (zI (k + 1))), (0, .ref (q 44)), (1, .int (zI md)), (3, .int (zI x))] (by decide) rfl dX9_findOrder_95 (fun ls hl => ?_)
                refine z_goto C 11 (by decide) dX9_findOrder_98 ?_
                exact ih11 (k + 1) (um (um (υ) 52 x.toNat k) 44 13 ((υ 44 13) + 1)) (by omega) (by omega) (Fr_um (Fr_um hF2 (by simp [sc])) (by simp [sc])) (FA_keep hA2 (by funext b; simp [um]) ((Fr_co (Fr_um (Fr_um hF2 (by simp [sc])) (by simp [sc]))).trans (Fr_co hF2).symm)) (by rw [show (k + 1).toNat = k.toNat + 1 by omega]; exact OR_yes hO (by rw [show ((k.toNat : Nat) : Int) = k by omega]; omega) hx.1 (by rw [show ((k.toNat : Nat) : Int) = k by omega, ← hmn]; exact hp.trans hpx) (by simp [um, hz]) (fun j hj => by rw [show ((k.toNat : Nat) : Int) = k by omega]; exact shf_end h52 hx (by simp [um]) (fun i hi => by simp [um, hi]) hj)) _ _ hP hS ls (lv_sub hl [1, 2, 0] rfl)
              · skip
                have hj : (x - 1).toNat < (kOrd (co σ) md k.toNat).2 := by omega
                have hor2 := hor.2 _ hj
                have hv : υ 52 (x - 1).toNat = (kOrd (co σ) md k.toNat).1 (x - 1).toNat := ((h52 _).1 (by omega)).trans (hO.2 _ hj)
                have ecu := Fr_co hF2
                have e1u := hF2 1 2 rfl
                have hIu := Fr_TI hF2 hI
                have hRu := Fr_MR hF2 hI hR
                have hk1 : mN (kJn (co υ) (υ 52 (x - 1).toNat)) - (if md = 0 then 0 else kHe (co υ) (υ 52 (x - 1).toNat)) = kKey (co σ) md ((kOrd (co σ) md k.toNat).1 (x - 1).toNat) := by rw [ecu, hv]; exact mKey hor2.2.2
                have hk2 : mN (kJn (co υ) k) - (if md = 0 then 0 else kHe (co υ) k) = kKey (co σ) md k := by rw [ecu]; exact mKey (by omega)
                have hkb1 := kKey_b hIc (md := md) (lane := (kOrd (co σ) md k.toNat).1 (x - 1).toNat) (by omega)
                refine z_aln C hl 0 rfl dX9_findOrder_36 ?_
                refine z_aln C hl 0 rfl dX9_findOrder_37 ?_
                refine gf_X9_32 C hP dX9_findOrder_38 ?_
                refine z_iln C hl 3 rfl dX9_findOrder_41 ?_
                refine z_ic C dX9_findOrder_42 ?_
                refine z_isub C dX9_findOrder_43 ?_
                refine z_iald C hP (i := 52) (by decide) (fun _ => rfl) (by omega) (by decide) dX9_findOrder_44 ?_
                refine z_iln C hl 1 rfl dX9_findOrder_45 ?_
                refine z_vRO C hP hl (c_X9_timeOf (σ := υ) (υ 52 (x - 1).toNat) md hIu hRu (by omega) hA2 (by omega)) (z_recv C hP (i := 44) (by decide) rfl (ci := 9) rfl) wg_775 wg_10 wg_772 wg_774 ws_X9_timeOf cw_X9_timeOf ⟨Nat.le_of_ble_eq_true rfl, Nat.le_of_ble_eq_true rfl⟩ rfl rfl (Nat.le_of_ble_eq_true rfl) dX9_findOrder_46 ?_
                refine z_aln C hl 0 rfl dX9_findOrder_49 ?_
                refine z_iln C hl 2 rfl dX9_findOrder_50 ?_
                refine z_iln C hl 1 rfl dX9_findOrder_51 ?_
                refine z_vRO C hP hl (c_X9_timeOf (σ := υ) k md hIu hRu (by omega) hA2 (by omega)) (z_recv C hP (i := 44) (by decide) rfl (ci := 9) rfl) wg_775 wg_10 wg_772 wg_774 ws_X9_timeOf cw_X9_timeOf ⟨Nat.le_of_ble_eq_true rfl, Nat.le_of_ble_eq_true rfl⟩ rfl rfl (Nat.le_of_ble_eq_true rfl) dX9_findOrder_52 ?_
                refine z_icmp_le C 78 (by decide) (by omega) (by omega) dX9_findOrder_55 (fun w4 => ?_) (fun w4 => ?_)
                · skip
                  have hpx : kpos (fun j => kKey (co σ) md ((kOrd (co σ) md k.toNat).1 j)) (kKey (co σ) md k) x.toNat = x.toNat := kpos_at hx.1 (by omega)
                  refine z_aln C hl 0 rfl dX9_findOrder_78 ?_
                  refine gf_X9_32 C hP dX9_findOrder_79 ?_
                  refine z_iln C hl 3 rfl dX9_findOrder_82 ?_
                  refine z_iln C hl 2 rfl dX9_findOrder_83 ?_
                  refine z_iast C hq hP hS (i := 52) (by decide) (fun _ => rfl) (by omega) (by decide) dX9_findOrder_84 (fun H locs hP hS => ?_)
                  refine z_aln C hl 0 rfl dX9_findOrder_85 ?_
                  refine z_dup C rfl dX9_findOrder_86 ?_
                  refine gf_X9_150 C hP dX9_findOrder_87 ?_
                  refine z_tope (b := υ 44 13) (by unfold um; rw [if_neg (by omega)]) ?_
                  refine z_ic C dX9_findOrder_90 ?_
                  refine z_iadd C dX9_findOrder_91 ?_
                  refine pf_X9_150 C hq hP hS dX9_findOrder_92 (fun H locs hP hS => ?_)
                  refine z_iinc C hl 2 rfl [(2, .int (zI (k + 1))), (0, .ref (q 44)), (1, .int (zI md)), (3, .int (zI x))] (by decide) rfl dX9_findOrder_95 (fun ls hl => ?_)
                  refine z_goto C 11 (by decide) dX9_findOrder_98 ?_
                  exact ih11 (k + 1) (um (um (υ) 52 x.toNat k) 44 13 ((υ 44 13) + 1)) (by omega) (by omega) (Fr_um (Fr_um hF2 (by simp [sc])) (by simp [sc])) (FA_keep hA2 (by funext b; simp [um]) ((Fr_co (Fr_um (Fr_um hF2 (by simp [sc])) (by simp [sc]))).trans (Fr_co hF2).symm)) (by rw [show (k + 1).toNat = k.toNat + 1 by omega]; exact OR_yes hO (by rw [show ((k.toNat : Nat) : Int) = k by omega]; omega) hx.1 (by rw [show ((k.toNat : Nat) : Int) = k by omega, ← hmn]; exact hp.trans hpx) (by simp [um, hz]) (fun j hj => by rw [show ((k.toNat : Nat) : Int) = k by omega]; exact shf_end h52 hx (by simp [um]) (fun i hi => by simp [um, hi]) hj)) _ _ hP hS ls (lv_sub hl [1, 2, 0] rfl)
                · skip
                  refine z_aln C hl 0 rfl dX9_findOrder_58 ?_
                  refine gf_X9_32 C hP dX9_findOrder_59 ?_
                  refine z_iln C hl 3 rfl dX9_findOrder_62 ?_
                  refine z_aln C hl 0 rfl dX9_findOrder_63 ?_
                  refine gf_X9_32 C hP dX9_findOrder_64 ?_
                  refine z_iln C hl 3 rfl dX9_findOrder_67 ?_
                  refine z_ic C dX9_findOrder_68 ?_
                  refine z_isub C dX9_findOrder_69 ?_
                  refine z_iald C hP (i := 52) (by decide) (fun _ => rfl) (by omega) (by decide) dX9_findOrder_70 ?_
                  refine z_iast C hq hP hS (i := 52) (by decide) (fun _ => rfl) (by omega) (by decide) dX9_findOrder_71 (fun H locs hP hS => ?_)
                  refine z_iinc C hl 3 rfl [(3, .int (zI (x + (-1)))), (0, .ref (q 44)), (1, .int (zI md)), (2, .int (zI k))] (by decide) rfl dX9_findOrder_72 (fun ls hl => ?_)
                  refine z_goto C 32 (by decide) dX9_findOrder_75 ?_
                  exact ih32 (x + (-1)) (um (υ) 52 x.toNat (υ 52 (x - 1).toNat)) (by omega) (by omega) (Fr_um hF2 (by simp [sc])) (FA_keep hA2 (by funext b; simp [um]) ((Fr_co (Fr_um hF2 (by simp [sc]))).trans (Fr_co hF2).symm)) (by simp [um, hz]) (hp.trans (kpos_go (by omega) (by omega))) (shf_step h52 (by omega) (by simp [um]) (fun i hi => by simp [um, hi])) _ _ hP hS ls (lv_sub hl [1, 2, 3, 0] rfl)
          exact L32 (((τ 44 13) : Int).toNat + 1) (τ 44 13) τ (by omega) (by omega) hF hA rfl rfl shf_init _ _ hP hS ls (lv_sub hl [1, 2, 3, 0] rfl)
  exact L11 ((σ 1 2 - 0 : Int).toNat + 1) 0 (um τ1 44 13 0) (by omega) (by omega) (Fr_um hp1.1 (by simp [sc])) (FA_keep hp1.2 (by funext b; simp [um]) ((Fr_co (Fr_um hp1.1 (by simp [sc]))).trans (Fr_co hp1.1).symm)) ⟨by simp [um]; rfl, fun j hj => by cases hj⟩ _ _ hP hS ls (lv_sub hl [1, 2, 0] rfl)

set_option maxHeartbeats 4000000 in
set_option maxRecDepth 100000 in
theorem c_X9_order {l : Launch} {D : va_G} {q : Nat → Nat} {g : Nat → ClassId} {σ : Mem} (hq : qok q) (i : Int) (hI : TI σ) (hR : MR σ) (hr_i : zR i) : RW l yX9_order cX9_order 2 (some .int) 5 123 D q g σ [.ref (q 44), .int (zI i)] vI (fun r τ => Fr σ τ ∧ r = if i = -1 then (kOn (co σ) 0 : Int) else kOAt (co σ) 0 i) := by
  refine RW.intro (plainFor_of_name (by decide)) (Nat.le_of_ble_eq_true rfl) (fun p e s m args below meth c ls B hP hS hl => ?_)
  have C := B.1
  have hl : lv_has ls 2 [(0, .ref (q 44)), (1, .int (zI i))] := hl
  have h1 := hI.1
  have hIc := TI_cc hI
  have e12 : co σ 1 2 = σ 1 2 := rfl
  have hh := hR.1
  refine z_aln C hl 0 rfl dX9_order_0 ?_
  refine z_ic C dX9_order_1 ?_
  refine z_vRWv C hP hS hl (c_X9_findOrder (σ := σ) hq 0 hI hR (by omega)) (z_recv C hP (i := 44) (by decide) rfl (ci := 9) rfl) wg_771 wg_10 wg_768 wg_770 ws_X9_findOrder cw_X9_findOrder ⟨Nat.le_of_ble_eq_true rfl, Nat.le_of_ble_eq_true rfl⟩ rfl rfl (Nat.le_of_ble_eq_true rfl) dX9_order_2 (fun r2 τ2 H locs hp2 hP hS => ?_)
  obtain ⟨hF, hA, hO⟩ := hp2
  have hor := kOrd_rng (co σ) 0 (co σ 1 2).toNat
  have ho0 := hO.1
  have e1 := hF 1 2 rfl
  have hIt := Fr_TI hF hI
  have ec := Fr_co hF
  refine z_iln C hl 1 rfl dX9_order_5 ?_
  refine z_ic C dX9_order_6 ?_
  refine z_icmp_ne C 17 (by decide) (by omega) (by omega) dX9_order_7 (fun w1 => ?_) (fun w1 => ?_)
  · skip
    refine z_iln C hl 1 rfl dX9_order_17 ?_
    refine z_i2l C (by omega) dX9_order_18 ?_
    refine z_lc0 C dX9_order_19 ?_
    refine z_aln C hl 0 rfl dX9_order_20 ?_
    refine gf_X9_150 C hP dX9_order_21 ?_
    refine z_ic C dX9_order_24 ?_
    refine z_isub C dX9_order_25 ?_
    refine z_i2l C (by omega) dX9_order_26 ?_
    refine z_sRO C hP hl (c_X9_in (σ := τ2) i 0 ((τ2 44 13) - 1) (by omega) (by omega) (by omega))  wg_679 wg_10 wg_677 wg_678 cw_X9_in ⟨Nat.le_of_ble_eq_true rfl, Nat.le_of_ble_eq_true rfl⟩ rfl rfl (Nat.le_of_ble_eq_true rfl) dX9_order_27 ?_
    refine z_bif_eq C 42 (by decide) dX9_order_30 (fun w2 => ?_) (fun w2 => ?_)
    · skip
      refine z_bp C dX9_order_42 rfl ?_
      exact z_iretW B hP hS ⟨hF, by rw [if_neg (show ¬ i = -1 by omega)]; rw [kOAt, kOn, kOl, ← ho0]; split <;> first | exact hO.2 i.toNat (by omega) | omega⟩ dX9_order_44
    · skip
      refine z_aln C hl 0 rfl dX9_order_33 ?_
      refine gf_X9_32 C hP dX9_order_34 ?_
      refine z_iln C hl 1 rfl dX9_order_37 ?_
      refine z_iald C hP (i := 52) (by decide) (fun _ => rfl) (by omega) (by decide) dX9_order_38 ?_
      refine z_goto C 44 (by decide) dX9_order_39 ?_
      exact z_iretW B hP hS ⟨hF, by rw [if_neg (show ¬ i = -1 by omega)]; rw [kOAt, kOn, kOl, ← ho0]; split <;> first | exact hO.2 i.toNat (by omega) | omega⟩ dX9_order_44
  · skip
    refine z_aln C hl 0 rfl dX9_order_10 ?_
    refine gf_X9_150 C hP dX9_order_11 ?_
    refine z_goto C 44 (by decide) dX9_order_14 ?_
    exact z_iretW B hP hS ⟨hF, by rw [if_pos (by omega)]; exact ho0⟩ dX9_order_44

set_option maxHeartbeats 4000000 in
set_option maxRecDepth 100000 in
theorem c_X9_mended {l : Launch} {D : va_G} {q : Nat → Nat} {g : Nat → ClassId} {σ : Mem} (hq : qok q) (i : Int) (hI : TI σ) (hR : MR σ) (hr_i : zR i) : RW l yX9_mended cX9_mended 2 (some .int) 5 123 D q g σ [.ref (q 44), .int (zI i)] vI (fun r τ => Fr σ τ ∧ r = kOAt (co σ) 1 i) := by
  refine RW.intro (plainFor_of_name (by decide)) (Nat.le_of_ble_eq_true rfl) (fun p e s m args below meth c ls B hP hS hl => ?_)
  have C := B.1
  have hl : lv_has ls 2 [(0, .ref (q 44)), (1, .int (zI i))] := hl
  have h1 := hI.1
  have hIc := TI_cc hI
  have e12 : co σ 1 2 = σ 1 2 := rfl
  have hh := hR.1
  refine z_aln C hl 0 rfl dX9_mended_0 ?_
  refine z_ic C dX9_mended_1 ?_
  refine z_vRWv C hP hS hl (c_X9_findOrder (σ := σ) hq 1 hI hR (by omega)) (z_recv C hP (i := 44) (by decide) rfl (ci := 9) rfl) wg_771 wg_10 wg_768 wg_770 ws_X9_findOrder cw_X9_findOrder ⟨Nat.le_of_ble_eq_true rfl, Nat.le_of_ble_eq_true rfl⟩ rfl rfl (Nat.le_of_ble_eq_true rfl) dX9_mended_2 (fun r2 τ2 H locs hp2 hP hS => ?_)
  obtain ⟨hF, hA, hO⟩ := hp2
  have hor := kOrd_rng (co σ) 1 (co σ 1 2).toNat
  have ho0 := hO.1
  have e1 := hF 1 2 rfl
  have hIt := Fr_TI hF hI
  have ec := Fr_co hF
  refine z_iln C hl 1 rfl dX9_mended_5 ?_
  refine z_i2l C (by omega) dX9_mended_6 ?_
  refine z_lc0 C dX9_mended_7 ?_
  refine z_aln C hl 0 rfl dX9_mended_8 ?_
  refine gf_X9_150 C hP dX9_mended_9 ?_
  refine z_ic C dX9_mended_12 ?_
  refine z_isub C dX9_mended_13 ?_
  refine z_i2l C (by omega) dX9_mended_14 ?_
  refine z_sRO C hP hl (c_X9_in (σ := τ2) i 0 ((τ2 44 13) - 1) (by omega) (by omega) (by omega))  wg_679 wg_10 wg_677 wg_678 cw_X9_in ⟨Nat.le_of_ble_eq_true rfl, Nat.le_of_ble_eq_true rfl⟩ rfl rfl (Nat.le_of_ble_eq_true rfl) dX9_mended_15 ?_
  refine z_bif_eq C 30 (by decide) dX9_mended_18 (fun w1 => ?_) (fun w1 => ?_)
  · skip
    refine z_bp C dX9_mended_30 rfl ?_
    exact z_iretW B hP hS ⟨hF, by rw [kOAt, kOn, kOl, ← ho0]; split <;> first | exact hO.2 i.toNat (by omega) | omega⟩ dX9_mended_32
  · skip
    refine z_aln C hl 0 rfl dX9_mended_21 ?_
    refine gf_X9_32 C hP dX9_mended_22 ?_
    refine z_iln C hl 1 rfl dX9_mended_25 ?_
    refine z_iald C hP (i := 52) (by decide) (fun _ => rfl) (by omega) (by decide) dX9_mended_26 ?_
    refine z_goto C 32 (by decide) dX9_mended_27 ?_
    exact z_iretW B hP hS ⟨hF, by rw [kOAt, kOn, kOl, ← ho0]; split <;> first | exact hO.2 i.toNat (by omega) | omega⟩ dX9_mended_32

set_option maxHeartbeats 4000000 in
set_option maxRecDepth 100000 in
theorem c_X9_place {l : Launch} {D : va_G} {q : Nat → Nat} {g : Nat → ClassId} {σ : Mem} (hq : qok q) (r rule : Int) (hI : TI σ) (hR : MR σ) (hr_r : zR r) (hr_rule : zR rule) : RW l yX9_place cX9_place 6 (some .int) 5 123 D q g σ [.ref (q 44), .int (zI r), .int (zI rule)] vI (fun res τ => Fr σ τ ∧ res = if ¬ (0 ≤ r ∧ r < σ 1 2) then -1 else if ¬ (0 ≤ rule ∧ rule ≤ 1) then -2 else kPla (co σ) r rule) := by
  refine RW.intro (plainFor_of_name (by decide)) (Nat.le_of_ble_eq_true rfl) (fun p e s m args below meth c ls B hP hS hl => ?_)
  have C := B.1
  have hl : lv_has ls 6 [(0, .ref (q 44)), (1, .int (zI r)), (2, .int (zI rule))] := hl
  have h1 := hI.1
  have hIc := TI_cc hI
  have e12 : co σ 1 2 = σ 1 2 := rfl
  have hh := hR.1
  have h81 := hI.2.1
  refine z_aln C hl 0 rfl dX9_place_0 ?_
  refine z_iln C hl 1 rfl dX9_place_1 ?_
  refine z_vRO C hP hl (c_X9_isRunner (σ := σ) r (by omega) (by omega)) (z_recv C hP (i := 44) (by decide) rfl (ci := 9) rfl) wg_688 wg_10 wg_685 wg_687 ws_X9_isRunner cw_X9_isRunner ⟨Nat.le_of_ble_eq_true rfl, Nat.le_of_ble_eq_true rfl⟩ rfl rfl (Nat.le_of_ble_eq_true rfl) dX9_place_2 ?_
  refine z_bif_ne C 10 (by decide) dX9_place_5 (fun w1 => ?_) (fun w1 => ?_)
  · skip
    refine z_iln C hl 2 rfl dX9_place_10 ?_
    refine z_i2l C (by omega) dX9_place_11 ?_
    refine z_lc0 C dX9_place_12 ?_
    refine z_lc1 C dX9_place_13 ?_
    refine z_sRO C hP hl (c_X9_in (σ := σ) rule 0 1 (by omega) (by omega) (by omega))  wg_679 wg_10 wg_677 wg_678 cw_X9_in ⟨Nat.le_of_ble_eq_true rfl, Nat.le_of_ble_eq_true rfl⟩ rfl rfl (Nat.le_of_ble_eq_true rfl) dX9_place_14 ?_
    refine z_bif_ne C 23 (by decide) dX9_place_17 (fun w2 => ?_) (fun w2 => ?_)
    · skip
      refine z_aln C hl 0 rfl dX9_place_23 ?_
      refine z_ic C dX9_place_24 ?_
      refine z_vRWv C hP hS hl (c_X9_findOrder (σ := σ) hq 0 hI hR (by omega)) (z_recv C hP (i := 44) (by decide) rfl (ci := 9) rfl) wg_771 wg_10 wg_768 wg_770 ws_X9_findOrder cw_X9_findOrder ⟨Nat.le_of_ble_eq_true rfl, Nat.le_of_ble_eq_true rfl⟩ rfl rfl (Nat.le_of_ble_eq_true rfl) dX9_place_25 (fun r25 τ25 H locs hp25 hP hS => ?_)
      obtain ⟨hF, hA, hO⟩ := hp25
      have hor := kOrd_rng (co σ) 0 (co σ 1 2).toNat
      have ho0 := hO.1
      have e1 := hF 1 2 rfl
      have hIt := Fr_TI hF hI
      have ec := Fr_co hF
      have hRt := Fr_MR hF hI hR
      have hht := hRt.1
      have e81 := hF 8 1 rfl
      have e81c : co σ 8 1 = σ 8 1 := rfl
      have eon : (kOrd (co σ) 0 (co σ 1 2).toNat).2 = kOn (co σ) 0 := rfl
      refine z_ic C dX9_place_28 ?_
      refine z_isn C hl [(3, .int (zI 0)), (0, .ref (q 44)), (1, .int (zI r)), (2, .int (zI rule))] (by decide) rfl dX9_place_29 (fun ls hl => ?_)
      refine z_ic C dX9_place_30 ?_
      refine z_ist C hl [(4, .int (zI 0)), (3, .int (zI 0)), (0, .ref (q 44)), (1, .int (zI r)), (2, .int (zI rule))] (by decide) rfl dX9_place_31 (fun ls hl => ?_)
      have L33 : ∀ (n : Nat) (fs : Int) (k : Int)  , (kOn (co σ) 0 : Nat) - k < (n : Int) → (0 ≤ k ∧ k ≤ (kOn (co σ) 0 : Nat)) → (0 ≤ fs ∧ fs ≤ k) → (k = 0 ∨ fs < k) → (kPla (co σ) r rule = kPlF (kOl (co σ) 0) (fun j => kKey (co σ) 0 (kOl (co σ) 0 j)) r rule (co σ 8 1) ((kOn (co σ) 0 : Nat) - k : Int).toNat k fs) → ∀ ls : Array Slot, lv_has ls 6 [(0, .ref (q 44)), (1, .int (zI r)), (2, .int (zI rule)), (3, .int (zI fs)), (4, .int (zI k))] → WW p l e 5 123 s m args below meth c H locs D q g vI (fun res τ => Fr σ τ ∧ res = if ¬ (0 ≤ r ∧ r < σ 1 2) then -1 else if ¬ (0 ≤ rule ∧ rule ≤ 1) then -2 else kPla (co σ) r rule) (F0 m 33 ls []) := by
        intro n
        induction n with
        | zero => intro fs k hm hk hfs hfz he ls hl; exact False.elim (by omega)
        | succ n ih =>
          intro fs k hm hk hfs hfz he ls hl
          have ih33 := ih; clear ih
          refine z_il C hl 4 rfl dX9_place_33 ?_
          refine z_aln C hl 0 rfl dX9_place_35 ?_
          refine gf_X9_150 C hP dX9_place_36 ?_
          refine z_icmp_ge C 123 (by decide) (by omega) (by omega) dX9_place_39 (fun w3 => ?_) (fun w3 => ?_)
          · skip
            refine z_bp C dX9_place_123 rfl ?_
            exact z_iretW B hP hS ⟨hF, by rw [if_neg (by omega), if_neg (by omega), he, show ((kOn (co σ) 0 : Nat) - k : Int).toNat = 0 by omega]; rfl⟩ dX9_place_125
          · skip
            rw [show ((kOn (co σ) 0 : Nat) - k : Int).toNat = ((kOn (co σ) 0 : Nat) - (k + 1) : Int).toNat + 1 by omega, kPlF] at he
            have hj : k.toNat < (kOrd (co σ) 0 (co σ 1 2).toNat).2 := by omega
            have hv := hO.2 _ hj
            have hr1 := hor.2 _ hj
            have hkk := mKey (md := 0) hr1.2.2
            rw [if_pos rfl, ← hv] at hkk
            have hkb := kKey_b hIc (md := 0) (lane := (kOrd (co σ) 0 (co σ 1 2).toNat).1 k.toNat) (by omega)
            refine z_il C hl 4 rfl dX9_place_42 ?_
            refine z_if_ne C 51 (by decide) (by omega) dX9_place_44 (fun w4 => ?_) (fun w4 => ?_)
            · skip
              refine z_iln C hl 2 rfl dX9_place_51 ?_
              refine z_if_ne C 62 (by decide) (by omega) dX9_place_52 (fun w5 => ?_) (fun w5 => ?_)
              · skip
                refine z_iln C hl 3 rfl dX9_place_62 ?_
                have hah : (if rule = 0 then max 0 (k - 1) else fs) = fs := by split <;> omega
                rw [hah] at he
                have hj2 : (fs : Int).toNat < (kOrd (co σ) 0 (co σ 1 2).toNat).2 := by omega
                have hv2 := hO.2 _ hj2
                have hr2 := hor.2 _ hj2
                have hkk2 := mKey (md := 0) hr2.2.2
                rw [if_pos rfl, ← hv2] at hkk2
                have hkb2 := kKey_b hIc (md := 0) (lane := (kOrd (co σ) 0 (co σ 1 2).toNat).1 (fs : Int).toNat) (by omega)
                have hq1 : mN (kJn (co τ25) (τ25 52 k.toNat)) = kKey (co σ) 0 (kOl (co σ) 0 k.toNat) := by rw [ec]; show _ = kKey (co σ) 0 ((kOrd (co σ) 0 (co σ 1 2).toNat).1 k.toNat); rw [← hv]; omega
                have hq2 : mN (kJn (co τ25) (τ25 52 (fs : Int).toNat)) = kKey (co σ) 0 (kOl (co σ) 0 (fs : Int).toNat) := by rw [ec]; show _ = kKey (co σ) 0 ((kOrd (co σ) 0 (co σ 1 2).toNat).1 (fs : Int).toNat); rw [← hv2]; omega
                have hkb1 : -100 ≤ kKey (co σ) 0 (kOl (co σ) 0 k.toNat) ∧ kKey (co σ) 0 (kOl (co σ) 0 k.toNat) ≤ 10000000 := hkb
                have hkb3 : -100 ≤ kKey (co σ) 0 (kOl (co σ) 0 (fs : Int).toNat) ∧ kKey (co σ) 0 (kOl (co σ) 0 (fs : Int).toNat) ≤ 10000000 := hkb2
                have hv3 : τ25 52 k.toNat = kOl (co σ) 0 k.toNat := hv
                refine z_ist C hl [(5, .int (zI fs)), (0, .ref (q 44)), (1, .int (zI r)), (2, .int (zI rule)), (3, .int (zI fs)), (4, .int (zI k))] (by decide) rfl dX9_place_63 (fun ls hl => ?_)
                refine z_aln C hl 1 rfl dX9_place_65 ?_
                refine z_aln C hl 1 rfl dX9_place_66 ?_
                refine gf_X9_32 C hP dX9_place_67 ?_
                refine z_il C hl 5 rfl dX9_place_70 ?_
                refine z_iald C hP (i := 52) (by decide) (fun _ => rfl) (by omega) (by decide) dX9_place_72 ?_
                refine z_vRO C hP hl (c_X9_joinedOf (σ := τ25) (τ25 52 k.toNat) hIt hA (by omega)) (z_recv C hP (i := 44) (by decide) rfl (ci := 9) rfl) wg_740 wg_10 wg_737 wg_739 ws_X9_joinedOf cw_X9_joinedOf ⟨Nat.le_of_ble_eq_true rfl, Nat.le_of_ble_eq_true rfl⟩ rfl rfl (Nat.le_of_ble_eq_true rfl) dX9_place_73 ?_
                refine z_aln C hl 1 rfl dX9_place_76 ?_
                refine z_aln C hl 1 rfl dX9_place_77 ?_
                refine gf_X9_32 C hP dX9_place_78 ?_
                refine z_il C hl 0 rfl dX9_place_81 ?_
                refine z_iald C hP (i := 52) (by decide) (fun _ => rfl) (by omega) (by decide) dX9_place_83 ?_
                refine z_vRO C hP hl (c_X9_joinedOf (σ := τ25) (τ25 52 fs.toNat) hIt hA (by omega)) (z_recv C hP (i := 44) (by decide) rfl (ci := 9) rfl) wg_740 wg_10 wg_737 wg_739 ws_X9_joinedOf cw_X9_joinedOf ⟨Nat.le_of_ble_eq_true rfl, Nat.le_of_ble_eq_true rfl⟩ rfl rfl (Nat.le_of_ble_eq_true rfl) dX9_place_84 ?_
                refine z_isub C dX9_place_87 ?_
                refine z_aln C hl 1 rfl dX9_place_88 ?_
                refine gf_X9_97 C hP dX9_place_89 ?_
                refine z_icmp_le C 100 (by decide) (by omega) (by omega) dX9_place_92 (fun w6 => ?_) (fun w6 => ?_)
                · skip
                  refine z_iln C hl 4 rfl dX9_place_100 ?_
                  refine z_isn C hl [(3, .int (zI fs)), (5, .int (zI fs)), (0, .ref (q 44)), (1, .int (zI r)), (2, .int (zI rule)), (4, .int (zI k))] (by decide) rfl dX9_place_101 (fun ls hl => ?_)
                  refine z_aln C hl 2 rfl dX9_place_102 ?_
                  refine gf_X9_32 C hP dX9_place_103 ?_
                  refine z_il C hl 5 rfl dX9_place_106 ?_
                  refine z_iald C hP (i := 52) (by decide) (fun _ => rfl) (by omega) (by decide) dX9_place_108 ?_
                  refine z_iln C hl 3 rfl dX9_place_109 ?_
                  refine z_icmp_ne C 117 (by decide) (by omega) (by omega) dX9_place_110 (fun w7 => ?_) (fun w7 => ?_)
                  · skip
                    refine z_iinc C hl 5 rfl [(4, .int (zI (k + 1))), (3, .int (zI fs)), (5, .int (zI fs)), (0, .ref (q 44)), (1, .int (zI r)), (2, .int (zI rule))] (by decide) rfl dX9_place_117 (fun ls hl => ?_)
                    refine z_goto C 33 (by decide) dX9_place_120 ?_
                    exact ih33 fs (k + 1) (by omega) (by omega) (by omega) (by omega) (by rw [he, if_neg (by omega), if_neg (by omega)]) ls (lv_sub hl [3, 4, 5, 1, 0] rfl)
                  · skip
                    refine z_iln C hl 0 rfl dX9_place_113 ?_
                    refine z_ic C dX9_place_114 ?_
                    refine z_iadd C dX9_place_115 ?_
                    exact z_iretW B hP hS ⟨hF, by rw [if_neg (by omega), if_neg (by omega), he, if_pos (by omega), if_neg (by omega)]⟩ dX9_place_116
                · skip
                  refine z_il C hl 5 rfl dX9_place_95 ?_
                  refine z_goto C 101 (by decide) dX9_place_97 ?_
                  refine z_isn C hl [(3, .int (zI k)), (5, .int (zI fs)), (0, .ref (q 44)), (1, .int (zI r)), (2, .int (zI rule)), (4, .int (zI k))] (by decide) rfl dX9_place_101 (fun ls hl => ?_)
                  refine z_aln C hl 2 rfl dX9_place_102 ?_
                  refine gf_X9_32 C hP dX9_place_103 ?_
                  refine z_il C hl 5 rfl dX9_place_106 ?_
                  refine z_iald C hP (i := 52) (by decide) (fun _ => rfl) (by omega) (by decide) dX9_place_108 ?_
                  refine z_iln C hl 3 rfl dX9_place_109 ?_
                  refine z_icmp_ne C 117 (by decide) (by omega) (by omega) dX9_place_110 (fun w8 => ?_) (fun w8 => ?_)
                  · skip
                    refine z_iinc C hl 5 rfl [(4, .int (zI (k + 1))), (3, .int (zI k)), (5, .int (zI fs)), (0, .ref (q 44)), (1, .int (zI r)), (2, .int (zI rule))] (by decide) rfl dX9_place_117 (fun ls hl => ?_)
                    refine z_goto C 33 (by decide) dX9_place_120 ?_
                    exact ih33 k (k + 1) (by omega) (by omega) (by omega) (by omega) (by rw [he, if_neg (by omega), if_pos (by omega)]) ls (lv_sub hl [3, 4, 5, 1, 0] rfl)
                  · skip
                    refine z_iln C hl 0 rfl dX9_place_113 ?_
                    refine z_ic C dX9_place_114 ?_
                    refine z_iadd C dX9_place_115 ?_
                    exact z_iretW B hP hS ⟨hF, by rw [if_neg (by omega), if_neg (by omega), he, if_pos (by omega), if_pos (by omega)]⟩ dX9_place_116
              · skip
                refine z_il C hl 4 rfl dX9_place_55 ?_
                refine z_ic C dX9_place_57 ?_
                refine z_isub C dX9_place_58 ?_
                refine z_goto C 63 (by decide) dX9_place_59 ?_
                have hah : (if rule = 0 then max 0 (k - 1) else fs) = k - 1 := by split <;> omega
                rw [hah] at he
                have hj2 : (k - 1 : Int).toNat < (kOrd (co σ) 0 (co σ 1 2).toNat).2 := by omega
                have hv2 := hO.2 _ hj2
                have hr2 := hor.2 _ hj2
                have hkk2 := mKey (md := 0) hr2.2.2
                rw [if_pos rfl, ← hv2] at hkk2
                have hkb2 := kKey_b hIc (md := 0) (lane := (kOrd (co σ) 0 (co σ 1 2).toNat).1 (k - 1 : Int).toNat) (by omega)
                have hq1 : mN (kJn (co τ25) (τ25 52 k.toNat)) = kKey (co σ) 0 (kOl (co σ) 0 k.toNat) := by rw [ec]; show _ = kKey (co σ) 0 ((kOrd (co σ) 0 (co σ 1 2).toNat).1 k.toNat); rw [← hv]; omega
                have hq2 : mN (kJn (co τ25) (τ25 52 (k - 1 : Int).toNat)) = kKey (co σ) 0 (kOl (co σ) 0 (k - 1 : Int).toNat) := by rw [ec]; show _ = kKey (co σ) 0 ((kOrd (co σ) 0 (co σ 1 2).toNat).1 (k - 1 : Int).toNat); rw [← hv2]; omega
                have hkb1 : -100 ≤ kKey (co σ) 0 (kOl (co σ) 0 k.toNat) ∧ kKey (co σ) 0 (kOl (co σ) 0 k.toNat) ≤ 10000000 := hkb
                have hkb3 : -100 ≤ kKey (co σ) 0 (kOl (co σ) 0 (k - 1 : Int).toNat) ∧ kKey (co σ) 0 (kOl (co σ) 0 (k - 1 : Int).toNat) ≤ 10000000 := hkb2
                have hv3 : τ25 52 k.toNat = kOl (co σ) 0 k.toNat := hv
                refine z_ist C hl [(5, .int (zI (k - 1))), (0, .ref (q 44)), (1, .int (zI r)), (2, .int (zI rule)), (3, .int (zI fs)), (4, .int (zI k))] (by decide) rfl dX9_place_63 (fun ls hl => ?_)
                refine z_aln C hl 1 rfl dX9_place_65 ?_
                refine z_aln C hl 1 rfl dX9_place_66 ?_
                refine gf_X9_32 C hP dX9_place_67 ?_
                refine z_il C hl 5 rfl dX9_place_70 ?_
                refine z_iald C hP (i := 52) (by decide) (fun _ => rfl) (by omega) (by decide) dX9_place_72 ?_
                refine z_vRO C hP hl (c_X9_joinedOf (σ := τ25) (τ25 52 k.toNat) hIt hA (by omega)) (z_recv C hP (i := 44) (by decide) rfl (ci := 9) rfl) wg_740 wg_10 wg_737 wg_739 ws_X9_joinedOf cw_X9_joinedOf ⟨Nat.le_of_ble_eq_true rfl, Nat.le_of_ble_eq_true rfl⟩ rfl rfl (Nat.le_of_ble_eq_true rfl) dX9_place_73 ?_
                refine z_aln C hl 1 rfl dX9_place_76 ?_
                refine z_aln C hl 1 rfl dX9_place_77 ?_
                refine gf_X9_32 C hP dX9_place_78 ?_
                refine z_il C hl 0 rfl dX9_place_81 ?_
                refine z_iald C hP (i := 52) (by decide) (fun _ => rfl) (by omega) (by decide) dX9_place_83 ?_
                refine z_vRO C hP hl (c_X9_joinedOf (σ := τ25) (τ25 52 (k - 1).toNat) hIt hA (by omega)) (z_recv C hP (i := 44) (by decide) rfl (ci := 9) rfl) wg_740 wg_10 wg_737 wg_739 ws_X9_joinedOf cw_X9_joinedOf ⟨Nat.le_of_ble_eq_true rfl, Nat.le_of_ble_eq_true rfl⟩ rfl rfl (Nat.le_of_ble_eq_true rfl) dX9_place_84 ?_
                refine z_isub C dX9_place_87 ?_
                refine z_aln C hl 1 rfl dX9_place_88 ?_
                refine gf_X9_97 C hP dX9_place_89 ?_
                refine z_icmp_le C 100 (by decide) (by omega) (by omega) dX9_place_92 (fun w9 => ?_) (fun w9 => ?_)
                · skip
                  refine z_iln C hl 4 rfl dX9_place_100 ?_
                  refine z_isn C hl [(3, .int (zI fs)), (5, .int (zI (k - 1))), (0, .ref (q 44)), (1, .int (zI r)), (2, .int (zI rule)), (4, .int (zI k))] (by decide) rfl dX9_place_101 (fun ls hl => ?_)
                  refine z_aln C hl 2 rfl dX9_place_102 ?_
                  refine gf_X9_32 C hP dX9_place_103 ?_
                  refine z_il C hl 5 rfl dX9_place_106 ?_
                  refine z_iald C hP (i := 52) (by decide) (fun _ => rfl) (by omega) (by decide) dX9_place_108 ?_
                  refine z_iln C hl 3 rfl dX9_place_109 ?_
                  refine z_icmp_ne C 117 (by decide) (by omega) (by omega) dX9_place_110 (fun w10 => ?_) (fun w10 => ?_)
                  · skip
                    refine z_iinc C hl 5 rfl [(4, .int (zI (k + 1))), (3, .int (zI fs)), (5, .int (zI (k - 1))), (0, .ref (q 44)), (1, .int (zI r)), (2, .int (zI rule))] (by decide) rfl dX9_place_117 (fun ls hl => ?_)
                    refine z_goto C 33 (by decide) dX9_place_120 ?_
                    exact ih33 fs (k + 1) (by omega) (by omega) (by omega) (by omega) (by rw [he, if_neg (by omega), if_neg (by omega)]) ls (lv_sub hl [3, 4, 5, 1, 0] rfl)
                  · skip
                    refine z_iln C hl 0 rfl dX9_place_113 ?_
                    refine z_ic C dX9_place_114 ?_
                    refine z_iadd C dX9_place_115 ?_
                    exact z_iretW B hP hS ⟨hF, by rw [if_neg (by omega), if_neg (by omega), he, if_pos (by omega), if_neg (by omega)]⟩ dX9_place_116
                · skip
                  refine z_il C hl 5 rfl dX9_place_95 ?_
                  refine z_goto C 101 (by decide) dX9_place_97 ?_
                  refine z_isn C hl [(3, .int (zI k)), (5, .int (zI (k - 1))), (0, .ref (q 44)), (1, .int (zI r)), (2, .int (zI rule)), (4, .int (zI k))] (by decide) rfl dX9_place_101 (fun ls hl => ?_)
                  refine z_aln C hl 2 rfl dX9_place_102 ?_
                  refine gf_X9_32 C hP dX9_place_103 ?_
                  refine z_il C hl 5 rfl dX9_place_106 ?_
                  refine z_iald C hP (i := 52) (by decide) (fun _ => rfl) (by omega) (by decide) dX9_place_108 ?_
                  refine z_iln C hl 3 rfl dX9_place_109 ?_
                  refine z_icmp_ne C 117 (by decide) (by omega) (by omega) dX9_place_110 (fun w11 => ?_) (fun w11 => ?_)
                  · skip
                    refine z_iinc C hl 5 rfl [(4, .int (zI (k + 1))), (3, .int (zI k)), (5, .int (zI (k - 1))), (0, .ref (q 44)), (1, .int (zI r)), (2, .int (zI rule))] (by decide) rfl dX9_place_117 (fun ls hl => ?_)
                    refine z_goto C 33 (by decide) dX9_place_120 ?_
                    exact ih33 k (k + 1) (by omega) (by omega) (by omega) (by omega) (by rw [he, if_neg (by omega), if_pos (by omega)]) ls (lv_sub hl [3, 4, 5, 1, 0] rfl)
                  · skip
                    refine z_iln C hl 0 rfl dX9_place_113 ?_
                    refine z_ic C dX9_place_114 ?_
                    refine z_iadd C dX9_place_115 ?_
                    exact z_iretW B hP hS ⟨hF, by rw [if_neg (by omega), if_neg (by omega), he, if_pos (by omega), if_pos (by omega)]⟩ dX9_place_116
            · skip
              refine z_ic C dX9_place_47 ?_
              refine z_goto C 63 (by decide) dX9_place_48 ?_
              have hah : (if rule = 0 then max 0 (k - 1) else fs) = 0 := by split <;> omega
              rw [hah] at he
              have hj2 : (0 : Int).toNat < (kOrd (co σ) 0 (co σ 1 2).toNat).2 := by omega
              have hv2 := hO.2 _ hj2
              have hr2 := hor.2 _ hj2
              have hkk2 := mKey (md := 0) hr2.2.2
              rw [if_pos rfl, ← hv2] at hkk2
              have hkb2 := kKey_b hIc (md := 0) (lane := (kOrd (co σ) 0 (co σ 1 2).toNat).1 (0 : Int).toNat) (by omega)
              have hq1 : mN (kJn (co τ25) (τ25 52 k.toNat)) = kKey (co σ) 0 (kOl (co σ) 0 k.toNat) := by rw [ec]; show _ = kKey (co σ) 0 ((kOrd (co σ) 0 (co σ 1 2).toNat).1 k.toNat); rw [← hv]; omega
              have hq2 : mN (kJn (co τ25) (τ25 52 (0 : Int).toNat)) = kKey (co σ) 0 (kOl (co σ) 0 (0 : Int).toNat) := by rw [ec]; show _ = kKey (co σ) 0 ((kOrd (co σ) 0 (co σ 1 2).toNat).1 (0 : Int).toNat); rw [← hv2]; omega
              have hkb1 : -100 ≤ kKey (co σ) 0 (kOl (co σ) 0 k.toNat) ∧ kKey (co σ) 0 (kOl (co σ) 0 k.toNat) ≤ 10000000 := hkb
              have hkb3 : -100 ≤ kKey (co σ) 0 (kOl (co σ) 0 (0 : Int).toNat) ∧ kKey (co σ) 0 (kOl (co σ) 0 (0 : Int).toNat) ≤ 10000000 := hkb2
              have hv3 : τ25 52 k.toNat = kOl (co σ) 0 k.toNat := hv
              simp only [show (0 : Int).toNat = 0 from rfl] at he hv2 hr2 hkk2 hq2 hkb3 hj2 hkb2
              refine z_ist C hl [(5, .int (zI 0)), (0, .ref (q 44)), (1, .int (zI r)), (2, .int (zI rule)), (3, .int (zI fs)), (4, .int (zI k))] (by decide) rfl dX9_place_63 (fun ls hl => ?_)
              refine z_aln C hl 1 rfl dX9_place_65 ?_
              refine z_aln C hl 1 rfl dX9_place_66 ?_
              refine gf_X9_32 C hP dX9_place_67 ?_
              refine z_il C hl 5 rfl dX9_place_70 ?_
              refine z_iald C hP (i := 52) (by decide) (fun _ => rfl) (by omega) (by decide) dX9_place_72 ?_
              refine z_vRO C hP hl (c_X9_joinedOf (σ := τ25) (τ25 52 k.toNat) hIt hA (by omega)) (z_recv C hP (i := 44) (by decide) rfl (ci := 9) rfl) wg_740 wg_10 wg_737 wg_739 ws_X9_joinedOf cw_X9_joinedOf ⟨Nat.le_of_ble_eq_true rfl, Nat.le_of_ble_eq_true rfl⟩ rfl rfl (Nat.le_of_ble_eq_true rfl) dX9_place_73 ?_
              refine z_aln C hl 1 rfl dX9_place_76 ?_
              refine z_aln C hl 1 rfl dX9_place_77 ?_
              refine gf_X9_32 C hP dX9_place_78 ?_
              refine z_il C hl 0 rfl dX9_place_81 ?_
              refine z_ialk C hP (i := 52) (by decide) (fun _ => rfl) 0 rfl (by decide) (by decide) dX9_place_83 ?_
              refine z_vRO C hP hl (c_X9_joinedOf (σ := τ25) (τ25 52 0) hIt hA (by omega)) (z_recv C hP (i := 44) (by decide) rfl (ci := 9) rfl) wg_740 wg_10 wg_737 wg_739 ws_X9_joinedOf cw_X9_joinedOf ⟨Nat.le_of_ble_eq_true rfl, Nat.le_of_ble_eq_true rfl⟩ rfl rfl (Nat.le_of_ble_eq_true rfl) dX9_place_84 ?_
              refine z_isub C dX9_place_87 ?_
              refine z_aln C hl 1 rfl dX9_place_88 ?_
              refine gf_X9_97 C hP dX9_place_89 ?_
              refine z_icmp_le C 100 (by decide) (by omega) (by omega) dX9_place_92 (fun w12 => ?_) (fun w12 => ?_)
              · skip
                refine z_iln C hl 4 rfl dX9_place_100 ?_
                refine z_isn C hl [(3, .int (zI fs)), (5, .int (zI 0)), (0, .ref (q 44)), (1, .int (zI r)), (2, .int (zI rule)), (4, .int (zI k))] (by decide) rfl dX9_place_101 (fun ls hl => ?_)
                refine z_aln C hl 2 rfl dX9_place_102 ?_
                refine gf_X9_32 C hP dX9_place_103 ?_
                refine z_il C hl 5 rfl dX9_place_106 ?_
                refine z_iald C hP (i := 52) (by decide) (fun _ => rfl) (by omega) (by decide) dX9_place_108 ?_
                refine z_iln C hl 3 rfl dX9_place_109 ?_
                refine z_icmp_ne C 117 (by decide) (by omega) (by omega) dX9_place_110 (fun w13 => ?_) (fun w13 => ?_)
                · skip
                  refine z_iinc C hl 5 rfl [(4, .int (zI (k + 1))), (3, .int (zI fs)), (5, .int (zI 0)), (0, .ref (q 44)), (1, .int (zI r)), (2, .int (zI rule))] (by decide) rfl dX9_place_117 (fun ls hl => ?_)
                  refine z_goto C 33 (by decide) dX9_place_120 ?_
                  exact ih33 fs (k + 1) (by omega) (by omega) (by omega) (by omega) (by rw [he, if_neg (by omega), if_neg (by omega)]) ls (lv_sub hl [3, 4, 5, 1, 0] rfl)
                · skip
                  refine z_iln C hl 0 rfl dX9_place_113 ?_
                  refine z_ic C dX9_place_114 ?_
                  refine z_iadd C dX9_place_115 ?_
                  exact z_iretW B hP hS ⟨hF, by rw [if_neg (by omega), if_neg (by omega), he, if_pos (by omega), if_neg (by omega)]⟩ dX9_place_116
              · skip
                refine z_il C hl 5 rfl dX9_place_95 ?_
                refine z_goto C 101 (by decide) dX9_place_97 ?_
                refine z_isn C hl [(3, .int (zI k)), (5, .int (zI 0)), (0, .ref (q 44)), (1, .int (zI r)), (2, .int (zI rule)), (4, .int (zI k))] (by decide) rfl dX9_place_101 (fun ls hl => ?_)
                refine z_aln C hl 2 rfl dX9_place_102 ?_
                refine gf_X9_32 C hP dX9_place_103 ?_
                refine z_il C hl 5 rfl dX9_place_106 ?_
                refine z_iald C hP (i := 52) (by decide) (fun _ => rfl) (by omega) (by decide) dX9_place_108 ?_
                refine z_iln C hl 3 rfl dX9_place_109 ?_
                refine z_icmp_ne C 117 (by decide) (by omega) (by omega) dX9_place_110 (fun w14 => ?_) (fun w14 => ?_)
                · skip
                  refine z_iinc C hl 5 rfl [(4, .int (zI (k + 1))), (3, .int (zI k)), (5, .int (zI 0)), (0, .ref (q 44)), (1, .int (zI r)), (2, .int (zI rule))] (by decide) rfl dX9_place_117 (fun ls hl => ?_)
                  refine z_goto C 33 (by decide) dX9_place_120 ?_
                  exact ih33 k (k + 1) (by omega) (by omega) (by omega) (by omega) (by rw [he, if_neg (by omega), if_pos (by omega)]) ls (lv_sub hl [3, 4, 5, 1, 0] rfl)
                · skip
                  refine z_iln C hl 0 rfl dX9_place_113 ?_
                  refine z_ic C dX9_place_114 ?_
                  refine z_iadd C dX9_place_115 ?_
                  exact z_iretW B hP hS ⟨hF, by rw [if_neg (by omega), if_neg (by omega), he, if_pos (by omega), if_pos (by omega)]⟩ dX9_place_116
      exact L33 (((kOn (co σ) 0 : Nat) - 0 : Int).toNat + 1) 0 0 (by omega) (by omega) (by omega) (by omega) (by rw [Int.sub_zero]; rfl) ls (lv_sub hl [2, 3, 4, 1, 0] rfl)
    · skip
      refine z_bp C dX9_place_20 rfl ?_
      exact z_iretW B hP hS ⟨Fr_rf, by rw [if_neg (by omega), if_pos (by omega)]⟩ dX9_place_22
  · skip
    refine z_ic C dX9_place_8 ?_
    exact z_iretW B hP hS ⟨Fr_rf, by rw [if_pos (by omega)]⟩ dX9_place_9
