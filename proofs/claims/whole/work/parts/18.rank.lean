set_option maxHeartbeats 4000000 in
set_option maxRecDepth 100000 in
theorem c_X3_add {l : Launch} {D : va_G} {q : Nat → Nat} {g : Nat → ClassId} {σ : Mem} (hq : qok q) (lane key : Int) (hm : 0 ≤ σ 2 2 ∧ σ 2 2 < 6) (hkr : ∀ j : Nat, (j : Int) < σ 2 2 → zR (σ 10 j)) (hr_key : zR key) : RW l yX3_add cX3_add 4 none 0 0 D q g σ [.ref (q 2), .int (zI lane), .int (zI key)] vV (fun _ τ => Fr σ τ ∧ τ 2 2 = σ 2 2 + 1 ∧ ∀ j : Nat, (j : Int) ≤ σ 2 2 → τ 9 j = insA (σ 9) (kpos (σ 10) key (σ 2 2).toNat) lane j ∧ τ 10 j = insA (σ 10) (kpos (σ 10) key (σ 2 2).toNat) key j) := by
  refine RW.intro (plainFor_of_name (by decide)) (Nat.le_of_ble_eq_true rfl) (fun p e s m args below meth c ls B hP hS hl => ?_)
  have C := B.1
  have hl : lv_has ls 4 [(0, .ref (q 2)), (1, .int (zI lane)), (2, .int (zI key))] := hl
  refine z_aln C hl 0 rfl dX3_add_0 ?_
  refine gf_X3_18 C hP dX3_add_1 ?_
  refine z_aln C hl 0 rfl dX3_add_4 ?_
  refine gf_X3_9 C hP dX3_add_5 ?_
  refine z_alen C hP (i := 9) (by decide) (fun _ => rfl) dX3_add_8 ?_
  refine z_icmp_lt C 13 (by decide) (by omega) (by omega) dX3_add_9 (fun w1 => ?_) (fun w1 => False.elim (by omega))
  refine z_aln C hl 0 rfl dX3_add_13 ?_
  refine gf_X3_18 C hP dX3_add_14 ?_
  refine z_isn C hl [(3, .int (zI (σ 2 2))), (0, .ref (q 2)), (1, .int (zI lane)), (2, .int (zI key))] (by decide) rfl dX3_add_17 (fun ls hl => ?_)
  have L18 : ∀ (n : Nat) (x : Int)  (τ : Mem), x < (n : Int) → (0 ≤ x ∧ x ≤ σ 2 2) → (Fr σ τ) → (τ 2 2 = σ 2 2) → (kpos (σ 10) key (σ 2 2).toNat = kpos (σ 10) key x.toNat) → (shf (σ 9) (τ 9) x (σ 2 2)) → (shf (σ 10) (τ 10) x (σ 2 2)) → ∀ (H : Heap) (locs : List Loc), HP D q g τ H → va_S (aQ q) s.heap H locs → ∀ ls : Array Slot, lv_has ls 4 [(0, .ref (q 2)), (1, .int (zI lane)), (2, .int (zI key)), (3, .int (zI x))] → WW p l e 0 0 s m args below meth c H locs D q g vV (fun _ τ => Fr σ τ ∧ τ 2 2 = σ 2 2 + 1 ∧ ∀ j : Nat, (j : Int) ≤ σ 2 2 → τ 9 j = insA (σ 9) (kpos (σ 10) key (σ 2 2).toNat) lane j ∧ τ 10 j = insA (σ 10) (kpos (σ 10) key (σ 2 2).toNat) key j) (F0 m 18 ls []) := by
    intro n
    induction n with
    | zero => intro x τ hm hx hF hz hp h9 h10 H locs hP hS ls hl; exact False.elim (by omega)
    | succ n ih =>
      intro x τ hm hx hF hz hp h9 h10 H locs hP hS ls hl
      have ih18 := ih; clear ih
      refine z_iln C hl 3 rfl dX3_add_18 ?_
      refine z_if_le C 68 (by decide) (by omega) dX3_add_19 (fun w2 => ?_) (fun w2 => ?_)
      · skip
        have hpx : kpos (σ 10) key x.toNat = x.toNat := kpos_at hx.1 (by omega)
        refine z_aln C hl 0 rfl dX3_add_68 ?_
        refine gf_X3_15 C hP dX3_add_69 ?_
        refine z_iln C hl 3 rfl dX3_add_72 ?_
        refine z_iln C hl 2 rfl dX3_add_73 ?_
        refine z_iast C hq hP hS (i := 10) (by decide) (fun _ => rfl) (by omega) (by decide) dX3_add_74 (fun H locs hP hS => ?_)
        refine z_aln C hl 0 rfl dX3_add_75 ?_
        refine gf_X3_9 C hP dX3_add_76 ?_
        refine z_iln C hl 3 rfl dX3_add_79 ?_
        refine z_iln C hl 1 rfl dX3_add_80 ?_
        refine z_iast C hq hP hS (i := 9) (by decide) (fun _ => rfl) (by omega) (by decide) dX3_add_81 (fun H locs hP hS => ?_)
        refine z_aln C hl 0 rfl dX3_add_82 ?_
        refine z_dup C rfl dX3_add_83 ?_
        refine gf_X3_18 C hP dX3_add_84 ?_
        refine z_tope (b := τ 2 2) (by unfold um; rw [if_neg (by omega), if_neg (by omega)]) ?_
        refine z_ic C dX3_add_87 ?_
        refine z_iadd C dX3_add_88 ?_
        refine pf_X3_18 C hq hP hS dX3_add_89 (fun H locs hP hS => ?_)
        exact z_vretW B hP hS ⟨Fr_um (Fr_um (Fr_um hF (by simp [sc])) (by simp [sc])) (by simp [sc]), by simp [um, hz], fun j hj => ⟨by rw [hp, hpx]; exact shf_end h9 hx (by simp [um]) (fun k hk => by simp [um, hk]) hj, by rw [hp, hpx]; exact shf_end h10 hx (by simp [um]) (fun k hk => by simp [um, hk]) hj⟩⟩ dX3_add_92
      · skip
        have hv := (h10 (x - 1).toNat).1 (by omega)
        have hvr := hkr (x - 1).toNat (by omega)
        refine z_aln C hl 0 rfl dX3_add_22 ?_
        refine gf_X3_15 C hP dX3_add_23 ?_
        refine z_iln C hl 3 rfl dX3_add_26 ?_
        refine z_ic C dX3_add_27 ?_
        refine z_isub C dX3_add_28 ?_
        refine z_iald C hP (i := 10) (by decide) (fun _ => rfl) (by omega) (by decide) dX3_add_29 ?_
        refine z_iln C hl 2 rfl dX3_add_30 ?_
        refine z_icmp_le C 68 (by decide) (by omega) (by omega) dX3_add_31 (fun w3 => ?_) (fun w3 => ?_)
        · skip
          have hpx : kpos (σ 10) key x.toNat = x.toNat := kpos_at hx.1 (by omega)
          refine z_aln C hl 0 rfl dX3_add_68 ?_
          refine gf_X3_15 C hP dX3_add_69 ?_
          refine z_iln C hl 3 rfl dX3_add_72 ?_
          refine z_iln C hl 2 rfl dX3_add_73 ?_
          refine z_iast C hq hP hS (i := 10) (by decide) (fun _ => rfl) (by omega) (by decide) dX3_add_74 (fun H locs hP hS => ?_)
          refine z_aln C hl 0 rfl dX3_add_75 ?_
          refine gf_X3_9 C hP dX3_add_76 ?_
          refine z_iln C hl 3 rfl dX3_add_79 ?_
          refine z_iln C hl 1 rfl dX3_add_80 ?_
          refine z_iast C hq hP hS (i := 9) (by decide) (fun _ => rfl) (by omega) (by decide) dX3_add_81 (fun H locs hP hS => ?_)
          refine z_aln C hl 0 rfl dX3_add_82 ?_
          refine z_dup C rfl dX3_add_83 ?_
          refine gf_X3_18 C hP dX3_add_84 ?_
          refine z_tope (b := τ 2 2) (by unfold um; rw [if_neg (by omega), if_neg (by omega)]) ?_
          refine z_ic C dX3_add_87 ?_
          refine z_iadd C dX3_add_88 ?_
          refine pf_X3_18 C hq hP hS dX3_add_89 (fun H locs hP hS => ?_)
          exact z_vretW B hP hS ⟨Fr_um (Fr_um (Fr_um hF (by simp [sc])) (by simp [sc])) (by simp [sc]), by simp [um, hz], fun j hj => ⟨by rw [hp, hpx]; exact shf_end h9 hx (by simp [um]) (fun k hk => by simp [um, hk]) hj, by rw [hp, hpx]; exact shf_end h10 hx (by simp [um]) (fun k hk => by simp [um, hk]) hj⟩⟩ dX3_add_92
        · skip
          refine z_aln C hl 0 rfl dX3_add_34 ?_
          refine gf_X3_15 C hP dX3_add_35 ?_
          refine z_iln C hl 3 rfl dX3_add_38 ?_
          refine z_aln C hl 0 rfl dX3_add_39 ?_
          refine gf_X3_15 C hP dX3_add_40 ?_
          refine z_iln C hl 3 rfl dX3_add_43 ?_
          refine z_ic C dX3_add_44 ?_
          refine z_isub C dX3_add_45 ?_
          refine z_iald C hP (i := 10) (by decide) (fun _ => rfl) (by omega) (by decide) dX3_add_46 ?_
          refine z_iast C hq hP hS (i := 10) (by decide) (fun _ => rfl) (by omega) (by decide) dX3_add_47 (fun H locs hP hS => ?_)
          refine z_aln C hl 0 rfl dX3_add_48 ?_
          refine gf_X3_9 C hP dX3_add_49 ?_
          refine z_iln C hl 3 rfl dX3_add_52 ?_
          refine z_aln C hl 0 rfl dX3_add_53 ?_
          refine gf_X3_9 C hP dX3_add_54 ?_
          refine z_iln C hl 3 rfl dX3_add_57 ?_
          refine z_ic C dX3_add_58 ?_
          refine z_isub C dX3_add_59 ?_
          refine z_iald C hP (i := 9) (by decide) (fun _ => rfl) (by omega) (by decide) dX3_add_60 ?_
          refine z_tope (b := τ 9 (x - 1).toNat) (by unfold um; rw [if_neg (by omega)]) ?_
          refine z_iast C hq hP hS (i := 9) (by decide) (fun _ => rfl) (by omega) (by decide) dX3_add_61 (fun H locs hP hS => ?_)
          refine z_iinc C hl 3 rfl [(3, .int (zI (x + (-1)))), (0, .ref (q 2)), (1, .int (zI lane)), (2, .int (zI key))] (by decide) rfl dX3_add_62 (fun ls hl => ?_)
          refine z_goto C 18 (by decide) dX3_add_65 ?_
          exact ih18 (x + (-1)) (um (um τ 10 x.toNat (τ 10 (x - 1).toNat)) 9 x.toNat (τ 9 (x - 1).toNat)) (by omega) (by omega) (Fr_um (Fr_um hF (by simp [sc])) (by simp [sc])) (by simp [um, hz]) (hp.trans (kpos_go (by omega) (by omega))) (shf_step h9 (by omega) (by simp [um]) (fun k hk => by simp [um, hk])) (shf_step h10 (by omega) (by simp [um]) (fun k hk => by simp [um, hk])) _ _ hP hS ls (lv_sub hl [1, 2, 3, 0] rfl)
  exact L18 (((σ 2 2) : Int).toNat + 1) (σ 2 2) σ (by omega) (by omega) Fr_rf rfl rfl shf_init shf_init _ _ hP hS ls (lv_sub hl [1, 2, 3, 0] rfl)

set_option maxHeartbeats 4000000 in
set_option maxRecDepth 100000 in
theorem c_X3_at {l : Launch} {D : va_G} {q : Nat → Nat} {g : Nat → ClassId} {σ : Mem} (i : Int) (hm : 0 ≤ σ 2 2 ∧ σ 2 2 ≤ 6) (hr_i : zR i) : RO l yX3_at cX3_at 2 (some .int) 1 22 D q g σ [.ref (q 2), .int (zI i)] (some (.int (zI (if 0 ≤ i ∧ i < σ 2 2 then σ 9 i.toNat else -6)))) := by
  refine RO.intro (plainFor_of_name (by decide)) (Nat.le_of_ble_eq_true rfl) (fun p e s m args below meth c ls B hP hl => ?_)
  have C := B.1
  have hl : lv_has ls 2 [(0, .ref (q 2)), (1, .int (zI i))] := hl
  refine z_iln C hl 1 rfl dX3_at_0 ?_
  refine z_ic C dX3_at_1 ?_
  refine z_aln C hl 0 rfl dX3_at_2 ?_
  refine gf_X3_18 C hP dX3_at_3 ?_
  refine z_ic C dX3_at_6 ?_
  refine z_isub C dX3_at_7 ?_
  refine z_snRO C hP hl (c_X8_within (σ := σ) i 0 ((σ 2 2) - 1) (by omega) (by omega) (by omega))  wg_212 wg_1 wm_367 wg_211 cw_X8_within ⟨Nat.le_of_ble_eq_true rfl, Nat.le_of_ble_eq_true rfl⟩ rfl rfl (Nat.le_of_ble_eq_true rfl) dX3_at_8 ?_
  refine z_bif_eq C 23 (by decide) dX3_at_11 (fun w1 => ?_) (fun w1 => ?_)
  · skip
    refine z_bp C dX3_at_23 rfl ?_
    exact z_iret B (by split <;> first | rfl | omega) dX3_at_25
  · skip
    refine z_aln C hl 0 rfl dX3_at_14 ?_
    refine gf_X3_9 C hP dX3_at_15 ?_
    refine z_iln C hl 1 rfl dX3_at_18 ?_
    refine z_iald C hP (i := 9) (by decide) (fun _ => rfl) (by omega) (by decide) dX3_at_19 ?_
    refine z_goto C 25 (by decide) dX3_at_20 ?_
    exact z_iret B (by split <;> first | rfl | omega) dX3_at_25

set_option maxHeartbeats 4000000 in
set_option maxRecDepth 100000 in
theorem c_X3_placeOf {l : Launch} {D : va_G} {q : Nat → Nat} {g : Nat → ClassId} {σ : Mem} (lane rule read : Int) (hm : 0 ≤ σ 2 2 ∧ σ 2 2 ≤ 6) (hkr : ∀ j : Nat, (j : Int) < σ 2 2 → -1000 ≤ σ 10 j ∧ σ 10 j ≤ 100000000) (hlr : ∀ j : Nat, (j : Int) < σ 2 2 → zR (σ 9 j)) (hr_lane : zR lane) (hr_rule : zR rule) (hr_read : zR read) : RO l yX3_placeOf cX3_placeOf 7 (some .int) 1 21 D q g σ [.ref (q 2), .int (zI lane), .int (zI rule), .int (zI read)] (some (.int (zI (kPlF (σ 9) (σ 10) lane rule read (σ 2 2).toNat 0 0)))) := by
  refine RO.intro (plainFor_of_name (by decide)) (Nat.le_of_ble_eq_true rfl) (fun p e s m args below meth c ls B hP hl => ?_)
  have C := B.1
  have hl : lv_has ls 7 [(0, .ref (q 2)), (1, .int (zI lane)), (2, .int (zI rule)), (3, .int (zI read))] := hl
  refine z_ic C dX3_placeOf_0 ?_
  refine z_ist C hl [(4, .int (zI 0)), (0, .ref (q 2)), (1, .int (zI lane)), (2, .int (zI rule)), (3, .int (zI read))] (by decide) rfl dX3_placeOf_1 (fun ls hl => ?_)
  refine z_ic C dX3_placeOf_3 ?_
  refine z_ist C hl [(5, .int (zI 0)), (4, .int (zI 0)), (0, .ref (q 2)), (1, .int (zI lane)), (2, .int (zI rule)), (3, .int (zI read))] (by decide) rfl dX3_placeOf_4 (fun ls hl => ?_)
  have L6 : ∀ (n : Nat) (hd : Int) (i : Int)  , σ 2 2 - i < (n : Int) → (0 ≤ i ∧ i ≤ σ 2 2) → (0 ≤ hd ∧ hd ≤ i) → (hd < σ 2 2 ∨ σ 2 2 = 0) → (kPlF (σ 9) (σ 10) lane rule read (σ 2 2).toNat 0 0 = kPlF (σ 9) (σ 10) lane rule read (σ 2 2 - i).toNat i hd) → ∀ ls : Array Slot, lv_has ls 7 [(0, .ref (q 2)), (1, .int (zI lane)), (2, .int (zI rule)), (3, .int (zI read)), (4, .int (zI hd)), (5, .int (zI i))] → WO p l e 1 21 s m args below meth c (some (.int (zI (kPlF (σ 9) (σ 10) lane rule read (σ 2 2).toNat 0 0)))) (F0 m 6 ls []) := by
    intro n
    induction n with
    | zero => intro hd i hm hi hh hz he ls hl; exact False.elim (by omega)
    | succ n ih =>
      intro hd i hm hi hh hz he ls hl
      have ih6 := ih; clear ih
      refine z_il C hl 5 rfl dX3_placeOf_6 ?_
      refine z_aln C hl 0 rfl dX3_placeOf_8 ?_
      refine gf_X3_18 C hP dX3_placeOf_9 ?_
      refine z_icmp_ge C 79 (by decide) (by omega) (by omega) dX3_placeOf_12 (fun w1 => ?_) (fun w1 => ?_)
      · skip
        refine z_bp C dX3_placeOf_79 rfl ?_
        exact z_iret B (by rw [he, show (σ 2 2 - i).toNat = 0 by omega]; rfl) dX3_placeOf_81
      · skip
        rw [show (σ 2 2 - i).toNat = (σ 2 2 - (i + 1)).toNat + 1 by omega, kPlF] at he
        have hv := hkr i.toNat (by omega)
        have hlv := hlr i.toNat (by omega)
        refine z_iln C hl 2 rfl dX3_placeOf_15 ?_
        refine z_if_ne C 30 (by decide) (by omega) dX3_placeOf_16 (fun w2 => ?_) (fun w2 => ?_)
        · skip
          refine z_il C hl 4 rfl dX3_placeOf_30 ?_
          have hah : (if rule = 0 then max 0 (i - 1) else hd) = hd := by split <;> omega
          rw [hah] at he
          have hv2 := hkr (hd).toNat (by omega)
          refine z_ist C hl [(6, .int (zI hd)), (0, .ref (q 2)), (1, .int (zI lane)), (2, .int (zI rule)), (3, .int (zI read)), (4, .int (zI hd)), (5, .int (zI i))] (by decide) rfl dX3_placeOf_32 (fun ls hl => ?_)
          refine z_aln C hl 1 rfl dX3_placeOf_34 ?_
          refine gf_X3_15 C hP dX3_placeOf_35 ?_
          refine z_il C hl 6 rfl dX3_placeOf_38 ?_
          refine z_iald C hP (i := 10) (by decide) (fun _ => rfl) (by omega) (by decide) dX3_placeOf_40 ?_
          refine z_aln C hl 1 rfl dX3_placeOf_41 ?_
          refine gf_X3_15 C hP dX3_placeOf_42 ?_
          refine z_il C hl 0 rfl dX3_placeOf_45 ?_
          refine z_iald C hP (i := 10) (by decide) (fun _ => rfl) (by omega) (by decide) dX3_placeOf_47 ?_
          refine z_isub C dX3_placeOf_48 ?_
          refine z_iln C hl 4 rfl dX3_placeOf_49 ?_
          refine z_icmp_le C 57 (by decide) (by omega) (by omega) dX3_placeOf_50 (fun w3 => ?_) (fun w3 => ?_)
          · skip
            refine z_aln C hl 1 rfl dX3_placeOf_57 ?_
            refine gf_X3_9 C hP dX3_placeOf_58 ?_
            refine z_il C hl 6 rfl dX3_placeOf_61 ?_
            refine z_iald C hP (i := 9) (by decide) (fun _ => rfl) (by omega) (by decide) dX3_placeOf_63 ?_
            refine z_iln C hl 2 rfl dX3_placeOf_64 ?_
            refine z_icmp_ne C 73 (by decide) (by omega) (by omega) dX3_placeOf_65 (fun w4 => ?_) (fun w4 => ?_)
            · skip
              refine z_iinc C hl 6 rfl [(5, .int (zI (i + 1))), (6, .int (zI hd)), (0, .ref (q 2)), (1, .int (zI lane)), (2, .int (zI rule)), (3, .int (zI read)), (4, .int (zI hd))] (by decide) rfl dX3_placeOf_73 (fun ls hl => ?_)
              refine z_goto C 6 (by decide) dX3_placeOf_76 ?_
              exact ih6 hd (i + 1) (by omega) (by omega) (by omega) (by omega) (by rw [he, if_neg w4, if_neg (by omega)]) ls (lv_sub hl [2, 3, 4, 5, 6, 0] rfl)
            · skip
              refine z_il C hl 5 rfl dX3_placeOf_68 ?_
              refine z_ic C dX3_placeOf_70 ?_
              refine z_iadd C dX3_placeOf_71 ?_
              exact z_iret B (by rw [he, if_pos w4, if_neg (by omega)]) dX3_placeOf_72
          · skip
            refine z_il C hl 6 rfl dX3_placeOf_53 ?_
            refine z_ist C hl [(4, .int (zI i)), (6, .int (zI hd)), (0, .ref (q 2)), (1, .int (zI lane)), (2, .int (zI rule)), (3, .int (zI read)), (5, .int (zI i))] (by decide) rfl dX3_placeOf_55 (fun ls hl => ?_)
            refine z_aln C hl 2 rfl dX3_placeOf_57 ?_
            refine gf_X3_9 C hP dX3_placeOf_58 ?_
            refine z_il C hl 6 rfl dX3_placeOf_61 ?_
            refine z_iald C hP (i := 9) (by decide) (fun _ => rfl) (by omega) (by decide) dX3_placeOf_63 ?_
            refine z_iln C hl 3 rfl dX3_placeOf_64 ?_
            refine z_icmp_ne C 73 (by decide) (by omega) (by omega) dX3_placeOf_65 (fun w5 => ?_) (fun w5 => ?_)
            · skip
              refine z_iinc C hl 6 rfl [(5, .int (zI (i + 1))), (4, .int (zI i)), (6, .int (zI hd)), (0, .ref (q 2)), (1, .int (zI lane)), (2, .int (zI rule)), (3, .int (zI read))] (by decide) rfl dX3_placeOf_73 (fun ls hl => ?_)
              refine z_goto C 6 (by decide) dX3_placeOf_76 ?_
              exact ih6 i (i + 1) (by omega) (by omega) (by omega) (by omega) (by rw [he, if_neg w5, if_pos (by omega)]) ls (lv_sub hl [3, 4, 5, 6, 1, 0] rfl)
            · skip
              refine z_il C hl 0 rfl dX3_placeOf_68 ?_
              refine z_ic C dX3_placeOf_70 ?_
              refine z_iadd C dX3_placeOf_71 ?_
              exact z_iret B (by rw [he, if_pos w5, if_pos (by omega)]) dX3_placeOf_72
        · skip
          refine z_ic C dX3_placeOf_19 ?_
          refine z_il C hl 5 rfl dX3_placeOf_20 ?_
          refine z_ic C dX3_placeOf_22 ?_
          refine z_isub C dX3_placeOf_23 ?_
          refine z_sRO C hP hl (c_J9_max_7cf53 (σ := σ) 0 (i - 1) (by omega) (by omega))  wg_298 wg_11 wg_376 wg_297 cw_J9_max_7cf53 ⟨Nat.le_of_ble_eq_true rfl, Nat.le_of_ble_eq_true rfl⟩ rfl rfl (Nat.le_of_ble_eq_true rfl) dX3_placeOf_24 ?_
          refine z_goto C 32 (by decide) dX3_placeOf_27 ?_
          have hah : (if rule = 0 then max 0 (i - 1) else hd) = max 0 (i - 1) := by split <;> omega
          rw [hah] at he
          have hv2 := hkr (max 0 (i - 1)).toNat (by omega)
          refine z_ist C hl [(6, .int (zI (max 0 (i - 1)))), (0, .ref (q 2)), (1, .int (zI lane)), (2, .int (zI rule)), (3, .int (zI read)), (4, .int (zI hd)), (5, .int (zI i))] (by decide) rfl dX3_placeOf_32 (fun ls hl => ?_)
          refine z_aln C hl 1 rfl dX3_placeOf_34 ?_
          refine gf_X3_15 C hP dX3_placeOf_35 ?_
          refine z_il C hl 6 rfl dX3_placeOf_38 ?_
          refine z_iald C hP (i := 10) (by decide) (fun _ => rfl) (by omega) (by decide) dX3_placeOf_40 ?_
          refine z_aln C hl 1 rfl dX3_placeOf_41 ?_
          refine gf_X3_15 C hP dX3_placeOf_42 ?_
          refine z_il C hl 0 rfl dX3_placeOf_45 ?_
          refine z_iald C hP (i := 10) (by decide) (fun _ => rfl) (by omega) (by decide) dX3_placeOf_47 ?_
          refine z_isub C dX3_placeOf_48 ?_
          refine z_iln C hl 4 rfl dX3_placeOf_49 ?_
          refine z_icmp_le C 57 (by decide) (by omega) (by omega) dX3_placeOf_50 (fun w6 => ?_) (fun w6 => ?_)
          · skip
            refine z_aln C hl 1 rfl dX3_placeOf_57 ?_
            refine gf_X3_9 C hP dX3_placeOf_58 ?_
            refine z_il C hl 6 rfl dX3_placeOf_61 ?_
            refine z_iald C hP (i := 9) (by decide) (fun _ => rfl) (by omega) (by decide) dX3_placeOf_63 ?_
            refine z_iln C hl 2 rfl dX3_placeOf_64 ?_
            refine z_icmp_ne C 73 (by decide) (by omega) (by omega) dX3_placeOf_65 (fun w7 => ?_) (fun w7 => ?_)
            · skip
              refine z_iinc C hl 6 rfl [(5, .int (zI (i + 1))), (6, .int (zI (max 0 (i - 1)))), (0, .ref (q 2)), (1, .int (zI lane)), (2, .int (zI rule)), (3, .int (zI read)), (4, .int (zI hd))] (by decide) rfl dX3_placeOf_73 (fun ls hl => ?_)
              refine z_goto C 6 (by decide) dX3_placeOf_76 ?_
              exact ih6 hd (i + 1) (by omega) (by omega) (by omega) (by omega) (by rw [he, if_neg w7, if_neg (by omega)]) ls (lv_sub hl [2, 3, 4, 5, 6, 0] rfl)
            · skip
              refine z_il C hl 5 rfl dX3_placeOf_68 ?_
              refine z_ic C dX3_placeOf_70 ?_
              refine z_iadd C dX3_placeOf_71 ?_
              exact z_iret B (by rw [he, if_pos w7, if_neg (by omega)]) dX3_placeOf_72
          · skip
            refine z_il C hl 6 rfl dX3_placeOf_53 ?_
            refine z_ist C hl [(4, .int (zI i)), (6, .int (zI (max 0 (i - 1)))), (0, .ref (q 2)), (1, .int (zI lane)), (2, .int (zI rule)), (3, .int (zI read)), (5, .int (zI i))] (by decide) rfl dX3_placeOf_55 (fun ls hl => ?_)
            refine z_aln C hl 2 rfl dX3_placeOf_57 ?_
            refine gf_X3_9 C hP dX3_placeOf_58 ?_
            refine z_il C hl 6 rfl dX3_placeOf_61 ?_
            refine z_iald C hP (i := 9) (by decide) (fun _ => rfl) (by omega) (by decide) dX3_placeOf_63 ?_
            refine z_iln C hl 3 rfl dX3_placeOf_64 ?_
            refine z_icmp_ne C 73 (by decide) (by omega) (by omega) dX3_placeOf_65 (fun w8 => ?_) (fun w8 => ?_)
            · skip
              refine z_iinc C hl 6 rfl [(5, .int (zI (i + 1))), (4, .int (zI i)), (6, .int (zI (max 0 (i - 1)))), (0, .ref (q 2)), (1, .int (zI lane)), (2, .int (zI rule)), (3, .int (zI read))] (by decide) rfl dX3_placeOf_73 (fun ls hl => ?_)
              refine z_goto C 6 (by decide) dX3_placeOf_76 ?_
              exact ih6 i (i + 1) (by omega) (by omega) (by omega) (by omega) (by rw [he, if_neg w8, if_pos (by omega)]) ls (lv_sub hl [3, 4, 5, 6, 1, 0] rfl)
            · skip
              refine z_il C hl 0 rfl dX3_placeOf_68 ?_
              refine z_ic C dX3_placeOf_70 ?_
              refine z_iadd C dX3_placeOf_71 ?_
              exact z_iret B (by rw [he, if_pos w8, if_pos (by omega)]) dX3_placeOf_72
  exact L6 ((σ 2 2 - 0 : Int).toNat + 1) 0 0 (by omega) (by omega) (by omega) (by omega) (by rw [Int.sub_zero]) ls (lv_sub hl [2, 3, 4, 5, 1, 0] rfl)

set_option maxHeartbeats 4000000 in
set_option maxRecDepth 100000 in
theorem c_X8_rank {l : Launch} {D : va_G} {q : Nat → Nat} {g : Nat → ClassId} {σ : Mem} (hq : qok q) (md : Int) (hI : TI σ) (hmd : 0 ≤ md ∧ md ≤ 1) : RW l yX8_rank cX8_rank 4 none 6 137 D q g σ [.ref (q 0), .int (zI md)] vV (fun _ τ => Fr σ τ ∧ RK (co σ) md (co σ 1 2).toNat τ) := by
  refine RW.intro (plainFor_of_name (by decide)) (Nat.le_of_ble_eq_true rfl) (fun p e s m args below meth c ls B hP hS hl => ?_)
  have C := B.1
  have hl : lv_has ls 4 [(0, .ref (q 0)), (1, .int (zI md))] := hl
  have h1 := hI.1
  have hIc := TI_cc hI
  have e12 : co σ 1 2 = σ 1 2 := rfl
  refine z_aln C hl 0 rfl dX8_rank_0 ?_
  refine gf_X8_19 C hP dX8_rank_1 ?_
  refine z_ic C dX8_rank_4 ?_
  refine pf_X8_130 C hq hP hS dX8_rank_5 (fun H locs hP hS => ?_)
  refine z_ic C dX8_rank_8 ?_
  refine z_isn C hl [(2, .int (zI 0)), (0, .ref (q 0)), (1, .int (zI md))] (by decide) rfl dX8_rank_9 (fun ls hl => ?_)
  have L10 : ∀ (n : Nat) (k : Int)  (τ : Mem), σ 1 2 - k < (n : Int) → (0 ≤ k ∧ k ≤ σ 1 2) → (Fr σ τ) → (RK (co σ) md k.toNat τ) → ∀ (H : Heap) (locs : List Loc), HP D q g τ H → va_S (aQ q) s.heap H locs → ∀ ls : Array Slot, lv_has ls 4 [(0, .ref (q 0)), (1, .int (zI md)), (2, .int (zI k))] → WW p l e 6 137 s m args below meth c H locs D q g vV (fun _ τ => Fr σ τ ∧ RK (co σ) md (co σ 1 2).toNat τ) (F0 m 10 ls []) := by
    intro n
    induction n with
    | zero => intro k τ hm hk hF hK H locs hP hS ls hl; exact False.elim (by omega)
    | succ n ih =>
      intro k τ hm hk hF hK H locs hP hS ls hl
      have ih10 := ih; clear ih
      refine z_iln C hl 2 rfl dX8_rank_10 ?_
      have e2 := hF 1 2 rfl
      refine z_aln C hl 0 rfl dX8_rank_11 ?_
      refine gf_X8_10 C hP dX8_rank_12 ?_
      refine gf_X8_118 C hP dX8_rank_15 ?_
      refine z_icmp_ge C 68 (by decide) (by omega) (by omega) dX8_rank_18 (fun w1 => ?_) (fun w1 => ?_)
      · skip
        exact z_vretW B hP hS ⟨hF, by have e2 := hF 1 2 rfl; rw [show (co σ 1 2).toNat = k.toNat by omega]; exact hK⟩ dX8_rank_68
      · skip
        have e2 := hF 1 2 rfl
        have hIt := Fr_TI hF hI
        have ec := Fr_co hF
        have hjb := kJn_b hIc (lane := k) (by omega)
        have hhb := kHe_b hIc (lane := k) (by omega)
        rw [← ec] at hjb hhb
        have hor := kOrd_rng (co σ) md k.toNat
        have hkr : ∀ j : Nat, (j : Int) < τ 2 2 → zR (τ 10 j) := fun j hj => by have hz := hK.1; have h3 := hK.2 j (by omega); have h4 := hor.2 j (by omega); have h5 := kKey_b hIc (md := md) (lane := (kOrd (co σ) md k.toNat).1 j) (by omega); omega
        have hk0 := hK.1
        refine z_aln C hl 0 rfl dX8_rank_21 ?_
        refine gf_X8_10 C hP dX8_rank_22 ?_
        refine z_iln C hl 2 rfl dX8_rank_25 ?_
        refine z_vRO C hP hl (c_X7_joined (σ := τ) k hIt (by omega)) (z_recv C hP (i := 1) (by decide) rfl (ci := 7) rfl) wg_308 wg_2 wg_305 wg_306 wg_307 cw_X7_joined ⟨Nat.le_of_ble_eq_true rfl, Nat.le_of_ble_eq_true rfl⟩ rfl rfl (Nat.le_of_ble_eq_true rfl) dX8_rank_26 ?_
        refine z_isn C hl [(3, .int (zI (kJn (co τ) k))), (0, .ref (q 0)), (1, .int (zI md)), (2, .int (zI k))] (by decide) rfl dX8_rank_29 (fun ls hl => ?_)
        refine z_iln C hl 0 rfl dX8_rank_30 ?_
        refine z_ldc C (n := 10000000) wg_304 (by decide) dX8_rank_31 ?_
        refine z_icmp_ge C 62 (by decide) (by omega) (by omega) dX8_rank_33 (fun w2 => ?_) (fun w2 => ?_)
        · skip
          refine z_iinc C hl 3 rfl [(2, .int (zI (k + 1))), (3, .int (zI (kJn (co τ) k))), (0, .ref (q 0)), (1, .int (zI md))] (by decide) rfl dX8_rank_62 (fun ls hl => ?_)
          refine z_goto C 10 (by decide) dX8_rank_65 ?_
          exact ih10 (k + 1) τ (by omega) (by omega) hF (by rw [show (k + 1).toNat = k.toNat + 1 by omega]; exact RK_no hK (by rw [show ((k.toNat : Nat) : Int) = k by omega, ← ec]; omega)) _ _ hP hS ls (lv_sub hl [2, 3, 0] rfl)
        · skip
          refine z_aln C hl 1 rfl dX8_rank_36 ?_
          refine gf_X8_19 C hP dX8_rank_37 ?_
          refine z_iln C hl 3 rfl dX8_rank_40 ?_
          refine z_iln C hl 2 rfl dX8_rank_41 ?_
          refine z_if_eq C 58 (by decide) (by omega) dX8_rank_42 (fun w3 => ?_) (fun w3 => ?_)
          · skip
            refine z_iln C hl 0 rfl dX8_rank_58 ?_
            refine z_vRWv C hP hS hl (c_X3_add (σ := τ) hq k (kJn (co τ) k) (by omega) hkr (by omega)) (z_recv C hP (i := 2) (by decide) rfl (ci := 3) rfl) wg_362 wg_4 wg_359 wg_360 wg_361 cw_X3_add ⟨Nat.le_of_ble_eq_true rfl, Nat.le_of_ble_eq_true rfl⟩ rfl rfl (Nat.le_of_ble_eq_true rfl) dX8_rank_59 (fun r59 τ59 H locs hp59 hP hS => ?_)
            refine z_iinc C hl 3 rfl [(2, .int (zI (k + 1))), (3, .int (zI (kJn (co τ) k))), (0, .ref (q 0)), (1, .int (zI md))] (by decide) rfl dX8_rank_62 (fun ls hl => ?_)
            refine z_goto C 10 (by decide) dX8_rank_65 ?_
            exact ih10 (k + 1) τ59 (by omega) (by omega) (Fr_tr hF hp59.1) (by rw [show (k + 1).toNat = k.toNat + 1 by omega]; have hkk : kKey (co σ) md ((k.toNat : Nat) : Int) = kJn (co τ) k := (by rw [show ((k.toNat : Nat) : Int) = k by omega, ec]; unfold kKey; split <;> omega); refine RK_yes hK (by rw [show ((k.toNat : Nat) : Int) = k by omega, ← ec]; omega) hp59.2.1 ?_; rw [hkk, show ((k.toNat : Nat) : Int) = k by omega]; exact hp59.2.2) _ _ hP hS ls (lv_sub hl [2, 3, 0] rfl)
          · skip
            refine z_iln C hl 0 rfl dX8_rank_45 ?_
            refine z_aln C hl 1 rfl dX8_rank_46 ?_
            refine gf_X8_10 C hP dX8_rank_47 ?_
            refine z_iln C hl 3 rfl dX8_rank_50 ?_
            refine z_vRO C hP hl (c_X7_hears (σ := τ) k hIt (by omega)) (z_recv C hP (i := 1) (by decide) rfl (ci := 7) rfl) wg_334 wg_2 wg_331 wg_332 wg_333 cw_X7_hears ⟨Nat.le_of_ble_eq_true rfl, Nat.le_of_ble_eq_true rfl⟩ rfl rfl (Nat.le_of_ble_eq_true rfl) dX8_rank_51 ?_
            refine z_isub C dX8_rank_54 ?_
            refine z_goto C 59 (by decide) dX8_rank_55 ?_
            refine z_vRWv C hP hS hl (c_X3_add (σ := τ) hq k ((kJn (co τ) k) - (kHe (co τ) k)) (by omega) hkr (by omega)) (z_recv C hP (i := 2) (by decide) rfl (ci := 3) rfl) wg_362 wg_4 wg_359 wg_360 wg_361 cw_X3_add ⟨Nat.le_of_ble_eq_true rfl, Nat.le_of_ble_eq_true rfl⟩ rfl rfl (Nat.le_of_ble_eq_true rfl) dX8_rank_59 (fun r59 τ59 H locs hp59 hP hS => ?_)
            refine z_iinc C hl 3 rfl [(2, .int (zI (k + 1))), (3, .int (zI (kJn (co τ) k))), (0, .ref (q 0)), (1, .int (zI md))] (by decide) rfl dX8_rank_62 (fun ls hl => ?_)
            refine z_goto C 10 (by decide) dX8_rank_65 ?_
            exact ih10 (k + 1) τ59 (by omega) (by omega) (Fr_tr hF hp59.1) (by rw [show (k + 1).toNat = k.toNat + 1 by omega]; have hkk : kKey (co σ) md ((k.toNat : Nat) : Int) = (kJn (co τ) k) - (kHe (co τ) k) := (by rw [show ((k.toNat : Nat) : Int) = k by omega, ec]; unfold kKey; split <;> omega); refine RK_yes hK (by rw [show ((k.toNat : Nat) : Int) = k by omega, ← ec]; omega) hp59.2.1 ?_; rw [hkk, show ((k.toNat : Nat) : Int) = k by omega]; exact hp59.2.2) _ _ hP hS ls (lv_sub hl [2, 3, 0] rfl)
  exact L10 ((σ 1 2 - 0 : Int).toNat + 1) 0 (um σ 2 2 0) (by omega) (by omega) (Fr_um Fr_rf (by simp [sc])) ⟨by simp [um]; rfl, fun j hj => by cases hj⟩ _ _ hP hS ls (lv_sub hl [1, 2, 0] rfl)

set_option maxHeartbeats 4000000 in
set_option maxRecDepth 100000 in
theorem c_X8_order {l : Launch} {D : va_G} {q : Nat → Nat} {g : Nat → ClassId} {σ : Mem} (hq : qok q) (i : Int) (hI : TI σ) (hr_i : zR i) : RW l yX8_order cX8_order 2 (some .int) 7 160 D q g σ [.ref (q 0), .int (zI i)] vI (fun r τ => Fr σ τ ∧ r = if i = -1 then (kOn (co σ) 0 : Int) else kOAt (co σ) 0 i) := by
  refine RW.intro (plainFor_of_name (by decide)) (Nat.le_of_ble_eq_true rfl) (fun p e s m args below meth c ls B hP hS hl => ?_)
  have C := B.1
  have hl : lv_has ls 2 [(0, .ref (q 0)), (1, .int (zI i))] := hl
  have h1 := hI.1
  have hIc := TI_cc hI
  have e12 : co σ 1 2 = σ 1 2 := rfl
  refine z_aln C hl 0 rfl dX8_order_0 ?_
  refine z_ic C dX8_order_1 ?_
  refine z_vRWv C hP hS hl (c_X8_rank (σ := σ) hq 0 hI (by omega)) (z_recv C hP (i := 0) (by decide) rfl (ci := 8) rfl) wg_358 wg_1 wg_355 wg_357 ws_X8_rank cw_X8_rank ⟨Nat.le_of_ble_eq_true rfl, Nat.le_of_ble_eq_true rfl⟩ rfl rfl (Nat.le_of_ble_eq_true rfl) dX8_order_2 (fun r2 τ2 H locs hp2 hP hS => ?_)
  obtain ⟨hF, hK⟩ := hp2
  have hor := kOrd_rng (co σ) 0 (co σ 1 2).toNat
  have hk0 := hK.1
  have hIt := Fr_TI hF hI
  refine z_iln C hl 1 rfl dX8_order_5 ?_
  refine z_ic C dX8_order_6 ?_
  refine z_icmp_ne C 20 (by decide) (by omega) (by omega) dX8_order_7 (fun w1 => ?_) (fun w1 => ?_)
  · skip
    refine z_aln C hl 0 rfl dX8_order_20 ?_
    refine gf_X8_19 C hP dX8_order_21 ?_
    refine z_iln C hl 1 rfl dX8_order_24 ?_
    refine z_vRO C hP hl (c_X3_at (σ := τ2) i (by omega) (by omega)) (z_recv C hP (i := 2) (by decide) rfl (ci := 3) rfl) wg_366 wg_4 wg_363 wg_364 wg_365 cw_X3_at ⟨Nat.le_of_ble_eq_true rfl, Nat.le_of_ble_eq_true rfl⟩ rfl rfl (Nat.le_of_ble_eq_true rfl) dX8_order_25 ?_
    exact z_iretW B hP hS ⟨hF, by rw [if_neg (show ¬ i = -1 by omega)]; unfold kOAt kOn kOl; rw [hk0]; split <;> first | exact (hK.2 i.toNat (by omega)).1 | rfl⟩ dX8_order_28
  · skip
    refine z_aln C hl 0 rfl dX8_order_10 ?_
    refine gf_X8_19 C hP dX8_order_11 ?_
    refine gf_X8_130 C hP dX8_order_14 ?_
    refine z_goto C 28 (by decide) dX8_order_17 ?_
    exact z_iretW B hP hS ⟨hF, by rw [if_pos (by omega)]; exact hk0⟩ dX8_order_28

set_option maxHeartbeats 4000000 in
set_option maxRecDepth 100000 in
theorem c_X8_mended {l : Launch} {D : va_G} {q : Nat → Nat} {g : Nat → ClassId} {σ : Mem} (hq : qok q) (i : Int) (hI : TI σ) (hr_i : zR i) : RW l yX8_mended cX8_mended 2 (some .int) 7 160 D q g σ [.ref (q 0), .int (zI i)] vI (fun r τ => Fr σ τ ∧ r = kOAt (co σ) 1 i) := by
  refine RW.intro (plainFor_of_name (by decide)) (Nat.le_of_ble_eq_true rfl) (fun p e s m args below meth c ls B hP hS hl => ?_)
  have C := B.1
  have hl : lv_has ls 2 [(0, .ref (q 0)), (1, .int (zI i))] := hl
  have h1 := hI.1
  have hIc := TI_cc hI
  have e12 : co σ 1 2 = σ 1 2 := rfl
  refine z_aln C hl 0 rfl dX8_mended_0 ?_
  refine z_ic C dX8_mended_1 ?_
  refine z_vRWv C hP hS hl (c_X8_rank (σ := σ) hq 1 hI (by omega)) (z_recv C hP (i := 0) (by decide) rfl (ci := 8) rfl) wg_358 wg_1 wg_355 wg_357 ws_X8_rank cw_X8_rank ⟨Nat.le_of_ble_eq_true rfl, Nat.le_of_ble_eq_true rfl⟩ rfl rfl (Nat.le_of_ble_eq_true rfl) dX8_mended_2 (fun r2 τ2 H locs hp2 hP hS => ?_)
  obtain ⟨hF, hK⟩ := hp2
  have hor := kOrd_rng (co σ) 1 (co σ 1 2).toNat
  have hk0 := hK.1
  have hIt := Fr_TI hF hI
  refine z_aln C hl 0 rfl dX8_mended_5 ?_
  refine gf_X8_19 C hP dX8_mended_6 ?_
  refine z_iln C hl 1 rfl dX8_mended_9 ?_
  refine z_vRO C hP hl (c_X3_at (σ := τ2) i (by omega) (by omega)) (z_recv C hP (i := 2) (by decide) rfl (ci := 3) rfl) wg_366 wg_4 wg_363 wg_364 wg_365 cw_X3_at ⟨Nat.le_of_ble_eq_true rfl, Nat.le_of_ble_eq_true rfl⟩ rfl rfl (Nat.le_of_ble_eq_true rfl) dX8_mended_10 ?_
  exact z_iretW B hP hS ⟨hF, by unfold kOAt kOn kOl; rw [hk0]; split <;> first | exact (hK.2 i.toNat (by omega)).1 | rfl⟩ dX8_mended_13
