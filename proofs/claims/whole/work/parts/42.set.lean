/-! HairLine.set: its bounds stand in two static arrays that nobody writes -/
def loS (w : Int) : Int := if w = 0 then -3 else 0
def hiS (w : Int) : Int := if w = 0 then 3 else if w = 1 then 9 else if w = 2 then 200 else 1
def fLo (j : Nat) : Value := .int (zI (loS (j : Int)))
def fHi (j : Nat) : Value := .int (zI (hiS (j : Int)))
def ST (A : Nat → Prop) (t1 t2 : Nat) (U : State) (H : Heap) : Prop := (va_Z "HairLine" "SETTING_LEAST" "[I" (.ref t1) A U H ∧ va_T .int t1 4 fLo A U H) ∧ va_Z "HairLine" "SETTING_MOST" "[I" (.ref t2) A U H ∧ va_T .int t2 4 fHi A U H
theorem ST.moved {A : Nat → Prop} {t1 t2 : Nat} {u U : State} {H : Heap} (hvm : u.vm.Alike U.vm) (h : ST A t1 t2 u H) : ST A t1 t2 U H := ⟨⟨h.1.1.moved hvm, h.1.2.moved hvm⟩, h.2.1.moved hvm, h.2.2.moved hvm⟩
theorem ST.kept {A : Nat → Prop} {t1 t2 : Nat} {U : State} {H H1 : Heap} (h : ST A t1 t2 U H) (hq : ∀ a : Nat, a < H.size → ¬ A a → H1[a]? = H[a]?) : ST A t1 t2 U H1 := ⟨⟨h.1.1.kept hq, h.1.2.kept hq⟩, h.2.1.kept hq, h.2.2.kept hq⟩
theorem ST.narrow {A B : Nat → Prop} {t1 t2 : Nat} {U : State} {H : Heap} (h : ST A t1 t2 U H) (hAB : ∀ q, B q → A q) : ST B t1 t2 U H := ⟨⟨h.1.1.narrow hAB, h.1.2.narrow hAB⟩, h.2.1.narrow hAB, h.2.2.narrow hAB⟩
abbrev pWS (D : va_G) (q : Nat → Nat) (g : Nat → ClassId) (σ : Mem) (t1 t2 : Nat) (U : State) : Prop := pW D q g σ U ∧ ST (aQ q) t1 t2 U U.heap
theorem c_X8_set {l : Launch} {D : va_G} {q : Nat → Nat} {g : Nat → ClassId} {σ : Mem} (hq : qok q) (w v : Int) (hr_w : zR w) (hr_v : zR v) (t1 t2 : Nat) :
    Met l yX8_set (Cond.code yX8_set cX8_set 4 (some .int) :: gw) (zRm 1 22) (va_Pc [.ref (q 0), .int (zI w), .int (zI v)] (pWS D q g σ t1 t2)) (qRW D q g vI (fun r τ => if ¬ ((0 ≤ w ∧ w ≤ 3) ∧ (loS w ≤ v ∧ v ≤ hiS w)) then r = -2 ∧ τ = σ else r = σ 8 w.toNat ∧ τ = um σ 8 w.toNat v)) 0 0 (aQ q) := by
  refine zMetF (cc := cX8_set) (maxL := 4) (ret := some .int) (plainFor_of_name (by decide)) rfl ?_
  intro p e s m args below meth c s₁ B0 hml hv
  obtain ⟨rfl, ⟨hP, hK⟩, hST⟩ := hv
  have hts := atoms_spec (ws := Cond.code yX8_set cX8_set 4 (some .int) :: gw) B0.pre
  have hl := lv_entry [.ref (q 0), .int (zI w), .int (zI v)] (n := 4) (Nat.le_of_ble_eq_true rfl)
  rw [lg_entry_eq]
  have B : ZB D g RX8 cX8_set 4 (some .int) p s m [.ref (q 0), .int (zI w), .int (zI v)].toArray c meth := ⟨⟨⟨B0.exec, B0.bytes, hml, findClass_of_methodNamed B0.named, fun w hw => hts w (List.mem_cons_of_mem _ hw)⟩, hK⟩, B0.returns, B0.notSynchronized⟩
  have hS : va_S (aQ q) s.heap s.heap [] := va_S.rf
  generalize (lg_sl [Value.ref (q 0), .int (zI w), .int (zI v)] ++ List.replicate (4 - (lg_sl [Value.ref (q 0), .int (zI w), .int (zI v)]).length) Slot.unset).toArray = ls at hl ⊢
  have C := B.1
  have hl : lv_has ls 4 [(0, .ref (q 0)), (1, .int (zI w)), (2, .int (zI v))] := hl
  have hlo : -3 ≤ loS w ∧ loS w ≤ 0 := by unfold loS; split <;> omega
  have hhi : 1 ≤ hiS w ∧ hiS w ≤ 200 := by unfold hiS; split <;> (try split) <;> (try split) <;> omega
  refine z_iln C hl 1 rfl dX8_set_0 ?_
  refine z_ic C dX8_set_1 ?_
  refine z_ic C dX8_set_2 ?_
  refine z_sRO C hP hl (c_X8_within (σ := σ) w 0 3 (by omega) (by omega) (by omega)) wg_212 wg_1 wg_210 wg_211 cw_X8_within ⟨Nat.le_of_ble_eq_true rfl, Nat.le_of_ble_eq_true rfl⟩ rfl rfl (Nat.le_of_ble_eq_true rfl) dX8_set_3 ?_
  refine z_bif_eq C 26 (by decide) dX8_set_6 (fun w1 => ?_) (fun w1 => ?_)
  · refine z_bp C dX8_set_26 rfl ?_
    exact z_iretW B hP hS (by rw [if_pos (by omega)]; exact ⟨rfl, rfl⟩) dX8_set_28
  · have hw : 0 ≤ w ∧ w ≤ 3 := by omega
    have hin : vp_in (zI w) 4 := zI_vin hw.1 (by omega) hr_w
    have ecl : (zI w).toNatClampNeg = w.toNat := zI_clamp hw.1 hr_w
    have en : ((w.toNat : Nat) : Int) = w := by omega
    refine z_iln C hl 2 rfl dX8_set_9 ?_
    refine va_gets C.1.1 C.1.2.1 hST.1.1 hS C.1.2.2.2.1 (C.1.2.2.2.2 _ wg_237) (fun _ h => h) dX8_set_10 ?_
    refine z_iln C hl 1 rfl dX8_set_13 ?_
    refine va_ti (v := .int (zI (loS w))) C.1.1 C.1.2.1 hST.1.2 hS hin (by rw [ecl]; unfold fLo; rw [en]) dX8_set_14 ?_
    refine va_gets C.1.1 C.1.2.1 hST.2.1 hS C.1.2.2.2.1 (C.1.2.2.2.2 _ wg_239) (fun _ h => h) dX8_set_15 ?_
    refine z_iln C hl 1 rfl dX8_set_18 ?_
    refine va_ti (v := .int (zI (hiS w))) C.1.1 C.1.2.1 hST.2.2 hS hin (by rw [ecl]; unfold fHi; rw [en]) dX8_set_19 ?_
    refine z_sRO C hP hl (c_X8_within (σ := σ) v (loS w) (hiS w) hr_v (by omega) (by omega)) wg_212 wg_1 wg_210 wg_211 cw_X8_within ⟨Nat.le_of_ble_eq_true rfl, Nat.le_of_ble_eq_true rfl⟩ rfl rfl (Nat.le_of_ble_eq_true rfl) dX8_set_20 ?_
    refine z_bif_ne C 29 (by decide) dX8_set_23 (fun w2 => ?_) (fun w2 => ?_)
    · refine z_aln C hl 0 rfl dX8_set_29 ?_
      refine gf_X8_10 C hP dX8_set_30 ?_
      refine gf_X8_83 C hP dX8_set_33 ?_
      refine z_iln C hl 1 rfl dX8_set_36 ?_
      refine z_iald C hP (i := 8) (by decide) (fun _ => rfl) (by omega) (by decide) dX8_set_37 ?_
      refine z_isn C hl [(3, .int (zI (σ 8 w.toNat))), (0, .ref (q 0)), (1, .int (zI w)), (2, .int (zI v))] (by decide) rfl dX8_set_38 (fun ls hl => ?_)
      refine z_aln C hl 1 rfl dX8_set_39 ?_
      refine gf_X8_10 C hP dX8_set_40 ?_
      refine gf_X8_83 C hP dX8_set_43 ?_
      refine z_iln C hl 2 rfl dX8_set_46 ?_
      refine z_iln C hl 3 rfl dX8_set_47 ?_
      refine z_iast C hq hP hS (i := 8) (by decide) (fun _ => rfl) (by omega) (by decide) dX8_set_48 (fun H locs hP hS => ?_)
      refine z_iln C hl 0 rfl dX8_set_49 ?_
      exact z_iretW B hP hS (by rw [if_neg (by omega)]; exact ⟨rfl, rfl⟩) dX8_set_50
    · refine z_bp C dX8_set_26 rfl ?_
      exact z_iretW B hP hS (by rw [if_pos (by omega)]; exact ⟨rfl, rfl⟩) dX8_set_28
