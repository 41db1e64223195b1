def WX6_init (g : Nat → ClassId) (a : Nat) (x : Nat → Nat) : va_W := [(a, .inr (6, [.int (zI 0), .int (zI 0)]))]
set_option maxHeartbeats 4000000 in
set_option maxRecDepth 100000 in
theorem M_X6_init (l : Launch) (D : va_G) (g : Nat → ClassId) (a : Nat) : MK l yX6_init cX6_init 1 1 12 0 0 D g a [] 6 [.int (zI 0), .int (zI 0)] (WX6_init g a) := by
  refine MK.intro (by decide +kernel) (Nat.le_of_ble_eq_true rfl) ?_
  intro A p e s m args below meth c ls B hKA hm hP hD hS hA hl
  have C : Cx D g RX6 cX6_init 1 p s m args c := B.1
  have hl : lv_has ls 1 [(0, .ref a)] := hl
  refine z_aln C hl 0 rfl dX6_init_0 ?_
  refine y_oinit C hl wg_98 dX6_init_1 ⟨(Nat.le_of_ble_eq_true rfl), (Nat.le_of_ble_eq_true rfl)⟩ ?_
  exact y_ret B (fun i => ([] : List Nat).getD i 0) hP hD hS dX6_init_4
def WX6_put (g : Nat → ClassId) (a : Nat) (x : Nat → Nat) : va_W := [(a, .inr (6, [.int (zI 0), .int (zI 50)]))]
set_option maxHeartbeats 4000000 in
set_option maxRecDepth 100000 in
theorem M_X6_put (l : Launch) (D : va_G) (g : Nat → ClassId) (a : Nat) : MK l yX6_put cX6_put 3 0 0 0 0 D g a [.int (zI 0), .int (zI 50)] 6 [.int (zI 0), .int (zI 0)] (WX6_put g a) := by
  refine MK.intro (by decide +kernel) (Nat.le_of_ble_eq_true rfl) ?_
  intro A p e s m args below meth c ls B hKA hm hP hD hS hA hl
  have C : Cx D g RX6 cX6_put 3 p s m args c := B.1
  have hl : lv_has ls 3 [(0, .ref a), (1, .int (zI 0)), (2, .int (zI 50))] := hl
  refine z_aln C hl 0 rfl dX6_put_0 ?_
  refine z_iln C hl 1 rfl dX6_put_1 ?_
  refine y_put (kf := 0) (ty := .int) C hP hD hS 0 rfl (ci := 6) rfl inX6 tyX6_ok nmX6 (by decide) rfl rfl (by decide +kernel) rfl rfl (Nat.le_of_ble_eq_true rfl) wg_99 dX6_put_2 (fun H locs hP hD hS => ?_)
  have hP : va_P D vwCl [(a, .inr (6, [.int (zI 0), .int (zI 0)]))] H := hP
  have hD : va_D A [(a, .inr (6, [.int (zI 0), .int (zI 0)]))] := hD
  refine z_aln C hl 0 rfl dX6_put_5 ?_
  refine z_iln C hl 2 rfl dX6_put_6 ?_
  refine y_put (kf := 1) (ty := .int) C hP hD hS 0 rfl (ci := 6) rfl inX6 tyX6_ok nmX6 (by decide) rfl rfl (by decide +kernel) rfl rfl (Nat.le_of_ble_eq_true rfl) wg_102 dX6_put_7 (fun H locs hP hD hS => ?_)
  have hP : va_P D vwCl [(a, .inr (6, [.int (zI 0), .int (zI 50)]))] H := hP
  have hD : va_D A [(a, .inr (6, [.int (zI 0), .int (zI 50)]))] := hD
  exact y_ret B (fun i => ([] : List Nat).getD i 0) hP hD hS dX6_put_10
def WX4_init (g : Nat → ClassId) (a : Nat) (x : Nat → Nat) : va_W := [(a, .inr (4, [.ref (x 0), .ref (x 1), .int (zI 0), .int (zI 1), .int (zI (-6))])), ((x 0), .inl (g 0, 12, .inl (fun _ => zI 1))), ((x 1), .inl (g 0, 12, .inl (fun _ => zI 0)))]
set_option maxHeartbeats 4000000 in
set_option maxRecDepth 100000 in
theorem M_X4_init (l : Launch) (D : va_G) (g : Nat → ClassId) (a : Nat) : MK l yX4_init cX4_init 2 1 12 2 24 D g a [] 4 [.null, .null, .int (zI 0), .int (zI 0), .int (zI 0)] (WX4_init g a) := by
  refine MK.intro (by decide +kernel) (Nat.le_of_ble_eq_true rfl) ?_
  intro A p e s m args below meth c ls B hKA hm hP hD hS hA hl
  have C : Cx D g RX4 cX4_init 2 p s m args c := B.1
  have hl : lv_has ls 2 [(0, .ref a)] := hl
  refine z_aln C hl 0 rfl dX4_init_0 ?_
  refine y_oinit C hl wg_33 dX4_init_1 ⟨(Nat.le_of_ble_eq_true rfl), (Nat.le_of_ble_eq_true rfl)⟩ ?_
  refine z_aln C hl 0 rfl dX4_init_4 ?_
  refine z_bp C dX4_init_5 rfl ?_
  refine y_newa C hP hD hS hA 12 rfl (by decide) (Nat.le_of_ble_eq_true rfl) (Nat.le_of_ble_eq_true rfl) dX4_init_7 (fun q7_0 H hP hD hS => ?_)
  have hP : va_P D vwCl [(a, .inr (4, [.null, .null, .int (zI 0), .int (zI 0), .int (zI 0)])), (q7_0, .inl (g 0, 12, .inl (fun _ => zI 0)))] H := hP
  have hD : va_D A [(a, .inr (4, [.null, .null, .int (zI 0), .int (zI 0), .int (zI 0)])), (q7_0, .inl (g 0, 12, .inl (fun _ => zI 0)))] := hD
  refine y_putF (kf := 0) (ty := (.array .int)) C hm hP hD hS 0 rfl (ci := 4) rfl inX4 tyX4_ok nmX4 (by decide) rfl rfl (by decide +kernel) rfl rfl (Nat.le_of_ble_eq_true rfl) wg_34 dX4_init_9 (fun H locs hP hD hS => ?_)
  have hP : va_P D vwCl [(a, .inr (4, [.ref q7_0, .null, .int (zI 0), .int (zI 0), .int (zI 0)])), (q7_0, .inl (g 0, 12, .inl (fun _ => zI 0)))] H := hP
  have hD : va_D A [(a, .inr (4, [.ref q7_0, .null, .int (zI 0), .int (zI 0), .int (zI 0)])), (q7_0, .inl (g 0, 12, .inl (fun _ => zI 0)))] := hD
  refine z_aln C hl 0 rfl dX4_init_12 ?_
  refine z_bp C dX4_init_13 rfl ?_
  refine y_newa C hP hD hS hA 12 rfl (by decide) (Nat.le_of_ble_eq_true rfl) (Nat.le_of_ble_eq_true rfl) dX4_init_15 (fun q15_1 H hP hD hS => ?_)
  have hP : va_P D vwCl [(a, .inr (4, [.ref q7_0, .null, .int (zI 0), .int (zI 0), .int (zI 0)])), (q7_0, .inl (g 0, 12, .inl (fun _ => zI 0))), (q15_1, .inl (g 0, 12, .inl (fun _ => zI 0)))] H := hP
  have hD : va_D A [(a, .inr (4, [.ref q7_0, .null, .int (zI 0), .int (zI 0), .int (zI 0)])), (q7_0, .inl (g 0, 12, .inl (fun _ => zI 0))), (q15_1, .inl (g 0, 12, .inl (fun _ => zI 0)))] := hD
  refine y_putF (kf := 1) (ty := (.array .int)) C hm hP hD hS 0 rfl (ci := 4) rfl inX4 tyX4_ok nmX4 (by decide) rfl rfl (by decide +kernel) rfl rfl (Nat.le_of_ble_eq_true rfl) wg_35 dX4_init_17 (fun H locs hP hD hS => ?_)
  have hP : va_P D vwCl [(a, .inr (4, [.ref q7_0, .ref q15_1, .int (zI 0), .int (zI 0), .int (zI 0)])), (q7_0, .inl (g 0, 12, .inl (fun _ => zI 0))), (q15_1, .inl (g 0, 12, .inl (fun _ => zI 0)))] H := hP
  have hD : va_D A [(a, .inr (4, [.ref q7_0, .ref q15_1, .int (zI 0), .int (zI 0), .int (zI 0)])), (q7_0, .inl (g 0, 12, .inl (fun _ => zI 0))), (q15_1, .inl (g 0, 12, .inl (fun _ => zI 0)))] := hD
  refine z_aln C hl 0 rfl dX4_init_20 ?_
  refine z_ic C dX4_init_21 ?_
  refine y_put (kf := 3) (ty := .int) C hP hD hS 0 rfl (ci := 4) rfl inX4 tyX4_ok nmX4 (by decide) rfl rfl (by decide +kernel) rfl rfl (Nat.le_of_ble_eq_true rfl) wg_38 dX4_init_22 (fun H locs hP hD hS => ?_)
  have hP : va_P D vwCl [(a, .inr (4, [.ref q7_0, .ref q15_1, .int (zI 0), .int (zI 1), .int (zI 0)])), (q7_0, .inl (g 0, 12, .inl (fun _ => zI 0))), (q15_1, .inl (g 0, 12, .inl (fun _ => zI 0)))] H := hP
  have hD : va_D A [(a, .inr (4, [.ref q7_0, .ref q15_1, .int (zI 0), .int (zI 1), .int (zI 0)])), (q7_0, .inl (g 0, 12, .inl (fun _ => zI 0))), (q15_1, .inl (g 0, 12, .inl (fun _ => zI 0)))] := hD
  refine z_aln C hl 0 rfl dX4_init_25 ?_
  refine z_bp C dX4_init_26 rfl ?_
  refine y_put (kf := 4) (ty := .int) C hP hD hS 0 rfl (ci := 4) rfl inX4 tyX4_ok nmX4 (by decide) rfl rfl (by decide +kernel) rfl rfl (Nat.le_of_ble_eq_true rfl) wg_40 dX4_init_28 (fun H locs hP hD hS => ?_)
  have hP : va_P D vwCl [(a, .inr (4, [.ref q7_0, .ref q15_1, .int (zI 0), .int (zI 1), .int (zI (-6))])), (q7_0, .inl (g 0, 12, .inl (fun _ => zI 0))), (q15_1, .inl (g 0, 12, .inl (fun _ => zI 0)))] H := hP
  have hD : va_D A [(a, .inr (4, [.ref q7_0, .ref q15_1, .int (zI 0), .int (zI 1), .int (zI (-6))])), (q7_0, .inl (g 0, 12, .inl (fun _ => zI 0))), (q15_1, .inl (g 0, 12, .inl (fun _ => zI 0)))] := hD
  refine z_ic C dX4_init_31 ?_
  refine z_isn C hl [(1, .int (zI 0)), (0, .ref a)] (by decide) rfl dX4_init_32 (fun ls hl => ?_)
  refine z_iln C hl 0 rfl dX4_init_33 ?_
  refine z_aln C hl 1 rfl dX4_init_34 ?_
  refine y_get (kf := 0) C hP 0 rfl (ci := 4) rfl inX4 (by decide) rfl wg_34 rfl dX4_init_35 ?_
  refine y_alen C hP 1 rfl dX4_init_38 ?_
  refine z_icmp_ge C 55 (by decide) ⟨by decide, by decide⟩ ⟨by decide, by decide⟩ dX4_init_39 (fun h => absurd h (by decide)) (fun _ => ?_)
  refine z_aln C hl 1 rfl dX4_init_42 ?_
  refine y_get (kf := 0) C hP 0 rfl (ci := 4) rfl inX4 (by decide) rfl wg_34 rfl dX4_init_43 ?_
  refine z_iln C hl 0 rfl dX4_init_46 ?_
  refine z_ic C dX4_init_47 ?_
  refine y_iast C hP hD hS 1 rfl 0 rfl (by decide) (by decide) dX4_init_48 (fun H locs hP hD hS => ?_)
  have hP : va_P D vwCl [(a, .inr (4, [.ref q7_0, .ref q15_1, .int (zI 0), .int (zI 1), .int (zI (-6))])), (q7_0, .inl (g 0, 12, .inl (upd (fun _ => zI 0) 0 (zI 1)))), (q15_1, .inl (g 0, 12, .inl (fun _ => zI 0)))] H := hP
  have hD : va_D A [(a, .inr (4, [.ref q7_0, .ref q15_1, .int (zI 0), .int (zI 1), .int (zI (-6))])), (q7_0, .inl (g 0, 12, .inl (upd (fun _ => zI 0) 0 (zI 1)))), (q15_1, .inl (g 0, 12, .inl (fun _ => zI 0)))] := hD
  refine z_iinc C hl 0 rfl [(1, .int (zI 1)), (0, .ref a)] (by decide) rfl dX4_init_49 (fun ls hl => ?_)
  refine z_goto C 33 (by decide) dX4_init_52 ?_
  refine z_iln C hl 0 rfl dX4_init_33 ?_
  refine z_aln C hl 1 rfl dX4_init_34 ?_
  refine y_get (kf := 0) C hP 0 rfl (ci := 4) rfl inX4 (by decide) rfl wg_34 rfl dX4_init_35 ?_
  refine y_alen C hP 1 rfl dX4_init_38 ?_
  refine z_icmp_ge C 55 (by decide) ⟨by decide, by decide⟩ ⟨by decide, by decide⟩ dX4_init_39 (fun h => absurd h (by decide)) (fun _ => ?_)
  refine z_aln C hl 1 rfl dX4_init_42 ?_
  refine y_get (kf := 0) C hP 0 rfl (ci := 4) rfl inX4 (by decide) rfl wg_34 rfl dX4_init_43 ?_
  refine z_iln C hl 0 rfl dX4_init_46 ?_
  refine z_ic C dX4_init_47 ?_
  refine y_iast C hP hD hS 1 rfl 1 rfl (by decide) (by decide) dX4_init_48 (fun H locs hP hD hS => ?_)
  have hP : va_P D vwCl [(a, .inr (4, [.ref q7_0, .ref q15_1, .int (zI 0), .int (zI 1), .int (zI (-6))])), (q7_0, .inl (g 0, 12, .inl (upd (upd (fun _ => zI 0) 0 (zI 1)) 1 (zI 1)))), (q15_1, .inl (g 0, 12, .inl (fun _ => zI 0)))] H := hP
  have hD : va_D A [(a, .inr (4, [.ref q7_0, .ref q15_1, .int (zI 0), .int (zI 1), .int (zI (-6))])), (q7_0, .inl (g 0, 12, .inl (upd (upd (fun _ => zI 0) 0 (zI 1)) 1 (zI 1)))), (q15_1, .inl (g 0, 12, .inl (fun _ => zI 0)))] := hD
  refine z_iinc C hl 0 rfl [(1, .int (zI 2)), (0, .ref a)] (by decide) rfl dX4_init_49 (fun ls hl => ?_)
  refine z_goto C 33 (by decide) dX4_init_52 ?_
  refine z_iln C hl 0 rfl dX4_init_33 ?_
  refine z_aln C hl 1 rfl dX4_init_34 ?_
  refine y_get (kf := 0) C hP 0 rfl (ci := 4) rfl inX4 (by decide) rfl wg_34 rfl dX4_init_35 ?_
  refine y_alen C hP 1 rfl dX4_init_38 ?_
  refine z_icmp_ge C 55 (by decide) ⟨by decide, by decide⟩ ⟨by decide, by decide⟩ dX4_init_39 (fun h => absurd h (by decide)) (fun _ => ?_)
  refine z_aln C hl 1 rfl dX4_init_42 ?_
  refine y_get (kf := 0) C hP 0 rfl (ci := 4) rfl inX4 (by decide) rfl wg_34 rfl dX4_init_43 ?_
  refine z_iln C hl 0 rfl dX4_init_46 ?_
  refine z_ic C dX4_init_47 ?_
  refine y_iast C hP hD hS 1 rfl 2 rfl (by decide) (by decide) dX4_init_48 (fun H locs hP hD hS => ?_)
  have hP : va_P D vwCl [(a, .inr (4, [.ref q7_0, .ref q15_1, .int (zI 0), .int (zI 1), .int (zI (-6))])), (q7_0, .inl (g 0, 12, .inl (upd (upd (upd (fun _ => zI 0) 0 (zI 1)) 1 (zI 1)) 2 (zI 1)))), (q15_1, .inl (g 0, 12, .inl (fun _ => zI 0)))] H := hP
  have hD : va_D A [(a, .inr (4, [.ref q7_0, .ref q15_1, .int (zI 0), .int (zI 1), .int (zI (-6))])), (q7_0, .inl (g 0, 12, .inl (upd (upd (upd (fun _ => zI 0) 0 (zI 1)) 1 (zI 1)) 2 (zI 1)))), (q15_1, .inl (g 0, 12, .inl (fun _ => zI 0)))] := hD
  refine z_iinc C hl 0 rfl [(1, .int (zI 3)), (0, .ref a)] (by decide) rfl dX4_init_49 (fun ls hl => ?_)
  refine z_goto C 33 (by decide) dX4_init_52 ?_
  refine z_iln C hl 0 rfl dX4_init_33 ?_
  refine z_aln C hl 1 rfl dX4_init_34 ?_
  refine y_get (kf := 0) C hP 0 rfl (ci := 4) rfl inX4 (by decide) rfl wg_34 rfl dX4_init_35 ?_
  refine y_alen C hP 1 rfl dX4_init_38 ?_
  refine z_icmp_ge C 55 (by decide) ⟨by decide, by decide⟩ ⟨by decide, by decide⟩ dX4_init_39 (fun h => absurd h (by decide)) (fun _ => ?_)
  refine z_aln C hl 1 rfl dX4_init_42 ?_
  refine y_get (kf := 0) C hP 0 rfl (ci := 4) rfl inX4 (by decide) rfl wg_34 rfl dX4_init_43 ?_
  refine z_iln C hl 0 rfl dX4_init_46 ?_
  refine z_ic C dX4_init_47 ?_
  refine y_iast C hP hD hS 1 rfl 3 rfl (by decide) (by decide) dX4_init_48 (fun H locs hP hD hS => ?_)
  have hP : va_P D vwCl [(a, .inr (4, [.ref q7_0, .ref q15_1, .int (zI 0), .int (zI 1), .int (zI (-6))])), (q7_0, .inl (g 0, 12, .inl (upd (upd (upd (upd (fun _ => zI 0) 0 (zI 1)) 1 (zI 1)) 2 (zI 1)) 3 (zI 1)))), (q15_1, .inl (g 0, 12, .inl (fun _ => zI 0)))] H := hP
  have hD : va_D A [(a, .inr (4, [.ref q7_0, .ref q15_1, .int (zI 0), .int (zI 1), .int (zI (-6))])), (q7_0, .inl (g 0, 12, .inl (upd (upd (upd (upd (fun _ => zI 0) 0 (zI 1)) 1 (zI 1)) 2 (zI 1)) 3 (zI 1)))), (q15_1, .inl (g 0, 12, .inl (fun _ => zI 0)))] := hD
  refine z_iinc C hl 0 rfl [(1, .int (zI 4)), (0, .ref a)] (by decide) rfl dX4_init_49 (fun ls hl => ?_)
  refine z_goto C 33 (by decide) dX4_init_52 ?_
  refine z_iln C hl 0 rfl dX4_init_33 ?_
  refine z_aln C hl 1 rfl dX4_init_34 ?_
  refine y_get (kf := 0) C hP 0 rfl (ci := 4) rfl inX4 (by decide) rfl wg_34 rfl dX4_init_35 ?_
  refine y_alen C hP 1 rfl dX4_init_38 ?_
  refine z_icmp_ge C 55 (by decide) ⟨by decide, by decide⟩ ⟨by decide, by decide⟩ dX4_init_39 (fun h => absurd h (by decide)) (fun _ => ?_)
  refine z_aln C hl 1 rfl dX4_init_42 ?_
  refine y_get (kf := 0) C hP 0 rfl (ci := 4) rfl inX4 (by decide) rfl wg_34 rfl dX4_init_43 ?_
  refine z_iln C hl 0 rfl dX4_init_46 ?_
  refine z_ic C dX4_init_47 ?_
  refine y_iast C hP hD hS 1 rfl 4 rfl (by decide) (by decide) dX4_init_48 (fun H locs hP hD hS => ?_)
  have hP : va_P D vwCl [(a, .inr (4, [.ref q7_0, .ref q15_1, .int (zI 0), .int (zI 1), .int (zI (-6))])), (q7_0, .inl (g 0, 12, .inl (upd (upd (upd (upd (upd (fun _ => zI 0) 0 (zI 1)) 1 (zI 1)) 2 (zI 1)) 3 (zI 1)) 4 (zI 1)))), (q15_1, .inl (g 0, 12, .inl (fun _ => zI 0)))] H := hP
  have hD : va_D A [(a, .inr (4, [.ref q7_0, .ref q15_1, .int (zI 0), .int (zI 1), .int (zI (-6))])), (q7_0, .inl (g 0, 12, .inl (upd (upd (upd (upd (upd (fun _ => zI 0) 0 (zI 1)) 1 (zI 1)) 2 (zI 1)) 3 (zI 1)) 4 (zI 1)))), (q15_1, .inl (g 0, 12, .inl (fun _ => zI 0)))] := hD
  refine z_iinc C hl 0 rfl [(1, .int (zI 5)), (0, .ref a)] (by decide) rfl dX4_init_49 (fun ls hl => ?_)
  refine z_goto C 33 (by decide) dX4_init_52 ?_
  refine z_iln C hl 0 rfl dX4_init_33 ?_
  refine z_aln C hl 1 rfl dX4_init_34 ?_
  refine y_get (kf := 0) C hP 0 rfl (ci := 4) rfl inX4 (by decide) rfl wg_34 rfl dX4_init_35 ?_
  refine y_alen C hP 1 rfl dX4_init_38 ?_
  refine z_icmp_ge C 55 (by decide) ⟨by decide, by decide⟩ ⟨by decide, by decide⟩ dX4_init_39 (fun h => absurd h (by decide)) (fun _ => ?_)
  refine z_aln C hl 1 rfl dX4_init_42 ?_
  refine y_get (kf := 0) C hP 0 rfl (ci := 4) rfl inX4 (by decide) rfl wg_34 rfl dX4_init_43 ?_
  refine z_iln C hl 0 rfl dX4_init_46 ?_
  refine z_ic C dX4_init_47 ?_
  refine y_iast C hP hD hS 1 rfl 5 rfl (by decide) (by decide) dX4_init_48 (fun H locs hP hD hS => ?_)
  have hP : va_P D vwCl [(a, .inr (4, [.ref q7_0, .ref q15_1, .int (zI 0), .int (zI 1), .int (zI (-6))])), (q7_0, .inl (g 0, 12, .inl (upd (upd (upd (upd (upd (upd (fun _ => zI 0) 0 (zI 1)) 1 (zI 1)) 2 (zI 1)) 3 (zI 1)) 4 (zI 1)) 5 (zI 1)))), (q15_1, .inl (g 0, 12, .inl (fun _ => zI 0)))] H := hP
  have hD : va_D A [(a, .inr (4, [.ref q7_0, .ref q15_1, .int (zI 0), .int (zI 1), .int (zI (-6))])), (q7_0, .inl (g 0, 12, .inl (upd (upd (upd (upd (upd (upd (fun _ => zI 0) 0 (zI 1)) 1 (zI 1)) 2 (zI 1)) 3 (zI 1)) 4 (zI 1)) 5 (zI 1)))), (q15_1, .inl (g 0, 12, .inl (fun _ => zI 0)))] := hD
  refine z_iinc C hl 0 rfl [(1, .int (zI 6)), (0, .ref a)] (by decide) rfl dX4_init_49 (fun ls hl => ?_)
  refine z_goto C 33 (by decide) dX4_init_52 ?_
  refine z_iln C hl 0 rfl dX4_init_33 ?_
  refine z_aln C hl 1 rfl dX4_init_34 ?_
  refine y_get (kf := 0) C hP 0 rfl (ci := 4) rfl inX4 (by decide) rfl wg_34 rfl dX4_init_35 ?_
  refine y_alen C hP 1 rfl dX4_init_38 ?_
  refine z_icmp_ge C 55 (by decide) ⟨by decide, by decide⟩ ⟨by decide, by decide⟩ dX4_init_39 (fun h => absurd h (by decide)) (fun _ => ?_)
  refine z_aln C hl 1 rfl dX4_init_42 ?_
  refine y_get (kf := 0) C hP 0 rfl (ci := 4) rfl inX4 (by decide) rfl wg_34 rfl dX4_init_43 ?_
  refine z_iln C hl 0 rfl dX4_init_46 ?_
  refine z_ic C dX4_init_47 ?_
  refine y_iast C hP hD hS 1 rfl 6 rfl (by decide) (by decide) dX4_init_48 (fun H locs hP hD hS => ?_)
  have hP : va_P D vwCl [(a, .inr (4, [.ref q7_0, .ref q15_1, .int (zI 0), .int (zI 1), .int (zI (-6))])), (q7_0, .inl (g 0, 12, .inl (upd (upd (upd (upd (upd (upd (upd (fun _ => zI 0) 0 (zI 1)) 1 (zI 1)) 2 (zI 1)) 3 (zI 1)) 4 (zI 1)) 5 (zI 1)) 6 (zI 1)))), (q15_1, .inl (g 0, 12, .inl (fun _ => zI 0)))] H := hP
  have hD : va_D A [(a, .inr (4, [.ref q7_0, .ref q15_1, .int (zI 0), .int (zI 1), .int (zI (-6))])), (q7_0, .inl (g 0, 12, .inl (upd (upd (upd (upd (upd (upd (upd (fun _ => zI 0) 0 (zI 1)) 1 (zI 1)) 2 (zI 1)) 3 (zI 1)) 4 (zI 1)) 5 (zI 1)) 6 (zI 1)))), (q15_1, .inl (g 0, 12, .inl (fun _ => zI 0)))] := hD
  refine z_iinc C hl 0 rfl [(1, .int (zI 7)), (0, .ref a)] (by decide) rfl dX4_init_49 (fun ls hl => ?_)
  refine z_goto C 33 (by decide) dX4_init_52 ?_
  refine z_iln C hl 0 rfl dX4_init_33 ?_
  refine z_aln C hl 1 rfl dX4_init_34 ?_
  refine y_get (kf := 0) C hP 0 rfl (ci := 4) rfl inX4 (by decide) rfl wg_34 rfl dX4_init_35 ?_
  refine y_alen C hP 1 rfl dX4_init_38 ?_
  refine z_icmp_ge C 55 (by decide) ⟨by decide, by decide⟩ ⟨by decide, by decide⟩ dX4_init_39 (fun h => absurd h (by decide)) (fun _ => ?_)
  refine z_aln C hl 1 rfl dX4_init_42 ?_
  refine y_get (kf := 0) C hP 0 rfl (ci := 4) rfl inX4 (by decide) rfl wg_34 rfl dX4_init_43 ?_
  refine z_iln C hl 0 rfl dX4_init_46 ?_
  refine z_ic C dX4_init_47 ?_
  refine y_iast C hP hD hS 1 rfl 7 rfl (by decide) (by decide) dX4_init_48 (fun H locs hP hD hS => ?_)
  have hP : va_P D vwCl [(a, .inr (4, [.ref q7_0, .ref q15_1, .int (zI 0), .int (zI 1), .int (zI (-6))])), (q7_0, .inl (g 0, 12, .inl (upd (upd (upd (upd (upd (upd (upd (upd (fun _ => zI 0) 0 (zI 1)) 1 (zI 1)) 2 (zI 1)) 3 (zI 1)) 4 (zI 1)) 5 (zI 1)) 6 (zI 1)) 7 (zI 1)))), (q15_1, .inl (g 0, 12, .inl (fun _ => zI 0)))] H := hP
  have hD : va_D A [(a, .inr (4, [.ref q7_0, .ref q15_1, .int (zI 0), .int (zI 1), .int (zI (-6))])), (q7_0, .inl (g 0, 12, .inl (upd (upd (upd (upd (upd (upd (upd (upd (fun _ => zI 0) 0 (zI 1)) 1 (zI 1)) 2 (zI 1)) 3 (zI 1)) 4 (zI 1)) 5 (zI 1)) 6 (zI 1)) 7 (zI 1)))), (q15_1, .inl (g 0, 12, .inl (fun _ => zI 0)))] := hD
  refine z_iinc C hl 0 rfl [(1, .int (zI 8)), (0, .ref a)] (by decide) rfl dX4_init_49 (fun ls hl => ?_)
  refine z_goto C 33 (by decide) dX4_init_52 ?_
  refine z_iln C hl 0 rfl dX4_init_33 ?_
  refine z_aln C hl 1 rfl dX4_init_34 ?_
  refine y_get (kf := 0) C hP 0 rfl (ci := 4) rfl inX4 (by decide) rfl wg_34 rfl dX4_init_35 ?_
  refine y_alen C hP 1 rfl dX4_init_38 ?_
  refine z_icmp_ge C 55 (by decide) ⟨by decide, by decide⟩ ⟨by decide, by decide⟩ dX4_init_39 (fun h => absurd h (by decide)) (fun _ => ?_)
  refine z_aln C hl 1 rfl dX4_init_42 ?_
  refine y_get (kf := 0) C hP 0 rfl (ci := 4) rfl inX4 (by decide) rfl wg_34 rfl dX4_init_43 ?_
  refine z_iln C hl 0 rfl dX4_init_46 ?_
  refine z_ic C dX4_init_47 ?_
  refine y_iast C hP hD hS 1 rfl 8 rfl (by decide) (by decide) dX4_init_48 (fun H locs hP hD hS => ?_)
  have hP : va_P D vwCl [(a, .inr (4, [.ref q7_0, .ref q15_1, .int (zI 0), .int (zI 1), .int (zI (-6))])), (q7_0, .inl (g 0, 12, .inl (upd (upd (upd (upd (upd (upd (upd (upd (upd (fun _ => zI 0) 0 (zI 1)) 1 (zI 1)) 2 (zI 1)) 3 (zI 1)) 4 (zI 1)) 5 (zI 1)) 6 (zI 1)) 7 (zI 1)) 8 (zI 1)))), (q15_1, .inl (g 0, 12, .inl (fun _ => zI 0)))] H := hP
  have hD : va_D A [(a, .inr (4, [.ref q7_0, .ref q15_1, .int (zI 0), .int (zI 1), .int (zI (-6))])), (q7_0, .inl (g 0, 12, .inl (upd (upd (upd (upd (upd (upd (upd (upd (upd (fun _ => zI 0) 0 (zI 1)) 1 (zI 1)) 2 (zI 1)) 3 (zI 1)) 4 (zI 1)) 5 (zI 1)) 6 (zI 1)) 7 (zI 1)) 8 (zI 1)))), (q15_1, .inl (g 0, 12, .inl (fun _ => zI 0)))] := hD
  refine z_iinc C hl 0 rfl [(1, .int (zI 9)), (0, .ref a)] (by decide) rfl dX4_init_49 (fun ls hl => ?_)
  refine z_goto C 33 (by decide) dX4_init_52 ?_
  refine z_iln C hl 0 rfl dX4_init_33 ?_
  refine z_aln C hl 1 rfl dX4_init_34 ?_
  refine y_get (kf := 0) C hP 0 rfl (ci := 4) rfl inX4 (by decide) rfl wg_34 rfl dX4_init_35 ?_
  refine y_alen C hP 1 rfl dX4_init_38 ?_
  refine z_icmp_ge C 55 (by decide) ⟨by decide, by decide⟩ ⟨by decide, by decide⟩ dX4_init_39 (fun h => absurd h (by decide)) (fun _ => ?_)
  refine z_aln C hl 1 rfl dX4_init_42 ?_
  refine y_get (kf := 0) C hP 0 rfl (ci := 4) rfl inX4 (by decide) rfl wg_34 rfl dX4_init_43 ?_
  refine z_iln C hl 0 rfl dX4_init_46 ?_
  refine z_ic C dX4_init_47 ?_
  refine y_iast C hP hD hS 1 rfl 9 rfl (by decide) (by decide) dX4_init_48 (fun H locs hP hD hS => ?_)
  have hP : va_P D vwCl [(a, .inr (4, [.ref q7_0, .ref q15_1, .int (zI 0), .int (zI 1), .int (zI (-6))])), (q7_0, .inl (g 0, 12, .inl (upd (upd (upd (upd (upd (upd (upd (upd (upd (upd (fun _ => zI 0) 0 (zI 1)) 1 (zI 1)) 2 (zI 1)) 3 (zI 1)) 4 (zI 1)) 5 (zI 1)) 6 (zI 1)) 7 (zI 1)) 8 (zI 1)) 9 (zI 1)))), (q15_1, .inl (g 0, 12, .inl (fun _ => zI 0)))] H := hP
  have hD : va_D A [(a, .inr (4, [.ref q7_0, .ref q15_1, .int (zI 0), .int (zI 1), .int (zI (-6))])), (q7_0, .inl (g 0, 12, .inl (upd (upd (upd (upd (upd (upd (upd (upd (upd (upd (fun _ => zI 0) 0 (zI 1)) 1 (zI 1)) 2 (zI 1)) 3 (zI 1)) 4 (zI 1)) 5 (zI 1)) 6 (zI 1)) 7 (zI 1)) 8 (zI 1)) 9 (zI 1)))), (q15_1, .inl (g 0, 12, .inl (fun _ => zI 0)))] := hD
  refine z_iinc C hl 0 rfl [(1, .int (zI 10)), (0, .ref a)] (by decide) rfl dX4_init_49 (fun ls hl => ?_)
  refine z_goto C 33 (by decide) dX4_init_52 ?_
  refine z_iln C hl 0 rfl dX4_init_33 ?_
  refine z_aln C hl 1 rfl dX4_init_34 ?_
  refine y_get (kf := 0) C hP 0 rfl (ci := 4) rfl inX4 (by decide) rfl wg_34 rfl dX4_init_35 ?_
  refine y_alen C hP 1 rfl dX4_init_38 ?_
  refine z_icmp_ge C 55 (by decide) ⟨by decide, by decide⟩ ⟨by decide, by decide⟩ dX4_init_39 (fun h => absurd h (by decide)) (fun _ => ?_)
  refine z_aln C hl 1 rfl dX4_init_42 ?_
  refine y_get (kf := 0) C hP 0 rfl (ci := 4) rfl inX4 (by decide) rfl wg_34 rfl dX4_init_43 ?_
  refine z_iln C hl 0 rfl dX4_init_46 ?_
  refine z_ic C dX4_init_47 ?_
  refine y_iast C hP hD hS 1 rfl 10 rfl (by decide) (by decide) dX4_init_48 (fun H locs hP hD hS => ?_)
  have hP : va_P D vwCl [(a, .inr (4, [.ref q7_0, .ref q15_1, .int (zI 0), .int (zI 1), .int (zI (-6))])), (q7_0, .inl (g 0, 12, .inl (upd (upd (upd (upd (upd (upd (upd (upd (upd (upd (upd (fun _ => zI 0) 0 (zI 1)) 1 (zI 1)) 2 (zI 1)) 3 (zI 1)) 4 (zI 1)) 5 (zI 1)) 6 (zI 1)) 7 (zI 1)) 8 (zI 1)) 9 (zI 1)) 10 (zI 1)))), (q15_1, .inl (g 0, 12, .inl (fun _ => zI 0)))] H := hP
  have hD : va_D A [(a, .inr (4, [.ref q7_0, .ref q15_1, .int (zI 0), .int (zI 1), .int (zI (-6))])), (q7_0, .inl (g 0, 12, .inl (upd (upd (upd (upd (upd (upd (upd (upd (upd (upd (upd (fun _ => zI 0) 0 (zI 1)) 1 (zI 1)) 2 (zI 1)) 3 (zI 1)) 4 (zI 1)) 5 (zI 1)) 6 (zI 1)) 7 (zI 1)) 8 (zI 1)) 9 (zI 1)) 10 (zI 1)))), (q15_1, .inl (g 0, 12, .inl (fun _ => zI 0)))] := hD
  refine z_iinc C hl 0 rfl [(1, .int (zI 11)), (0, .ref a)] (by decide) rfl dX4_init_49 (fun ls hl => ?_)
  refine z_goto C 33 (by decide) dX4_init_52 ?_
  refine z_iln C hl 0 rfl dX4_init_33 ?_
  refine z_aln C hl 1 rfl dX4_init_34 ?_
  refine y_get (kf := 0) C hP 0 rfl (ci := 4) rfl inX4 (by decide) rfl wg_34 rfl dX4_init_35 ?_
  refine y_alen C hP 1 rfl dX4_init_38 ?_
  refine z_icmp_ge C 55 (by decide) ⟨by decide, by decide⟩ ⟨by decide, by decide⟩ dX4_init_39 (fun h => absurd h (by decide)) (fun _ => ?_)
  refine z_aln C hl 1 rfl dX4_init_42 ?_
  refine y_get (kf := 0) C hP 0 rfl (ci := 4) rfl inX4 (by decide) rfl wg_34 rfl dX4_init_43 ?_
  refine z_iln C hl 0 rfl dX4_init_46 ?_
  refine z_ic C dX4_init_47 ?_
  refine y_iast C hP hD hS 1 rfl 11 rfl (by decide) (by decide) dX4_init_48 (fun H locs hP hD hS => ?_)
  have hP : va_P D vwCl [(a, .inr (4, [.ref q7_0, .ref q15_1, .int (zI 0), .int (zI 1), .int (zI (-6))])), (q7_0, .inl (g 0, 12, .inl (upd (upd (upd (upd (upd (upd (upd (upd (upd (upd (upd (upd (fun _ => zI 0) 0 (zI 1)) 1 (zI 1)) 2 (zI 1)) 3 (zI 1)) 4 (zI 1)) 5 (zI 1)) 6 (zI 1)) 7 (zI 1)) 8 (zI 1)) 9 (zI 1)) 10 (zI 1)) 11 (zI 1)))), (q15_1, .inl (g 0, 12, .inl (fun _ => zI 0)))] H := hP
  have hD : va_D A [(a, .inr (4, [.ref q7_0, .ref q15_1, .int (zI 0), .int (zI 1), .int (zI (-6))])), (q7_0, .inl (g 0, 12, .inl (upd (upd (upd (upd (upd (upd (upd (upd (upd (upd (upd (upd (fun _ => zI 0) 0 (zI 1)) 1 (zI 1)) 2 (zI 1)) 3 (zI 1)) 4 (zI 1)) 5 (zI 1)) 6 (zI 1)) 7 (zI 1)) 8 (zI 1)) 9 (zI 1)) 10 (zI 1)) 11 (zI 1)))), (q15_1, .inl (g 0, 12, .inl (fun _ => zI 0)))] := hD
  refine z_iinc C hl 0 rfl [(1, .int (zI 12)), (0, .ref a)] (by decide) rfl dX4_init_49 (fun ls hl => ?_)
  refine z_goto C 33 (by decide) dX4_init_52 ?_
  refine z_iln C hl 0 rfl dX4_init_33 ?_
  refine z_aln C hl 1 rfl dX4_init_34 ?_
  refine y_get (kf := 0) C hP 0 rfl (ci := 4) rfl inX4 (by decide) rfl wg_34 rfl dX4_init_35 ?_
  refine y_alen C hP 1 rfl dX4_init_38 ?_
  refine z_icmp_ge C 55 (by decide) ⟨by decide, by decide⟩ ⟨by decide, by decide⟩ dX4_init_39 (fun _ => ?_) (fun h => absurd (by decide) h)
  obtain ⟨hP, hD⟩ := y_chg (f' := fun _ => zI 1) 1 hP hD rfl (fun h => va_atf h (fun j hj => match j, hj with | 0, _ => rfl | 1, _ => rfl | 2, _ => rfl | 3, _ => rfl | 4, _ => rfl | 5, _ => rfl | 6, _ => rfl | 7, _ => rfl | 8, _ => rfl | 9, _ => rfl | 10, _ => rfl | 11, _ => rfl | (n + 12), h => absurd h (by omega)))
  have hP : va_P D vwCl [(a, .inr (4, [.ref q7_0, .ref q15_1, .int (zI 0), .int (zI 1), .int (zI (-6))])), (q7_0, .inl (g 0, 12, .inl (fun _ => zI 1))), (q15_1, .inl (g 0, 12, .inl (fun _ => zI 0)))] H := hP
  have hD : va_D A [(a, .inr (4, [.ref q7_0, .ref q15_1, .int (zI 0), .int (zI 1), .int (zI (-6))])), (q7_0, .inl (g 0, 12, .inl (fun _ => zI 1))), (q15_1, .inl (g 0, 12, .inl (fun _ => zI 0)))] := hD
  exact y_ret B (fun i => ([q7_0, q15_1] : List Nat).getD i 0) hP hD hS dX4_init_55
def WX3_init (g : Nat → ClassId) (a : Nat) (x : Nat → Nat) : va_W := [(a, .inr (3, [.ref (x 0), .ref (x 1), .int (zI 0)])), ((x 0), .inl (g 0, 6, .inl (fun _ => zI 0))), ((x 1), .inl (g 0, 6, .inl (fun _ => zI 0)))]
set_option maxHeartbeats 4000000 in
set_option maxRecDepth 100000 in
theorem M_X3_init (l : Launch) (D : va_G) (g : Nat → ClassId) (a : Nat) : MK l yX3_init cX3_init 1 1 12 2 12 D g a [] 3 [.null, .null, .int (zI 0)] (WX3_init g a) := by
  refine MK.intro (by decide +kernel) (Nat.le_of_ble_eq_true rfl) ?_
  intro A p e s m args below meth c ls B hKA hm hP hD hS hA hl
  have C : Cx D g RX3 cX3_init 1 p s m args c := B.1
  have hl : lv_has ls 1 [(0, .ref a)] := hl
  refine z_aln C hl 0 rfl dX3_init_0 ?_
  refine y_oinit C hl wg_74 dX3_init_1 ⟨(Nat.le_of_ble_eq_true rfl), (Nat.le_of_ble_eq_true rfl)⟩ ?_
  refine z_aln C hl 0 rfl dX3_init_4 ?_
  refine z_bp C dX3_init_5 rfl ?_
  refine y_newa C hP hD hS hA 6 rfl (by decide) (Nat.le_of_ble_eq_true rfl) (Nat.le_of_ble_eq_true rfl) dX3_init_7 (fun q7_0 H hP hD hS => ?_)
  have hP : va_P D vwCl [(a, .inr (3, [.null, .null, .int (zI 0)])), (q7_0, .inl (g 0, 6, .inl (fun _ => zI 0)))] H := hP
  have hD : va_D A [(a, .inr (3, [.null, .null, .int (zI 0)])), (q7_0, .inl (g 0, 6, .inl (fun _ => zI 0)))] := hD
  refine y_putF (kf := 0) (ty := (.array .int)) C hm hP hD hS 0 rfl (ci := 3) rfl inX3 tyX3_ok nmX3 (by decide) rfl rfl (by decide +kernel) rfl rfl (Nat.le_of_ble_eq_true rfl) wg_75 dX3_init_9 (fun H locs hP hD hS => ?_)
  have hP : va_P D vwCl [(a, .inr (3, [.ref q7_0, .null, .int (zI 0)])), (q7_0, .inl (g 0, 6, .inl (fun _ => zI 0)))] H := hP
  have hD : va_D A [(a, .inr (3, [.ref q7_0, .null, .int (zI 0)])), (q7_0, .inl (g 0, 6, .inl (fun _ => zI 0)))] := hD
  refine z_aln C hl 0 rfl dX3_init_12 ?_
  refine z_bp C dX3_init_13 rfl ?_
  refine y_newa C hP hD hS hA 6 rfl (by decide) (Nat.le_of_ble_eq_true rfl) (Nat.le_of_ble_eq_true rfl) dX3_init_15 (fun q15_1 H hP hD hS => ?_)
  have hP : va_P D vwCl [(a, .inr (3, [.ref q7_0, .null, .int (zI 0)])), (q7_0, .inl (g 0, 6, .inl (fun _ => zI 0))), (q15_1, .inl (g 0, 6, .inl (fun _ => zI 0)))] H := hP
  have hD : va_D A [(a, .inr (3, [.ref q7_0, .null, .int (zI 0)])), (q7_0, .inl (g 0, 6, .inl (fun _ => zI 0))), (q15_1, .inl (g 0, 6, .inl (fun _ => zI 0)))] := hD
  refine y_putF (kf := 1) (ty := (.array .int)) C hm hP hD hS 0 rfl (ci := 3) rfl inX3 tyX3_ok nmX3 (by decide) rfl rfl (by decide +kernel) rfl rfl (Nat.le_of_ble_eq_true rfl) wg_76 dX3_init_17 (fun H locs hP hD hS => ?_)
  have hP : va_P D vwCl [(a, .inr (3, [.ref q7_0, .ref q15_1, .int (zI 0)])), (q7_0, .inl (g 0, 6, .inl (fun _ => zI 0))), (q15_1, .inl (g 0, 6, .inl (fun _ => zI 0)))] H := hP
  have hD : va_D A [(a, .inr (3, [.ref q7_0, .ref q15_1, .int (zI 0)])), (q7_0, .inl (g 0, 6, .inl (fun _ => zI 0))), (q15_1, .inl (g 0, 6, .inl (fun _ => zI 0)))] := hD
  exact y_ret B (fun i => ([q7_0, q15_1] : List Nat).getD i 0) hP hD hS dX3_init_20
def WX5_init (g : Nat → ClassId) (a : Nat) (x : Nat → Nat) : va_W := [(a, .inr (5, [.ref (x 0), .int (zI 0)])), ((x 0), .inl (g 0, 30, .inl (fun _ => zI 0)))]
set_option maxHeartbeats 4000000 in
set_option maxRecDepth 100000 in
theorem M_X5_init (l : Launch) (D : va_G) (g : Nat → ClassId) (a : Nat) : MK l yX5_init cX5_init 1 1 12 1 30 D g a [] 5 [.null, .int (zI 0)] (WX5_init g a) := by
  refine MK.intro (by decide +kernel) (Nat.le_of_ble_eq_true rfl) ?_
  intro A p e s m args below meth c ls B hKA hm hP hD hS hA hl
  have C : Cx D g RX5 cX5_init 1 p s m args c := B.1
  have hl : lv_has ls 1 [(0, .ref a)] := hl
  refine z_aln C hl 0 rfl dX5_init_0 ?_
  refine y_oinit C hl wg_132 dX5_init_1 ⟨(Nat.le_of_ble_eq_true rfl), (Nat.le_of_ble_eq_true rfl)⟩ ?_
  refine z_aln C hl 0 rfl dX5_init_4 ?_
  refine z_bp C dX5_init_5 rfl ?_
  refine y_newa C hP hD hS hA 30 rfl (by decide) (Nat.le_of_ble_eq_true rfl) (Nat.le_of_ble_eq_true rfl) dX5_init_7 (fun q7_0 H hP hD hS => ?_)
  have hP : va_P D vwCl [(a, .inr (5, [.null, .int (zI 0)])), (q7_0, .inl (g 0, 30, .inl (fun _ => zI 0)))] H := hP
  have hD : va_D A [(a, .inr (5, [.null, .int (zI 0)])), (q7_0, .inl (g 0, 30, .inl (fun _ => zI 0)))] := hD
  refine y_putF (kf := 0) (ty := (.array .int)) C hm hP hD hS 0 rfl (ci := 5) rfl inX5 tyX5_ok nmX5 (by decide) rfl rfl (by decide +kernel) rfl rfl (Nat.le_of_ble_eq_true rfl) wg_133 dX5_init_9 (fun H locs hP hD hS => ?_)
  have hP : va_P D vwCl [(a, .inr (5, [.ref q7_0, .int (zI 0)])), (q7_0, .inl (g 0, 30, .inl (fun _ => zI 0)))] H := hP
  have hD : va_D A [(a, .inr (5, [.ref q7_0, .int (zI 0)])), (q7_0, .inl (g 0, 30, .inl (fun _ => zI 0)))] := hD
  exact y_ret B (fun i => ([q7_0] : List Nat).getD i 0) hP hD hS dX5_init_12
def WX0_init (g : Nat → ClassId) (a : Nat) (x : Nat → Nat) : va_W := [(a, .inr (0, [.ref (x 0), .ref (x 1), .ref (x 2), .ref (x 3), .int (zI 0)])), ((x 0), .inl (g 0, 8, .inl (fun _ => zI 0))), ((x 1), .inl (g 0, 8, .inl (fun _ => zI 0))), ((x 2), .inl (g 0, 8, .inl (fun _ => zI 0))), ((x 3), .inl (g 0, 8, .inl (fun _ => zI 0)))]
set_option maxHeartbeats 4000000 in
set_option maxRecDepth 100000 in
theorem M_X0_init (l : Launch) (D : va_G) (g : Nat → ClassId) (a : Nat) : MK l yX0_init cX0_init 1 1 12 4 32 D g a [] 0 [.null, .null, .null, .null, .int (zI 0)] (WX0_init g a) := by
  refine MK.intro (by decide +kernel) (Nat.le_of_ble_eq_true rfl) ?_
  intro A p e s m args below meth c ls B hKA hm hP hD hS hA hl
  have C : Cx D g RX0 cX0_init 1 p s m args c := B.1
  have hl : lv_has ls 1 [(0, .ref a)] := hl
  refine z_aln C hl 0 rfl dX0_init_0 ?_
  refine y_oinit C hl wg_148 dX0_init_1 ⟨(Nat.le_of_ble_eq_true rfl), (Nat.le_of_ble_eq_true rfl)⟩ ?_
  refine z_aln C hl 0 rfl dX0_init_4 ?_
  refine z_bp C dX0_init_5 rfl ?_
  refine y_newa C hP hD hS hA 8 rfl (by decide) (Nat.le_of_ble_eq_true rfl) (Nat.le_of_ble_eq_true rfl) dX0_init_7 (fun q7_0 H hP hD hS => ?_)
  have hP : va_P D vwCl [(a, .inr (0, [.null, .null, .null, .null, .int (zI 0)])), (q7_0, .inl (g 0, 8, .inl (fun _ => zI 0)))] H := hP
  have hD : va_D A [(a, .inr (0, [.null, .null, .null, .null, .int (zI 0)])), (q7_0, .inl (g 0, 8, .inl (fun _ => zI 0)))] := hD
  refine y_putF (kf := 0) (ty := (.array .int)) C hm hP hD hS 0 rfl (ci := 0) rfl inX0 tyX0_ok nmX0 (by decide) rfl rfl (by decide +kernel) rfl rfl (Nat.le_of_ble_eq_true rfl) wg_149 dX0_init_9 (fun H locs hP hD hS => ?_)
  have hP : va_P D vwCl [(a, .inr (0, [.ref q7_0, .null, .null, .null, .int (zI 0)])), (q7_0, .inl (g 0, 8, .inl (fun _ => zI 0)))] H := hP
  have hD : va_D A [(a, .inr (0, [.ref q7_0, .null, .null, .null, .int (zI 0)])), (q7_0, .inl (g 0, 8, .inl (fun _ => zI 0)))] := hD
  refine z_aln C hl 0 rfl dX0_init_12 ?_
  refine z_bp C dX0_init_13 rfl ?_
  refine y_newa C hP hD hS hA 8 rfl (by decide) (Nat.le_of_ble_eq_true rfl) (Nat.le_of_ble_eq_true rfl) dX0_init_15 (fun q15_1 H hP hD hS => ?_)
  have hP : va_P D vwCl [(a, .inr (0, [.ref q7_0, .null, .null, .null, .int (zI 0)])), (q7_0, .inl (g 0, 8, .inl (fun _ => zI 0))), (q15_1, .inl (g 0, 8, .inl (fun _ => zI 0)))] H := hP
  have hD : va_D A [(a, .inr (0, [.ref q7_0, .null, .null, .null, .int (zI 0)])), (q7_0, .inl (g 0, 8, .inl (fun _ => zI 0))), (q15_1, .inl (g 0, 8, .inl (fun _ => zI 0)))] := hD
  refine y_putF (kf := 1) (ty := (.array .int)) C hm hP hD hS 0 rfl (ci := 0) rfl inX0 tyX0_ok nmX0 (by decide) rfl rfl (by decide +kernel) rfl rfl (Nat.le_of_ble_eq_true rfl) wg_151 dX0_init_17 (fun H locs hP hD hS => ?_)
  have hP : va_P D vwCl [(a, .inr (0, [.ref q7_0, .ref q15_1, .null, .null, .int (zI 0)])), (q7_0, .inl (g 0, 8, .inl (fun _ => zI 0))), (q15_1, .inl (g 0, 8, .inl (fun _ => zI 0)))] H := hP
  have hD : va_D A [(a, .inr (0, [.ref q7_0, .ref q15_1, .null, .null, .int (zI 0)])), (q7_0, .inl (g 0, 8, .inl (fun _ => zI 0))), (q15_1, .inl (g 0, 8, .inl (fun _ => zI 0)))] := hD
  refine z_aln C hl 0 rfl dX0_init_20 ?_
  refine z_bp C dX0_init_21 rfl ?_
  refine y_newa C hP hD hS hA 8 rfl (by decide) (Nat.le_of_ble_eq_true rfl) (Nat.le_of_ble_eq_true rfl) dX0_init_23 (fun q23_2 H hP hD hS => ?_)
  have hP : va_P D vwCl [(a, .inr (0, [.ref q7_0, .ref q15_1, .null, .null, .int (zI 0)])), (q7_0, .inl (g 0, 8, .inl (fun _ => zI 0))), (q15_1, .inl (g 0, 8, .inl (fun _ => zI 0))), (q23_2, .inl (g 0, 8, .inl (fun _ => zI 0)))] H := hP
  have hD : va_D A [(a, .inr (0, [.ref q7_0, .ref q15_1, .null, .null, .int (zI 0)])), (q7_0, .inl (g 0, 8, .inl (fun _ => zI 0))), (q15_1, .inl (g 0, 8, .inl (fun _ => zI 0))), (q23_2, .inl (g 0, 8, .inl (fun _ => zI 0)))] := hD
  refine y_putF (kf := 2) (ty := (.array .int)) C hm hP hD hS 0 rfl (ci := 0) rfl inX0 tyX0_ok nmX0 (by decide) rfl rfl (by decide +kernel) rfl rfl (Nat.le_of_ble_eq_true rfl) wg_152 dX0_init_25 (fun H locs hP hD hS => ?_)
  have hP : va_P D vwCl [(a, .inr (0, [.ref q7_0, .ref q15_1, .ref q23_2, .null, .int (zI 0)])), (q7_0, .inl (g 0, 8, .inl (fun _ => zI 0))), (q15_1, .inl (g 0, 8, .inl (fun _ => zI 0))), (q23_2, .inl (g 0, 8, .inl (fun _ => zI 0)))] H := hP
  have hD : va_D A [(a, .inr (0, [.ref q7_0, .ref q15_1, .ref q23_2, .null, .int (zI 0)])), (q7_0, .inl (g 0, 8, .inl (fun _ => zI 0))), (q15_1, .inl (g 0, 8, .inl (fun _ => zI 0))), (q23_2, .inl (g 0, 8, .inl (fun _ => zI 0)))] := hD
  refine z_aln C hl 0 rfl dX0_init_28 ?_
  refine z_bp C dX0_init_29 rfl ?_
  refine y_newa C hP hD hS hA 8 rfl (by decide) (Nat.le_of_ble_eq_true rfl) (Nat.le_of_ble_eq_true rfl) dX0_init_31 (fun q31_3 H hP hD hS => ?_)
  have hP : va_P D vwCl [(a, .inr (0, [.ref q7_0, .ref q15_1, .ref q23_2, .null, .int (zI 0)])), (q7_0, .inl (g 0, 8, .inl (fun _ => zI 0))), (q15_1, .inl (g 0, 8, .inl (fun _ => zI 0))), (q23_2, .inl (g 0, 8, .inl (fun _ => zI 0))), (q31_3, .inl (g 0, 8, .inl (fun _ => zI 0)))] H := hP
  have hD : va_D A [(a, .inr (0, [.ref q7_0, .ref q15_1, .ref q23_2, .null, .int (zI 0)])), (q7_0, .inl (g 0, 8, .inl (fun _ => zI 0))), (q15_1, .inl (g 0, 8, .inl (fun _ => zI 0))), (q23_2, .inl (g 0, 8, .inl (fun _ => zI 0))), (q31_3, .inl (g 0, 8, .inl (fun _ => zI 0)))] := hD
  refine y_putF (kf := 3) (ty := (.array .int)) C hm hP hD hS 0 rfl (ci := 0) rfl inX0 tyX0_ok nmX0 (by decide) rfl rfl (by decide +kernel) rfl rfl (Nat.le_of_ble_eq_true rfl) wg_153 dX0_init_33 (fun H locs hP hD hS => ?_)
  have hP : va_P D vwCl [(a, .inr (0, [.ref q7_0, .ref q15_1, .ref q23_2, .ref q31_3, .int (zI 0)])), (q7_0, .inl (g 0, 8, .inl (fun _ => zI 0))), (q15_1, .inl (g 0, 8, .inl (fun _ => zI 0))), (q23_2, .inl (g 0, 8, .inl (fun _ => zI 0))), (q31_3, .inl (g 0, 8, .inl (fun _ => zI 0)))] H := hP
  have hD : va_D A [(a, .inr (0, [.ref q7_0, .ref q15_1, .ref q23_2, .ref q31_3, .int (zI 0)])), (q7_0, .inl (g 0, 8, .inl (fun _ => zI 0))), (q15_1, .inl (g 0, 8, .inl (fun _ => zI 0))), (q23_2, .inl (g 0, 8, .inl (fun _ => zI 0))), (q31_3, .inl (g 0, 8, .inl (fun _ => zI 0)))] := hD
  exact y_ret B (fun i => ([q7_0, q15_1, q23_2, q31_3] : List Nat).getD i 0) hP hD hS dX0_init_36
def WX2_init (g : Nat → ClassId) (a : Nat) (x : Nat → Nat) : va_W := [(a, .inr (2, [.ref (x 0), .ref (x 1), .ref (x 2), .int (zI 0)])), ((x 0), .inl (g 0, 8, .inl (fun _ => zI 0))), ((x 1), .inl (g 0, 8, .inl (fun _ => zI 0))), ((x 2), .inl (g 0, 8, .inl (fun _ => zI 0)))]
set_option maxHeartbeats 4000000 in
set_option maxRecDepth 100000 in
theorem M_X2_init (l : Launch) (D : va_G) (g : Nat → ClassId) (a : Nat) : MK l yX2_init cX2_init 1 1 12 3 24 D g a [] 2 [.null, .null, .null, .int (zI 0)] (WX2_init g a) := by
  refine MK.intro (by decide +kernel) (Nat.le_of_ble_eq_true rfl) ?_
  intro A p e s m args below meth c ls B hKA hm hP hD hS hA hl
  have C : Cx D g RX2 cX2_init 1 p s m args c := B.1
  have hl : lv_has ls 1 [(0, .ref a)] := hl
  refine z_aln C hl 0 rfl dX2_init_0 ?_
  refine y_oinit C hl wg_172 dX2_init_1 ⟨(Nat.le_of_ble_eq_true rfl), (Nat.le_of_ble_eq_true rfl)⟩ ?_
  refine z_aln C hl 0 rfl dX2_init_4 ?_
  refine z_bp C dX2_init_5 rfl ?_
  refine y_newa C hP hD hS hA 8 rfl (by decide) (Nat.le_of_ble_eq_true rfl) (Nat.le_of_ble_eq_true rfl) dX2_init_7 (fun q7_0 H hP hD hS => ?_)
  have hP : va_P D vwCl [(a, .inr (2, [.null, .null, .null, .int (zI 0)])), (q7_0, .inl (g 0, 8, .inl (fun _ => zI 0)))] H := hP
  have hD : va_D A [(a, .inr (2, [.null, .null, .null, .int (zI 0)])), (q7_0, .inl (g 0, 8, .inl (fun _ => zI 0)))] := hD
  refine y_putF (kf := 0) (ty := (.array .int)) C hm hP hD hS 0 rfl (ci := 2) rfl inX2 tyX2_ok nmX2 (by decide) rfl rfl (by decide +kernel) rfl rfl (Nat.le_of_ble_eq_true rfl) wg_173 dX2_init_9 (fun H locs hP hD hS => ?_)
  have hP : va_P D vwCl [(a, .inr (2, [.ref q7_0, .null, .null, .int (zI 0)])), (q7_0, .inl (g 0, 8, .inl (fun _ => zI 0)))] H := hP
  have hD : va_D A [(a, .inr (2, [.ref q7_0, .null, .null, .int (zI 0)])), (q7_0, .inl (g 0, 8, .inl (fun _ => zI 0)))] := hD
  refine z_aln C hl 0 rfl dX2_init_12 ?_
  refine z_bp C dX2_init_13 rfl ?_
  refine y_newa C hP hD hS hA 8 rfl (by decide) (Nat.le_of_ble_eq_true rfl) (Nat.le_of_ble_eq_true rfl) dX2_init_15 (fun q15_1 H hP hD hS => ?_)
  have hP : va_P D vwCl [(a, .inr (2, [.ref q7_0, .null, .null, .int (zI 0)])), (q7_0, .inl (g 0, 8, .inl (fun _ => zI 0))), (q15_1, .inl (g 0, 8, .inl (fun _ => zI 0)))] H := hP
  have hD : va_D A [(a, .inr (2, [.ref q7_0, .null, .null, .int (zI 0)])), (q7_0, .inl (g 0, 8, .inl (fun _ => zI 0))), (q15_1, .inl (g 0, 8, .inl (fun _ => zI 0)))] := hD
  refine y_putF (kf := 1) (ty := (.array .int)) C hm hP hD hS 0 rfl (ci := 2) rfl inX2 tyX2_ok nmX2 (by decide) rfl rfl (by decide +kernel) rfl rfl (Nat.le_of_ble_eq_true rfl) wg_174 dX2_init_17 (fun H locs hP hD hS => ?_)
  have hP : va_P D vwCl [(a, .inr (2, [.ref q7_0, .ref q15_1, .null, .int (zI 0)])), (q7_0, .inl (g 0, 8, .inl (fun _ => zI 0))), (q15_1, .inl (g 0, 8, .inl (fun _ => zI 0)))] H := hP
  have hD : va_D A [(a, .inr (2, [.ref q7_0, .ref q15_1, .null, .int (zI 0)])), (q7_0, .inl (g 0, 8, .inl (fun _ => zI 0))), (q15_1, .inl (g 0, 8, .inl (fun _ => zI 0)))] := hD
  refine z_aln C hl 0 rfl dX2_init_20 ?_
  refine z_bp C dX2_init_21 rfl ?_
  refine y_newa C hP hD hS hA 8 rfl (by decide) (Nat.le_of_ble_eq_true rfl) (Nat.le_of_ble_eq_true rfl) dX2_init_23 (fun q23_2 H hP hD hS => ?_)
  have hP : va_P D vwCl [(a, .inr (2, [.ref q7_0, .ref q15_1, .null, .int (zI 0)])), (q7_0, .inl (g 0, 8, .inl (fun _ => zI 0))), (q15_1, .inl (g 0, 8, .inl (fun _ => zI 0))), (q23_2, .inl (g 0, 8, .inl (fun _ => zI 0)))] H := hP
  have hD : va_D A [(a, .inr (2, [.ref q7_0, .ref q15_1, .null, .int (zI 0)])), (q7_0, .inl (g 0, 8, .inl (fun _ => zI 0))), (q15_1, .inl (g 0, 8, .inl (fun _ => zI 0))), (q23_2, .inl (g 0, 8, .inl (fun _ => zI 0)))] := hD
  refine y_putF (kf := 2) (ty := (.array .int)) C hm hP hD hS 0 rfl (ci := 2) rfl inX2 tyX2_ok nmX2 (by decide) rfl rfl (by decide +kernel) rfl rfl (Nat.le_of_ble_eq_true rfl) wg_175 dX2_init_25 (fun H locs hP hD hS => ?_)
  have hP : va_P D vwCl [(a, .inr (2, [.ref q7_0, .ref q15_1, .ref q23_2, .int (zI 0)])), (q7_0, .inl (g 0, 8, .inl (fun _ => zI 0))), (q15_1, .inl (g 0, 8, .inl (fun _ => zI 0))), (q23_2, .inl (g 0, 8, .inl (fun _ => zI 0)))] H := hP
  have hD : va_D A [(a, .inr (2, [.ref q7_0, .ref q15_1, .ref q23_2, .int (zI 0)])), (q7_0, .inl (g 0, 8, .inl (fun _ => zI 0))), (q15_1, .inl (g 0, 8, .inl (fun _ => zI 0))), (q23_2, .inl (g 0, 8, .inl (fun _ => zI 0)))] := hD
  exact y_ret B (fun i => ([q7_0, q15_1, q23_2] : List Nat).getD i 0) hP hD hS dX2_init_28
def WX7_init (g : Nat → ClassId) (a : Nat) (x : Nat → Nat) : va_W := (((a, .inr (7, [.ref (x 0), .ref (x 1), .int (zI 0)])) :: ((x 0), .inl (g 2, 6, .inr (.inr (.inr (.inr (va_up (va_up (va_up (va_up (va_up (va_up (fun _ => none) 0 (some (x 2))) 1 (some (x 5))) 2 (some (x 8))) 3 (some (x 11))) 4 (some (x 14))) 5 (some (x 17)))))))) :: ((x 1), .inl (g 0, 4, .inl (fun j => zI (if j = 2 then 100 else 0)))) :: ((x 2), .inr (4, [.ref (x 3), .ref (x 4), .int (zI 0), .int (zI 1), .int (zI (-6))])) :: ((x 3), .inl (g 0, 12, .inl (fun _ => zI 1))) :: ((x 4), .inl (g 0, 12, .inl (fun _ => zI 0))) :: ((x 5), .inr (4, [.ref (x 6), .ref (x 7), .int (zI 0), .int (zI 1), .int (zI (-6))])) :: ((x 6), .inl (g 0, 12, .inl (fun _ => zI 1))) :: ((x 7), .inl (g 0, 12, .inl (fun _ => zI 0))) :: ((x 8), .inr (4, [.ref (x 9), .ref (x 10), .int (zI 0), .int (zI 1), .int (zI (-6))])) :: ((x 9), .inl (g 0, 12, .inl (fun _ => zI 1))) :: ((x 10), .inl (g 0, 12, .inl (fun _ => zI 0))) :: ((x 11), .inr (4, [.ref (x 12), .ref (x 13), .int (zI 0), .int (zI 1), .int (zI (-6))])) :: ((x 12), .inl (g 0, 12, .inl (fun _ => zI 1))) :: ((x 13), .inl (g 0, 12, .inl (fun _ => zI 0))) :: ((x 14), .inr (4, [.ref (x 15), .ref (x 16), .int (zI 0), .int (zI 1), .int (zI (-6))])) :: ((x 15), .inl (g 0, 12, .inl (fun _ => zI 1))) :: ((x 16), .inl (g 0, 12, .inl (fun _ => zI 0))) :: ((x 17), .inr (4, [.ref (x 18), .ref (x 19), .int (zI 0), .int (zI 1), .int (zI (-6))])) :: ((x 18), .inl (g 0, 12, .inl (fun _ => zI 1))) :: ((x 19), .inl (g 0, 12, .inl (fun _ => zI 0))) :: []) : va_W)
set_option maxHeartbeats 4000000 in
set_option maxRecDepth 100000 in
theorem M_X7_init (l : Launch) (D : va_G) (g : Nat → ClassId) (a : Nat) : MK l yX7_init cX7_init 2 2 33 20 184 D g a [] 7 [.null, .null, .int (zI 0)] (WX7_init g a) := by
  refine MK.intro (by decide +kernel) (Nat.le_of_ble_eq_true rfl) ?_
  intro A p e s m args below meth c ls B hKA hm hP hD hS hA hl
  have C : Cx D g RX7 cX7_init 2 p s m args c := B.1
  have hl : lv_has ls 2 [(0, .ref a)] := hl
  refine z_aln C hl 0 rfl dX7_init_0 ?_
  refine y_oinit C hl wg_26 dX7_init_1 ⟨(Nat.le_of_ble_eq_true rfl), (Nat.le_of_ble_eq_true rfl)⟩ ?_
  refine z_aln C hl 0 rfl dX7_init_4 ?_
  refine z_bp C dX7_init_5 rfl ?_
  refine y_newq C 2 rfl hKA.2.1 wg_27 hP hD hS hA 6 rfl (by decide) (Nat.le_of_ble_eq_true rfl) (Nat.le_of_ble_eq_true rfl) dX7_init_7 (fun q7_0 H hP hD hS => ?_)
  have hP : va_P D vwCl [(a, .inr (7, [.null, .null, .int (zI 0)])), (q7_0, .inl (g 2, 6, .inr (.inr (.inr (.inr (fun _ => none))))))] H := hP
  have hD : va_D A [(a, .inr (7, [.null, .null, .int (zI 0)])), (q7_0, .inl (g 2, 6, .inr (.inr (.inr (.inr (fun _ => none))))))] := hD
  refine y_putF (kf := 0) (ty := (.array (.object "HairLine$Runner"))) C hm hP hD hS 0 rfl (ci := 7) rfl inX7 tyX7_ok nmX7 (by decide) rfl rfl (by decide +kernel) rfl rfl (Nat.le_of_ble_eq_true rfl) wg_55 dX7_init_10 (fun H locs hP hD hS => ?_)
  have hP : va_P D vwCl [(a, .inr (7, [.ref q7_0, .null, .int (zI 0)])), (q7_0, .inl (g 2, 6, .inr (.inr (.inr (.inr (fun _ => none))))))] H := hP
  have hD : va_D A [(a, .inr (7, [.ref q7_0, .null, .int (zI 0)])), (q7_0, .inl (g 2, 6, .inr (.inr (.inr (.inr (fun _ => none))))))] := hD
  refine z_aln C hl 0 rfl dX7_init_13 ?_
  refine z_ic C dX7_init_14 ?_
  refine y_newa C hP hD hS hA 4 rfl (by decide) (Nat.le_of_ble_eq_true rfl) (Nat.le_of_ble_eq_true rfl) dX7_init_15 (fun q15_1 H hP hD hS => ?_)
  have hP : va_P D vwCl [(a, .inr (7, [.ref q7_0, .null, .int (zI 0)])), (q7_0, .inl (g 2, 6, .inr (.inr (.inr (.inr (fun _ => none)))))), (q15_1, .inl (g 0, 4, .inl (fun _ => zI 0)))] H := hP
  have hD : va_D A [(a, .inr (7, [.ref q7_0, .null, .int (zI 0)])), (q7_0, .inl (g 2, 6, .inr (.inr (.inr (.inr (fun _ => none)))))), (q15_1, .inl (g 0, 4, .inl (fun _ => zI 0)))] := hD
  refine y_putF (kf := 1) (ty := (.array .int)) C hm hP hD hS 0 rfl (ci := 7) rfl inX7 tyX7_ok nmX7 (by decide) rfl rfl (by decide +kernel) rfl rfl (Nat.le_of_ble_eq_true rfl) wg_57 dX7_init_17 (fun H locs hP hD hS => ?_)
  have hP : va_P D vwCl [(a, .inr (7, [.ref q7_0, .ref q15_1, .int (zI 0)])), (q7_0, .inl (g 2, 6, .inr (.inr (.inr (.inr (fun _ => none)))))), (q15_1, .inl (g 0, 4, .inl (fun _ => zI 0)))] H := hP
  have hD : va_D A [(a, .inr (7, [.ref q7_0, .ref q15_1, .int (zI 0)])), (q7_0, .inl (g 2, 6, .inr (.inr (.inr (.inr (fun _ => none)))))), (q15_1, .inl (g 0, 4, .inl (fun _ => zI 0)))] := hD
  refine z_ic C dX7_init_20 ?_
  refine z_isn C hl [(1, .int (zI 0)), (0, .ref a)] (by decide) rfl dX7_init_21 (fun ls hl => ?_)
  refine z_iln C hl 0 rfl dX7_init_22 ?_
  refine z_bp C dX7_init_23 rfl ?_
  refine z_icmp_ge C 47 (by decide) ⟨by decide, by decide⟩ ⟨by decide, by decide⟩ dX7_init_25 (fun h => absurd h (by decide)) (fun _ => ?_)
  refine z_aln C hl 1 rfl dX7_init_28 ?_
  refine y_get (kf := 0) C hP 0 rfl (ci := 7) rfl inX7 (by decide) rfl wg_55 rfl dX7_init_29 ?_
  refine z_iln C hl 0 rfl dX7_init_32 ?_
  refine y_new C inX4 tyX4 tyX4_ok wg_27 wg_29 wg_3 hP hD hS hA (ci := 4) rfl [.null, .null, .int (zI 0), .int (zI 0), .int (zI 0)] (fun j hj => match j, hj with | 0, _ => rfl | 1, _ => rfl | 2, _ => rfl | 3, _ => rfl | 4, _ => rfl | (n + 5), h => absurd h (by omega)) (Nat.le_of_ble_eq_true rfl) (Nat.le_of_ble_eq_true rfl) dX7_init_33 (fun q33_2 H hP hD hS => ?_)
  have hP : va_P D vwCl [(a, .inr (7, [.ref q7_0, .ref q15_1, .int (zI 0)])), (q7_0, .inl (g 2, 6, .inr (.inr (.inr (.inr (fun _ => none)))))), (q15_1, .inl (g 0, 4, .inl (fun _ => zI 0))), (q33_2, .inr (4, [.null, .null, .int (zI 0), .int (zI 0), .int (zI 0)]))] H := hP
  have hD : va_D A [(a, .inr (7, [.ref q7_0, .ref q15_1, .int (zI 0)])), (q7_0, .inl (g 2, 6, .inr (.inr (.inr (.inr (fun _ => none)))))), (q15_1, .inl (g 0, 4, .inl (fun _ => zI 0))), (q33_2, .inr (4, [.null, .null, .int (zI 0), .int (zI 0), .int (zI 0)]))] := hD
  refine z_dup C rfl dX7_init_36 ?_
  refine y_init (ci := 4) (d0 := [.null, .null, .int (zI 0), .int (zI 0), .int (zI 0)]) (ws := [(a, .inr (7, [.ref q7_0, .ref q15_1, .int (zI 0)])), (q7_0, .inl (g 2, 6, .inr (.inr (.inr (.inr (fun _ => none)))))), (q15_1, .inl (g 0, 4, .inl (fun _ => zI 0)))]) C hKA hP hD hS hA hl (M_X4_init l D g q33_2) rfl wg_32 wg_3 wg_30 wg_31 cw_X4_init ⟨(Nat.le_of_ble_eq_true rfl), (Nat.le_of_ble_eq_true rfl)⟩ ⟨(Nat.le_of_ble_eq_true rfl), (Nat.le_of_ble_eq_true rfl)⟩ (Nat.le_of_ble_eq_true rfl) dX7_init_37 (fun x37_3 H locs hP hD hS => ?_)
  have hP : va_P D vwCl [(a, .inr (7, [.ref q7_0, .ref q15_1, .int (zI 0)])), (q7_0, .inl (g 2, 6, .inr (.inr (.inr (.inr (fun _ => none)))))), (q15_1, .inl (g 0, 4, .inl (fun _ => zI 0))), (q33_2, .inr (4, [.ref (x37_3 0), .ref (x37_3 1), .int (zI 0), .int (zI 1), .int (zI (-6))])), ((x37_3 0), .inl (g 0, 12, .inl (fun _ => zI 1))), ((x37_3 1), .inl (g 0, 12, .inl (fun _ => zI 0)))] H := hP
  have hD : va_D A [(a, .inr (7, [.ref q7_0, .ref q15_1, .int (zI 0)])), (q7_0, .inl (g 2, 6, .inr (.inr (.inr (.inr (fun _ => none)))))), (q15_1, .inl (g 0, 4, .inl (fun _ => zI 0))), (q33_2, .inr (4, [.ref (x37_3 0), .ref (x37_3 1), .int (zI 0), .int (zI 1), .int (zI (-6))])), ((x37_3 0), .inl (g 0, 12, .inl (fun _ => zI 1))), ((x37_3 1), .inl (g 0, 12, .inl (fun _ => zI 0)))] := hD
  refine y_aast C hP hD hS 1 3 2 4 rfl rfl rfl rfl 0 rfl (by decide) (by decide) dX7_init_40 (fun H locs hP hD hS => ?_)
  have hP : va_P D vwCl [(a, .inr (7, [.ref q7_0, .ref q15_1, .int (zI 0)])), (q7_0, .inl (g 2, 6, .inr (.inr (.inr (.inr (va_up (fun _ => none) 0 (some q33_2))))))), (q15_1, .inl (g 0, 4, .inl (fun _ => zI 0))), (q33_2, .inr (4, [.ref (x37_3 0), .ref (x37_3 1), .int (zI 0), .int (zI 1), .int (zI (-6))])), ((x37_3 0), .inl (g 0, 12, .inl (fun _ => zI 1))), ((x37_3 1), .inl (g 0, 12, .inl (fun _ => zI 0)))] H := hP
  have hD : va_D A [(a, .inr (7, [.ref q7_0, .ref q15_1, .int (zI 0)])), (q7_0, .inl (g 2, 6, .inr (.inr (.inr (.inr (va_up (fun _ => none) 0 (some q33_2))))))), (q15_1, .inl (g 0, 4, .inl (fun _ => zI 0))), (q33_2, .inr (4, [.ref (x37_3 0), .ref (x37_3 1), .int (zI 0), .int (zI 1), .int (zI (-6))])), ((x37_3 0), .inl (g 0, 12, .inl (fun _ => zI 1))), ((x37_3 1), .inl (g 0, 12, .inl (fun _ => zI 0)))] := hD
  refine z_iinc C hl 0 rfl [(1, .int (zI 1)), (0, .ref a)] (by decide) rfl dX7_init_41 (fun ls hl => ?_)
  refine z_goto C 22 (by decide) dX7_init_44 ?_
  refine z_iln C hl 0 rfl dX7_init_22 ?_
  refine z_bp C dX7_init_23 rfl ?_
  refine z_icmp_ge C 47 (by decide) ⟨by decide, by decide⟩ ⟨by decide, by decide⟩ dX7_init_25 (fun h => absurd h (by decide)) (fun _ => ?_)
  refine z_aln C hl 1 rfl dX7_init_28 ?_
  refine y_get (kf := 0) C hP 0 rfl (ci := 7) rfl inX7 (by decide) rfl wg_55 rfl dX7_init_29 ?_
  refine z_iln C hl 0 rfl dX7_init_32 ?_
  refine y_new C inX4 tyX4 tyX4_ok wg_27 wg_29 wg_3 hP hD hS hA (ci := 4) rfl [.null, .null, .int (zI 0), .int (zI 0), .int (zI 0)] (fun j hj => match j, hj with | 0, _ => rfl | 1, _ => rfl | 2, _ => rfl | 3, _ => rfl | 4, _ => rfl | (n + 5), h => absurd h (by omega)) (Nat.le_of_ble_eq_true rfl) (Nat.le_of_ble_eq_true rfl) dX7_init_33 (fun q33_4 H hP hD hS => ?_)
  have hP : va_P D vwCl [(a, .inr (7, [.ref q7_0, .ref q15_1, .int (zI 0)])), (q7_0, .inl (g 2, 6, .inr (.inr (.inr (.inr (va_up (fun _ => none) 0 (some q33_2))))))), (q15_1, .inl (g 0, 4, .inl (fun _ => zI 0))), (q33_2, .inr (4, [.ref (x37_3 0), .ref (x37_3 1), .int (zI 0), .int (zI 1), .int (zI (-6))])), ((x37_3 0), .inl (g 0, 12, .inl (fun _ => zI 1))), ((x37_3 1), .inl (g 0, 12, .inl (fun _ => zI 0))), (q33_4, .inr (4, [.null, .null, .int (zI 0), .int (zI 0), .int (zI 0)]))] H := hP
  have hD : va_D A [(a, .inr (7, [.ref q7_0, .ref q15_1, .int (zI 0)])), (q7_0, .inl (g 2, 6, .inr (.inr (.inr (.inr (va_up (fun _ => none) 0 (some q33_2))))))), (q15_1, .inl (g 0, 4, .inl (fun _ => zI 0))), (q33_2, .inr (4, [.ref (x37_3 0), .ref (x37_3 1), .int (zI 0), .int (zI 1), .int (zI (-6))])), ((x37_3 0), .inl (g 0, 12, .inl (fun _ => zI 1))), ((x37_3 1), .inl (g 0, 12, .inl (fun _ => zI 0))), (q33_4, .inr (4, [.null, .null, .int (zI 0), .int (zI 0), .int (zI 0)]))] := hD
  refine z_dup C rfl dX7_init_36 ?_
  refine y_init (ci := 4) (d0 := [.null, .null, .int (zI 0), .int (zI 0), .int (zI 0)]) (ws := [(a, .inr (7, [.ref q7_0, .ref q15_1, .int (zI 0)])), (q7_0, .inl (g 2, 6, .inr (.inr (.inr (.inr (va_up (fun _ => none) 0 (some q33_2))))))), (q15_1, .inl (g 0, 4, .inl (fun _ => zI 0))), (q33_2, .inr (4, [.ref (x37_3 0), .ref (x37_3 1), .int (zI 0), .int (zI 1), .int (zI (-6))])), ((x37_3 0), .inl (g 0, 12, .inl (fun _ => zI 1))), ((x37_3 1), .inl (g 0, 12, .inl (fun _ => zI 0)))]) C hKA hP hD hS hA hl (M_X4_init l D g q33_4) rfl wg_32 wg_3 wg_30 wg_31 cw_X4_init ⟨(Nat.le_of_ble_eq_true rfl), (Nat.le_of_ble_eq_true rfl)⟩ ⟨(Nat.le_of_ble_eq_true rfl), (Nat.le_of_ble_eq_true rfl)⟩ (Nat.le_of_ble_eq_true rfl) dX7_init_37 (fun x37_5 H locs hP hD hS => ?_)
  have hP : va_P D vwCl [(a, .inr (7, [.ref q7_0, .ref q15_1, .int (zI 0)])), (q7_0, .inl (g 2, 6, .inr (.inr (.inr (.inr (va_up (fun _ => none) 0 (some q33_2))))))), (q15_1, .inl (g 0, 4, .inl (fun _ => zI 0))), (q33_2, .inr (4, [.ref (x37_3 0), .ref (x37_3 1), .int (zI 0), .int (zI 1), .int (zI (-6))])), ((x37_3 0), .inl (g 0, 12, .inl (fun _ => zI 1))), ((x37_3 1), .inl (g 0, 12, .inl (fun _ => zI 0))), (q33_4, .inr (4, [.ref (x37_5 0), .ref (x37_5 1), .int (zI 0), .int (zI 1), .int (zI (-6))])), ((x37_5 0), .inl (g 0, 12, .inl (fun _ => zI 1))), ((x37_5 1), .inl (g 0, 12, .inl (fun _ => zI 0)))] H := hP
  have hD : va_D A [(a, .inr (7, [.ref q7_0, .ref q15_1, .int (zI 0)])), (q7_0, .inl (g 2, 6, .inr (.inr (.inr (.inr (va_up (fun _ => none) 0 (some q33_2))))))), (q15_1, .inl (g 0, 4, .inl (fun _ => zI 0))), (q33_2, .inr (4, [.ref (x37_3 0), .ref (x37_3 1), .int (zI 0), .int (zI 1), .int (zI (-6))])), ((x37_3 0), .inl (g 0, 12, .inl (fun _ => zI 1))), ((x37_3 1), .inl (g 0, 12, .inl (fun _ => zI 0))), (q33_4, .inr (4, [.ref (x37_5 0), .ref (x37_5 1), .int (zI 0), .int (zI 1), .int (zI (-6))])), ((x37_5 0), .inl (g 0, 12, .inl (fun _ => zI 1))), ((x37_5 1), .inl (g 0, 12, .inl (fun _ => zI 0)))] := hD
  refine y_aast C hP hD hS 1 6 2 4 rfl rfl rfl rfl 1 rfl (by decide) (by decide) dX7_init_40 (fun H locs hP hD hS => ?_)
  have hP : va_P D vwCl [(a, .inr (7, [.ref q7_0, .ref q15_1, .int (zI 0)])), (q7_0, .inl (g 2, 6, .inr (.inr (.inr (.inr (va_up (va_up (fun _ => none) 0 (some q33_2)) 1 (some q33_4))))))), (q15_1, .inl (g 0, 4, .inl (fun _ => zI 0))), (q33_2, .inr (4, [.ref (x37_3 0), .ref (x37_3 1), .int (zI 0), .int (zI 1), .int (zI (-6))])), ((x37_3 0), .inl (g 0, 12, .inl (fun _ => zI 1))), ((x37_3 1), .inl (g 0, 12, .inl (fun _ => zI 0))), (q33_4, .inr (4, [.ref (x37_5 0), .ref (x37_5 1), .int (zI 0), .int (zI 1), .int (zI (-6))])), ((x37_5 0), .inl (g 0, 12, .inl (fun _ => zI 1))), ((x37_5 1), .inl (g 0, 12, .inl (fun _ => zI 0)))] H := hP
  have hD : va_D A [(a, .inr (7, [.ref q7_0, .ref q15_1, .int (zI 0)])), (q7_0, .inl (g 2, 6, .inr (.inr (.inr (.inr (va_up (va_up (fun _ => none) 0 (some q33_2)) 1 (some q33_4))))))), (q15_1, .inl (g 0, 4, .inl (fun _ => zI 0))), (q33_2, .inr (4, [.ref (x37_3 0), .ref (x37_3 1), .int (zI 0), .int (zI 1), .int (zI (-6))])), ((x37_3 0), .inl (g 0, 12, .inl (fun _ => zI 1))), ((x37_3 1), .inl (g 0, 12, .inl (fun _ => zI 0))), (q33_4, .inr (4, [.ref (x37_5 0), .ref (x37_5 1), .int (zI 0), .int (zI 1), .int (zI (-6))])), ((x37_5 0), .inl (g 0, 12, .inl (fun _ => zI 1))), ((x37_5 1), .inl (g 0, 12, .inl (fun _ => zI 0)))] := hD
  refine z_iinc C hl 0 rfl [(1, .int (zI 2)), (0, .ref a)] (by decide) rfl dX7_init_41 (fun ls hl => ?_)
  refine z_goto C 22 (by decide) dX7_init_44 ?_
  refine z_iln C hl 0 rfl dX7_init_22 ?_
  refine z_bp C dX7_init_23 rfl ?_
  refine z_icmp_ge C 47 (by decide) ⟨by decide, by decide⟩ ⟨by decide, by decide⟩ dX7_init_25 (fun h => absurd h (by decide)) (fun _ => ?_)
  refine z_aln C hl 1 rfl dX7_init_28 ?_
  refine y_get (kf := 0) C hP 0 rfl (ci := 7) rfl inX7 (by decide) rfl wg_55 rfl dX7_init_29 ?_
  refine z_iln C hl 0 rfl dX7_init_32 ?_
  refine y_new C inX4 tyX4 tyX4_ok wg_27 wg_29 wg_3 hP hD hS hA (ci := 4) rfl [.null, .null, .int (zI 0), .int (zI 0), .int (zI 0)] (fun j hj => match j, hj with | 0, _ => rfl | 1, _ => rfl | 2, _ => rfl | 3, _ => rfl | 4, _ => rfl | (n + 5), h => absurd h (by omega)) (Nat.le_of_ble_eq_true rfl) (Nat.le_of_ble_eq_true rfl) dX7_init_33 (fun q33_6 H hP hD hS => ?_)
  have hP : va_P D vwCl [(a, .inr (7, [.ref q7_0, .ref q15_1, .int (zI 0)])), (q7_0, .inl (g 2, 6, .inr (.inr (.inr (.inr (va_up (va_up (fun _ => none) 0 (some q33_2)) 1 (some q33_4))))))), (q15_1, .inl (g 0, 4, .inl (fun _ => zI 0))), (q33_2, .inr (4, [.ref (x37_3 0), .ref (x37_3 1), .int (zI 0), .int (zI 1), .int (zI (-6))])), ((x37_3 0), .inl (g 0, 12, .inl (fun _ => zI 1))), ((x37_3 1), .inl (g 0, 12, .inl (fun _ => zI 0))), (q33_4, .inr (4, [.ref (x37_5 0), .ref (x37_5 1), .int (zI 0), .int (zI 1), .int (zI (-6))])), ((x37_5 0), .inl (g 0, 12, .inl (fun _ => zI 1))), ((x37_5 1), .inl (g 0, 12, .inl (fun _ => zI 0))), (q33_6, .inr (4, [.null, .null, .int (zI 0), .int (zI 0), .int (zI 0)]))] H := hP
  have hD : va_D A [(a, .inr (7, [.ref q7_0, .ref q15_1, .int (zI 0)])), (q7_0, .inl (g 2, 6, .inr (.inr (.inr (.inr (va_up (va_up (fun _ => none) 0 (some q33_2)) 1 (some q33_4))))))), (q15_1, .inl (g 0, 4, .inl (fun _ => zI 0))), (q33_2, .inr (4, [.ref (x37_3 0), .ref (x37_3 1), .int (zI 0), .int (zI 1), .int (zI (-6))])), ((x37_3 0), .inl (g 0, 12, .inl (fun _ => zI 1))), ((x37_3 1), .inl (g 0, 12, .inl (fun _ => zI 0))), (q33_4, .inr (4, [.ref (x37_5 0), .ref (x37_5 1), .int (zI 0), .int (zI 1), .int (zI (-6))])), ((x37_5 0), .inl (g 0, 12, .inl (fun _ => zI 1))), ((x37_5 1), .inl (g 0, 12, .inl (fun _ => zI 0))), (q33_6, .inr (4, [.null, .null, .int (zI 0), .int (zI 0), .int (zI 0)]))] := hD
  refine z_dup C rfl dX7_init_36 ?_
  refine y_init (ci := 4) (d0 := [.null, .null, .int (zI 0), .int (zI 0), .int (zI 0)]) (ws := [(a, .inr (7, [.ref q7_0, .ref q15_1, .int (zI 0)])), (q7_0, .inl (g 2, 6, .inr (.inr (.inr (.inr (va_up (va_up (fun _ => none) 0 (some q33_2)) 1 (some q33_4))))))), (q15_1, .inl (g 0, 4, .inl (fun _ => zI 0))), (q33_2, .inr (4, [.ref (x37_3 0), .ref (x37_3 1), .int (zI 0), .int (zI 1), .int (zI (-6))])), ((x37_3 0), .inl (g 0, 12, .inl (fun _ => zI 1))), ((x37_3 1), .inl (g 0, 12, .inl (fun _ => zI 0))), (q33_4, .inr (4, [.ref (x37_5 0), .ref (x37_5 1), .int (zI 0), .int (zI 1), .int (zI (-6))])), ((x37_5 0), .inl (g 0, 12, .inl (fun _ => zI 1))), ((x37_5 1), .inl (g 0, 12, .inl (fun _ => zI 0)))]) C hKA hP hD hS hA hl (M_X4_init l D g q33_6) rfl wg_32 wg_3 wg_30 wg_31 cw_X4_init ⟨(Nat.le_of_ble_eq_true rfl), (Nat.le_of_ble_eq_true rfl)⟩ ⟨(Nat.le_of_ble_eq_true rfl), (Nat.le_of_ble_eq_true rfl)⟩ (Nat.le_of_ble_eq_true rfl) dX7_init_37 (fun x37_7 H locs hP hD hS => ?_)
  have hP : va_P D vwCl [(a, .inr (7, [.ref q7_0, .ref q15_1, .int (zI 0)])), (q7_0, .inl (g 2, 6, .inr (.inr (.inr (.inr (va_up (va_up (fun _ => none) 0 (some q33_2)) 1 (some q33_4))))))), (q15_1, .inl (g 0, 4, .inl (fun _ => zI 0))), (q33_2, .inr (4, [.ref (x37_3 0), .ref (x37_3 1), .int (zI 0), .int (zI 1), .int (zI (-6))])), ((x37_3 0), .inl (g 0, 12, .inl (fun _ => zI 1))), ((x37_3 1), .inl (g 0, 12, .inl (fun _ => zI 0))), (q33_4, .inr (4, [.ref (x37_5 0), .ref (x37_5 1), .int (zI 0), .int (zI 1), .int (zI (-6))])), ((x37_5 0), .inl (g 0, 12, .inl (fun _ => zI 1))), ((x37_5 1), .inl (g 0, 12, .inl (fun _ => zI 0))), (q33_6, .inr (4, [.ref (x37_7 0), .ref (x37_7 1), .int (zI 0), .int (zI 1), .int (zI (-6))])), ((x37_7 0), .inl (g 0, 12, .inl (fun _ => zI 1))), ((x37_7 1), .inl (g 0, 12, .inl (fun _ => zI 0)))] H := hP
  have hD : va_D A [(a, .inr (7, [.ref q7_0, .ref q15_1, .int (zI 0)])), (q7_0, .inl (g 2, 6, .inr (.inr (.inr (.inr (va_up (va_up (fun _ => none) 0 (some q33_2)) 1 (some q33_4))))))), (q15_1, .inl (g 0, 4, .inl (fun _ => zI 0))), (q33_2, .inr (4, [.ref (x37_3 0), .ref (x37_3 1), .int (zI 0), .int (zI 1), .int (zI (-6))])), ((x37_3 0), .inl (g 0, 12, .inl (fun _ => zI 1))), ((x37_3 1), .inl (g 0, 12, .inl (fun _ => zI 0))), (q33_4, .inr (4, [.ref (x37_5 0), .ref (x37_5 1), .int (zI 0), .int (zI 1), .int (zI (-6))])), ((x37_5 0), .inl (g 0, 12, .inl (fun _ => zI 1))), ((x37_5 1), .inl (g 0, 12, .inl (fun _ => zI 0))), (q33_6, .inr (4, [.ref (x37_7 0), .ref (x37_7 1), .int (zI 0), .int (zI 1), .int (zI (-6))])), ((x37_7 0), .inl (g 0, 12, .inl (fun _ => zI 1))), ((x37_7 1), .inl (g 0, 12, .inl (fun _ => zI 0)))] := hD
  refine y_aast C hP hD hS 1 9 2 4 rfl rfl rfl rfl 2 rfl (by decide) (by decide) dX7_init_40 (fun H locs hP hD hS => ?_)
  have hP : va_P D vwCl [(a, .inr (7, [.ref q7_0, .ref q15_1, .int (zI 0)])), (q7_0, .inl (g 2, 6, .inr (.inr (.inr (.inr (va_up (va_up (va_up (fun _ => none) 0 (some q33_2)) 1 (some q33_4)) 2 (some q33_6))))))), (q15_1, .inl (g 0, 4, .inl (fun _ => zI 0))), (q33_2, .inr (4, [.ref (x37_3 0), .ref (x37_3 1), .int (zI 0), .int (zI 1), .int (zI (-6))])), ((x37_3 0), .inl (g 0, 12, .inl (fun _ => zI 1))), ((x37_3 1), .inl (g 0, 12, .inl (fun _ => zI 0))), (q33_4, .inr (4, [.ref (x37_5 0), .ref (x37_5 1), .int (zI 0), .int (zI 1), .int (zI (-6))])), ((x37_5 0), .inl (g 0, 12, .inl (fun _ => zI 1))), ((x37_5 1), .inl (g 0, 12, .inl (fun _ => zI 0))), (q33_6, .inr (4, [.ref (x37_7 0), .ref (x37_7 1), .int (zI 0), .int (zI 1), .int (zI (-6))])), ((x37_7 0), .inl (g 0, 12, .inl (fun _ => zI 1))), ((x37_7 1), .inl (g 0, 12, .inl (fun _ => zI 0)))] H := hP
  have hD : va_D A [(a, .inr (7, [.ref q7_0, .ref q15_1, .int (zI 0)])), (q7_0, .inl (g 2, 6, .inr (.inr (.inr (.inr (va_up (va_up (va_up (fun _ => none) 0 (some q33_2)) 1 (some q33_4)) 2 (some q33_6))))))), (q15_1, .inl (g 0, 4, .inl (fun _ => zI 0))), (q33_2, .inr (4, [.ref (x37_3 0), .ref (x37_3 1), .int (zI 0), .int (zI 1), .int (zI (-6))])), ((x37_3 0), .inl (g 0, 12, .inl (fun _ => zI 1))), ((x37_3 1), .inl (g 0, 12, .inl (fun _ => zI 0))), (q33_4, .inr (4, [.ref (x37_5 0), .ref (x37_5 1), .int (zI 0), .int (zI 1), .int (zI (-6))])), ((x37_5 0), .inl (g 0, 12, .inl (fun _ => zI 1))), ((x37_5 1), .inl (g 0, 12, .inl (fun _ => zI 0))), (q33_6, .inr (4, [.ref (x37_7 0), .ref (x37_7 1), .int (zI 0), .int (zI 1), .int (zI (-6))])), ((x37_7 0), .inl (g 0, 12, .inl (fun _ => zI 1))), ((x37_7 1), .inl (g 0, 12, .inl (fun _ => zI 0)))] := hD
  refine z_iinc C hl 0 rfl [(1, .int (zI 3)), (0, .ref a)] (by decide) rfl dX7_init_41 (fun ls hl => ?_)
  refine z_goto C 22 (by decide) dX7_init_44 ?_
  refine z_iln C hl 0 rfl dX7_init_22 ?_
  refine z_bp C dX7_init_23 rfl ?_
  refine z_icmp_ge C 47 (by decide) ⟨by decide, by decide⟩ ⟨by decide, by decide⟩ dX7_init_25 (fun h => absurd h (by decide)) (fun _ => ?_)
  refine z_aln C hl 1 rfl dX7_init_28 ?_
  refine y_get (kf := 0) C hP 0 rfl (ci := 7) rfl inX7 (by decide) rfl wg_55 rfl dX7_init_29 ?_
  refine z_iln C hl 0 rfl dX7_init_32 ?_
  refine y_new C inX4 tyX4 tyX4_ok wg_27 wg_29 wg_3 hP hD hS hA (ci := 4) rfl [.null, .null, .int (zI 0), .int (zI 0), .int (zI 0)] (fun j hj => match j, hj with | 0, _ => rfl | 1, _ => rfl | 2, _ => rfl | 3, _ => rfl | 4, _ => rfl | (n + 5), h => absurd h (by omega)) (Nat.le_of_ble_eq_true rfl) (Nat.le_of_ble_eq_true rfl) dX7_init_33 (fun q33_8 H hP hD hS => ?_)
  have hP : va_P D vwCl [(a, .inr (7, [.ref q7_0, .ref q15_1, .int (zI 0)])), (q7_0, .inl (g 2, 6, .inr (.inr (.inr (.inr (va_up (va_up (va_up (fun _ => none) 0 (some q33_2)) 1 (some q33_4)) 2 (some q33_6))))))), (q15_1, .inl (g 0, 4, .inl (fun _ => zI 0))), (q33_2, .inr (4, [.ref (x37_3 0), .ref (x37_3 1), .int (zI 0), .int (zI 1), .int (zI (-6))])), ((x37_3 0), .inl (g 0, 12, .inl (fun _ => zI 1))), ((x37_3 1), .inl (g 0, 12, .inl (fun _ => zI 0))), (q33_4, .inr (4, [.ref (x37_5 0), .ref (x37_5 1), .int (zI 0), .int (zI 1), .int (zI (-6))])), ((x37_5 0), .inl (g 0, 12, .inl (fun _ => zI 1))), ((x37_5 1), .inl (g 0, 12, .inl (fun _ => zI 0))), (q33_6, .inr (4, [.ref (x37_7 0), .ref (x37_7 1), .int (zI 0), .int (zI 1), .int (zI (-6))])), ((x37_7 0), .inl (g 0, 12, .inl (fun _ => zI 1))), ((x37_7 1), .inl (g 0, 12, .inl (fun _ => zI 0))), (q33_8, .inr (4, [.null, .null, .int (zI 0), .int (zI 0), .int (zI 0)]))] H := hP
  have hD : va_D A [(a, .inr (7, [.ref q7_0, .ref q15_1, .int (zI 0)])), (q7_0, .inl (g 2, 6, .inr (.inr (.inr (.inr (va_up (va_up (va_up (fun _ => none) 0 (some q33_2)) 1 (some q33_4)) 2 (some q33_6))))))), (q15_1, .inl (g 0, 4, .inl (fun _ => zI 0))), (q33_2, .inr (4, [.ref (x37_3 0), .ref (x37_3 1), .int (zI 0), .int (zI 1), .int (zI (-6))])), ((x37_3 0), .inl (g 0, 12, .inl (fun _ => zI 1))), ((x37_3 1), .inl (g 0, 12, .inl (fun _ => zI 0))), (q33_4, .inr (4, [.ref (x37_5 0), .ref (x37_5 1), .int (zI 0), .int (zI 1), .int (zI (-6))])), ((x37_5 0), .inl (g 0, 12, .inl (fun _ => zI 1))), ((x37_5 1), .inl (g 0, 12, .inl (fun _ => zI 0))), (q33_6, .inr (4, [.ref (x37_7 0), .ref (x37_7 1), .int (zI 0), .int (zI 1), .int (zI (-6))])), ((x37_7 0), .inl (g 0, 12, .inl (fun _ => zI 1))), ((x37_7 1), .inl (g 0, 12, .inl (fun _ => zI 0))), (q33_8, .inr (4, [.null, .null, .int (zI 0), .int (zI 0), .int (zI 0)]))] := hD
  refine z_dup C rfl dX7_init_36 ?_
  refine y_init (ci := 4) (d0 := [.null, .null, .int (zI 0), .int (zI 0), .int (zI 0)]) (ws := [(a, .inr (7, [.ref q7_0, .ref q15_1, .int (zI 0)])), (q7_0, .inl (g 2, 6, .inr (.inr (.inr (.inr (va_up (va_up (va_up (fun _ => none) 0 (some q33_2)) 1 (some q33_4)) 2 (some q33_6))))))), (q15_1, .inl (g 0, 4, .inl (fun _ => zI 0))), (q33_2, .inr (4, [.ref (x37_3 0), .ref (x37_3 1), .int (zI 0), .int (zI 1), .int (zI (-6))])), ((x37_3 0), .inl (g 0, 12, .inl (fun _ => zI 1))), ((x37_3 1), .inl (g 0, 12, .inl (fun _ => zI 0))), (q33_4, .inr (4, [.ref (x37_5 0), .ref (x37_5 1), .int (zI 0), .int (zI 1), .int (zI (-6))])), ((x37_5 0), .inl (g 0, 12, .inl (fun _ => zI 1))), ((x37_5 1), .inl (g 0, 12, .inl (fun _ => zI 0))), (q33_6, .inr (4, [.ref (x37_7 0), .ref (x37_7 1), .int (zI 0), .int (zI 1), .int (zI (-6))])), ((x37_7 0), .inl (g 0, 12, .inl (fun _ => zI 1))), ((x37_7 1), .inl (g 0, 12, .inl (fun _ => zI 0)))]) C hKA hP hD hS hA hl (M_X4_init l D g q33_8) rfl wg_32 wg_3 wg_30 wg_31 cw_X4_init ⟨(Nat.le_of_ble_eq_true rfl), (Nat.le_of_ble_eq_true rfl)⟩ ⟨(Nat.le_of_ble_eq_true rfl), (Nat.le_of_ble_eq_true rfl)⟩ (Nat.le_of_ble_eq_true rfl) dX7_init_37 (fun x37_9 H locs hP hD hS => ?_)
  have hP : va_P D vwCl [(a, .inr (7, [.ref q7_0, .ref q15_1, .int (zI 0)])), (q7_0, .inl (g 2, 6, .inr (.inr (.inr (.inr (va_up (va_up (va_up (fun _ => none) 0 (some q33_2)) 1 (some q33_4)) 2 (some q33_6))))))), (q15_1, .inl (g 0, 4, .inl (fun _ => zI 0))), (q33_2, .inr (4, [.ref (x37_3 0), .ref (x37_3 1), .int (zI 0), .int (zI 1), .int (zI (-6))])), ((x37_3 0), .inl (g 0, 12, .inl (fun _ => zI 1))), ((x37_3 1), .inl (g 0, 12, .inl (fun _ => zI 0))), (q33_4, .inr (4, [.ref (x37_5 0), .ref (x37_5 1), .int (zI 0), .int (zI 1), .int (zI (-6))])), ((x37_5 0), .inl (g 0, 12, .inl (fun _ => zI 1))), ((x37_5 1), .inl (g 0, 12, .inl (fun _ => zI 0))), (q33_6, .inr (4, [.ref (x37_7 0), .ref (x37_7 1), .int (zI 0), .int (zI 1), .int (zI (-6))])), ((x37_7 0), .inl (g 0, 12, .inl (fun _ => zI 1))), ((x37_7 1), .inl (g 0, 12, .inl (fun _ => zI 0))), (q33_8, .inr (4, [.ref (x37_9 0), .ref (x37_9 1), .int (zI 0), .int (zI 1), .int (zI (-6))])), ((x37_9 0), .inl (g 0, 12, .inl (fun _ => zI 1))), ((x37_9 1), .inl (g 0, 12, .inl (fun _ => zI 0)))] H := hP
  have hD : va_D A [(a, .inr (7, [.ref q7_0, .ref q15_1, .int (zI 0)])), (q7_0, .inl (g 2, 6, .inr (.inr (.inr (.inr (va_up (va_up (va_up (fun _ => none) 0 (some q33_2)) 1 (some q33_4)) 2 (some q33_6))))))), (q15_1, .inl (g 0, 4, .inl (fun _ => zI 0))), (q33_2, .inr (4, [.ref (x37_3 0), .ref (x37_3 1), .int (zI 0), .int (zI 1), .int (zI (-6))])), ((x37_3 0), .inl (g 0, 12, .inl (fun _ => zI 1))), ((x37_3 1), .inl (g 0, 12, .inl (fun _ => zI 0))), (q33_4, .inr (4, [.ref (x37_5 0), .ref (x37_5 1), .int (zI 0), .int (zI 1), .int (zI (-6))])), ((x37_5 0), .inl (g 0, 12, .inl (fun _ => zI 1))), ((x37_5 1), .inl (g 0, 12, .inl (fun _ => zI 0))), (q33_6, .inr (4, [.ref (x37_7 0), .ref (x37_7 1), .int (zI 0), .int (zI 1), .int (zI (-6))])), ((x37_7 0), .inl (g 0, 12, .inl (fun _ => zI 1))), ((x37_7 1), .inl (g 0, 12, .inl (fun _ => zI 0))), (q33_8, .inr (4, [.ref (x37_9 0), .ref (x37_9 1), .int (zI 0), .int (zI 1), .int (zI (-6))])), ((x37_9 0), .inl (g 0, 12, .inl (fun _ => zI 1))), ((x37_9 1), .inl (g 0, 12, .inl (fun _ => zI 0)))] := hD
  refine y_aast C hP hD hS 1 12 2 4 rfl rfl rfl rfl 3 rfl (by decide) (by decide) dX7_init_40 (fun H locs hP hD hS => ?_)
  have hP : va_P D vwCl [(a, .inr (7, [.ref q7_0, .ref q15_1, .int (zI 0)])), (q7_0, .inl (g 2, 6, .inr (.inr (.inr (.inr (va_up (va_up (va_up (va_up (fun _ => none) 0 (some q33_2)) 1 (some q33_4)) 2 (some q33_6)) 3 (some q33_8))))))), (q15_1, .inl (g 0, 4, .inl (fun _ => zI 0))), (q33_2, .inr (4, [.ref (x37_3 0), .ref (x37_3 1), .int (zI 0), .int (zI 1), .int (zI (-6))])), ((x37_3 0), .inl (g 0, 12, .inl (fun _ => zI 1))), ((x37_3 1), .inl (g 0, 12, .inl (fun _ => zI 0))), (q33_4, .inr (4, [.ref (x37_5 0), .ref (x37_5 1), .int (zI 0), .int (zI 1), .int (zI (-6))])), ((x37_5 0), .inl (g 0, 12, .inl (fun _ => zI 1))), ((x37_5 1), .inl (g 0, 12, .inl (fun _ => zI 0))), (q33_6, .inr (4, [.ref (x37_7 0), .ref (x37_7 1), .int (zI 0), .int (zI 1), .int (zI (-6))])), ((x37_7 0), .inl (g 0, 12, .inl (fun _ => zI 1))), ((x37_7 1), .inl (g 0, 12, .inl (fun _ => zI 0))), (q33_8, .inr (4, [.ref (x37_9 0), .ref (x37_9 1), .int (zI 0), .int (zI 1), .int (zI (-6))])), ((x37_9 0), .inl (g 0, 12, .inl (fun _ => zI 1))), ((x37_9 1), .inl (g 0, 12, .inl (fun _ => zI 0)))] H := hP
  have hD : va_D A [(a, .inr (7, [.ref q7_0, .ref q15_1, .int (zI 0)])), (q7_0, .inl (g 2, 6, .inr (.inr (.inr (.inr (va_up (va_up (va_up (va_up (fun _ => none) 0 (some q33_2)) 1 (some q33_4)) 2 (some q33_6)) 3 (some q33_8))))))), (q15_1, .inl (g 0, 4, .inl (fun _ => zI 0))), (q33_2, .inr (4, [.ref (x37_3 0), .ref (x37_3 1), .int (zI 0), .int (zI 1), .int (zI (-6))])), ((x37_3 0), .inl (g 0, 12, .inl (fun _ => zI 1))), ((x37_3 1), .inl (g 0, 12, .inl (fun _ => zI 0))), (q33_4, .inr (4, [.ref (x37_5 0), .ref (x37_5 1), .int (zI 0), .int (zI 1), .int (zI (-6))])), ((x37_5 0), .inl (g 0, 12, .inl (fun _ => zI 1))), ((x37_5 1), .inl (g 0, 12, .inl (fun _ => zI 0))), (q33_6, .inr (4, [.ref (x37_7 0), .ref (x37_7 1), .int (zI 0), .int (zI 1), .int (zI (-6))])), ((x37_7 0), .inl (g 0, 12, .inl (fun _ => zI 1))), ((x37_7 1), .inl (g 0, 12, .inl (fun _ => zI 0))), (q33_8, .inr (4, [.ref (x37_9 0), .ref (x37_9 1), .int (zI 0), .int (zI 1), .int (zI (-6))])), ((x37_9 0), .inl (g 0, 12, .inl (fun _ => zI 1))), ((x37_9 1), .inl (g 0, 12, .inl (fun _ => zI 0)))] := hD
  refine z_iinc C hl 0 rfl [(1, .int (zI 4)), (0, .ref a)] (by decide) rfl dX7_init_41 (fun ls hl => ?_)
  refine z_goto C 22 (by decide) dX7_init_44 ?_
  refine z_iln C hl 0 rfl dX7_init_22 ?_
  refine z_bp C dX7_init_23 rfl ?_
  refine z_icmp_ge C 47 (by decide) ⟨by decide, by decide⟩ ⟨by decide, by decide⟩ dX7_init_25 (fun h => absurd h (by decide)) (fun _ => ?_)
  refine z_aln C hl 1 rfl dX7_init_28 ?_
  refine y_get (kf := 0) C hP 0 rfl (ci := 7) rfl inX7 (by decide) rfl wg_55 rfl dX7_init_29 ?_
  refine z_iln C hl 0 rfl dX7_init_32 ?_
  refine y_new C inX4 tyX4 tyX4_ok wg_27 wg_29 wg_3 hP hD hS hA (ci := 4) rfl [.null, .null, .int (zI 0), .int (zI 0), .int (zI 0)] (fun j hj => match j, hj with | 0, _ => rfl | 1, _ => rfl | 2, _ => rfl | 3, _ => rfl | 4, _ => rfl | (n + 5), h => absurd h (by omega)) (Nat.le_of_ble_eq_true rfl) (Nat.le_of_ble_eq_true rfl) dX7_init_33 (fun q33_10 H hP hD hS => ?_)
  have hP : va_P D vwCl [(a, .inr (7, [.ref q7_0, .ref q15_1, .int (zI 0)])), (q7_0, .inl (g 2, 6, .inr (.inr (.inr (.inr (va_up (va_up (va_up (va_up (fun _ => none) 0 (some q33_2)) 1 (some q33_4)) 2 (some q33_6)) 3 (some q33_8))))))), (q15_1, .inl (g 0, 4, .inl (fun _ => zI 0))), (q33_2, .inr (4, [.ref (x37_3 0), .ref (x37_3 1), .int (zI 0), .int (zI 1), .int (zI (-6))])), ((x37_3 0), .inl (g 0, 12, .inl (fun _ => zI 1))), ((x37_3 1), .inl (g 0, 12, .inl (fun _ => zI 0))), (q33_4, .inr (4, [.ref (x37_5 0), .ref (x37_5 1), .int (zI 0), .int (zI 1), .int (zI (-6))])), ((x37_5 0), .inl (g 0, 12, .inl (fun _ => zI 1))), ((x37_5 1), .inl (g 0, 12, .inl (fun _ => zI 0))), (q33_6, .inr (4, [.ref (x37_7 0), .ref (x37_7 1), .int (zI 0), .int (zI 1), .int (zI (-6))])), ((x37_7 0), .inl (g 0, 12, .inl (fun _ => zI 1))), ((x37_7 1), .inl (g 0, 12, .inl (fun _ => zI 0))), (q33_8, .inr (4, [.ref (x37_9 0), .ref (x37_9 1), .int (zI 0), .int (zI 1), .int (zI (-6))])), ((x37_9 0), .inl (g 0, 12, .inl (fun _ => zI 1))), ((x37_9 1), .inl (g 0, 12, .inl (fun _ => zI 0))), (q33_10, .inr (4, [.null, .null, .int (zI 0), .int (zI 0), .int (zI 0)]))] H := hP
  have hD : va_D A [(a, .inr (7, [.ref q7_0, .ref q15_1, .int (zI 0)])), (q7_0, .inl (g 2, 6, .inr (.inr (.inr (.inr (va_up (va_up (va_up (va_up (fun _ => none) 0 (some q33_2)) 1 (some q33_4)) 2 (some q33_6)) 3 (some q33_8))))))), (q15_1, .inl (g 0, 4, .inl (fun _ => zI 0))), (q33_2, .inr (4, [.ref (x37_3 0), .ref (x37_3 1), .int (zI 0), .int (zI 1), .int (zI (-6))])), ((x37_3 0), .inl (g 0, 12, .inl (fun _ => zI 1))), ((x37_3 1), .inl (g 0, 12, .inl (fun _ => zI 0))), (q33_4, .inr (4, [.ref (x37_5 0), .ref (x37_5 1), .int (zI 0), .int (zI 1), .int (zI (-6))])), ((x37_5 0), .inl (g 0, 12, .inl (fun _ => zI 1))), ((x37_5 1), .inl (g 0, 12, .inl (fun _ => zI 0))), (q33_6, .inr (4, [.ref (x37_7 0), .ref (x37_7 1), .int (zI 0), .int (zI 1), .int (zI (-6))])), ((x37_7 0), .inl (g 0, 12, .inl (fun _ => zI 1))), ((x37_7 1), .inl (g 0, 12, .inl (fun _ => zI 0))), (q33_8, .inr (4, [.ref (x37_9 0), .ref (x37_9 1), .int (zI 0), .int (zI 1), .int (zI (-6))])), ((x37_9 0), .inl (g 0, 12, .inl (fun _ => zI 1))), ((x37_9 1), .inl (g 0, 12, .inl (fun _ => zI 0))), (q33_10, .inr (4, [.null, .null, .int (zI 0), .int (zI 0), .int (zI 0)]))] := hD
  refine z_dup C rfl dX7_init_36 ?_
  refine y_init (ci := 4) (d0 := [.null, .null, .int (zI 0), .int (zI 0), .int (zI 0)]) (ws := [(a, .inr (7, [.ref q7_0, .ref q15_1, .int (zI 0)])), (q7_0, .inl (g 2, 6, .inr (.inr (.inr (.inr (va_up (va_up (va_up (va_up (fun _ => none) 0 (some q33_2)) 1 (some q33_4)) 2 (some q33_6)) 3 (some q33_8))))))), (q15_1, .inl (g 0, 4, .inl (fun _ => zI 0))), (q33_2, .inr (4, [.ref (x37_3 0), .ref (x37_3 1), .int (zI 0), .int (zI 1), .int (zI (-6))])), ((x37_3 0), .inl (g 0, 12, .inl (fun _ => zI 1))), ((x37_3 1), .inl (g 0, 12, .inl (fun _ => zI 0))), (q33_4, .inr (4, [.ref (x37_5 0), .ref (x37_5 1), .int (zI 0), .int (zI 1), .int (zI (-6))])), ((x37_5 0), .inl (g 0, 12, .inl (fun _ => zI 1))), ((x37_5 1), .inl (g 0, 12, .inl (fun _ => zI 0))), (q33_6, .inr (4, [.ref (x37_7 0), .ref (x37_7 1), .int (zI 0), .int (zI 1), .int (zI (-6))])), ((x37_7 0), .inl (g 0, 12, .inl (fun _ => zI 1))), ((x37_7 1), .inl (g 0, 12, .inl (fun _ => zI 0))), (q33_8, .inr (4, [.ref (x37_9 0), .ref (x37_9 1), .int (zI 0), .int (zI 1), .int (zI (-6))])), ((x37_9 0), .inl (g 0, 12, .inl (fun _ => zI 1))), ((x37_9 1), .inl (g 0, 12, .inl (fun _ => zI 0)))]) C hKA hP hD hS hA hl (M_X4_init l D g q33_10) rfl wg_32 wg_3 wg_30 wg_31 cw_X4_init ⟨(Nat.le_of_ble_eq_true rfl), (Nat.le_of_ble_eq_true rfl)⟩ ⟨(Nat.le_of_ble_eq_true rfl), (Nat.le_of_ble_eq_true rfl)⟩ (Nat.le_of_ble_eq_true rfl) dX7_init_37 (fun x37_11 H locs hP hD hS => ?_)
  have hP : va_P D vwCl [(a, .inr (7, [.ref q7_0, .ref q15_1, .int (zI 0)])), (q7_0, .inl (g 2, 6, .inr (.inr (.inr (.inr (va_up (va_up (va_up (va_up (fun _ => none) 0 (some q33_2)) 1 (some q33_4)) 2 (some q33_6)) 3 (some q33_8))))))), (q15_1, .inl (g 0, 4, .inl (fun _ => zI 0))), (q33_2, .inr (4, [.ref (x37_3 0), .ref (x37_3 1), .int (zI 0), .int (zI 1), .int (zI (-6))])), ((x37_3 0), .inl (g 0, 12, .inl (fun _ => zI 1))), ((x37_3 1), .inl (g 0, 12, .inl (fun _ => zI 0))), (q33_4, .inr (4, [.ref (x37_5 0), .ref (x37_5 1), .int (zI 0), .int (zI 1), .int (zI (-6))])), ((x37_5 0), .inl (g 0, 12, .inl (fun _ => zI 1))), ((x37_5 1), .inl (g 0, 12, .inl (fun _ => zI 0))), (q33_6, .inr (4, [.ref (x37_7 0), .ref (x37_7 1), .int (zI 0), .int (zI 1), .int (zI (-6))])), ((x37_7 0), .inl (g 0, 12, .inl (fun _ => zI 1))), ((x37_7 1), .inl (g 0, 12, .inl (fun _ => zI 0))), (q33_8, .inr (4, [.ref (x37_9 0), .ref (x37_9 1), .int (zI 0), .int (zI 1), .int (zI (-6))])), ((x37_9 0), .inl (g 0, 12, .inl (fun _ => zI 1))), ((x37_9 1), .inl (g 0, 12, .inl (fun _ => zI 0))), (q33_10, .inr (4, [.ref (x37_11 0), .ref (x37_11 1), .int (zI 0), .int (zI 1), .int (zI (-6))])), ((x37_11 0), .inl (g 0, 12, .inl (fun _ => zI 1))), ((x37_11 1), .inl (g 0, 12, .inl (fun _ => zI 0)))] H := hP
  have hD : va_D A [(a, .inr (7, [.ref q7_0, .ref q15_1, .int (zI 0)])), (q7_0, .inl (g 2, 6, .inr (.inr (.inr (.inr (va_up (va_up (va_up (va_up (fun _ => none) 0 (some q33_2)) 1 (some q33_4)) 2 (some q33_6)) 3 (some q33_8))))))), (q15_1, .inl (g 0, 4, .inl (fun _ => zI 0))), (q33_2, .inr (4, [.ref (x37_3 0), .ref (x37_3 1), .int (zI 0), .int (zI 1), .int (zI (-6))])), ((x37_3 0), .inl (g 0, 12, .inl (fun _ => zI 1))), ((x37_3 1), .inl (g 0, 12, .inl (fun _ => zI 0))), (q33_4, .inr (4, [.ref (x37_5 0), .ref (x37_5 1), .int (zI 0), .int (zI 1), .int (zI (-6))])), ((x37_5 0), .inl (g 0, 12, .inl (fun _ => zI 1))), ((x37_5 1), .inl (g 0, 12, .inl (fun _ => zI 0))), (q33_6, .inr (4, [.ref (x37_7 0), .ref (x37_7 1), .int (zI 0), .int (zI 1), .int (zI (-6))])), ((x37_7 0), .inl (g 0, 12, .inl (fun _ => zI 1))), ((x37_7 1), .inl (g 0, 12, .inl (fun _ => zI 0))), (q33_8, .inr (4, [.ref (x37_9 0), .ref (x37_9 1), .int (zI 0), .int (zI 1), .int (zI (-6))])), ((x37_9 0), .inl (g 0, 12, .inl (fun _ => zI 1))), ((x37_9 1), .inl (g 0, 12, .inl (fun _ => zI 0))), (q33_10, .inr (4, [.ref (x37_11 0), .ref (x37_11 1), .int (zI 0), .int (zI 1), .int (zI (-6))])), ((x37_11 0), .inl (g 0, 12, .inl (fun _ => zI 1))), ((x37_11 1), .inl (g 0, 12, .inl (fun _ => zI 0)))] := hD
  refine y_aast C hP hD hS 1 15 2 4 rfl rfl rfl rfl 4 rfl (by decide) (by decide) dX7_init_40 (fun H locs hP hD hS => ?_)
  have hP : va_P D vwCl [(a, .inr (7, [.ref q7_0, .ref q15_1, .int (zI 0)])), (q7_0, .inl (g 2, 6, .inr (.inr (.inr (.inr (va_up (va_up (va_up (va_up (va_up (fun _ => none) 0 (some q33_2)) 1 (some q33_4)) 2 (some q33_6)) 3 (some q33_8)) 4 (some q33_10))))))), (q15_1, .inl (g 0, 4, .inl (fun _ => zI 0))), (q33_2, .inr (4, [.ref (x37_3 0), .ref (x37_3 1), .int (zI 0), .int (zI 1), .int (zI (-6))])), ((x37_3 0), .inl (g 0, 12, .inl (fun _ => zI 1))), ((x37_3 1), .inl (g 0, 12, .inl (fun _ => zI 0))), (q33_4, .inr (4, [.ref (x37_5 0), .ref (x37_5 1), .int (zI 0), .int (zI 1), .int (zI (-6))])), ((x37_5 0), .inl (g 0, 12, .inl (fun _ => zI 1))), ((x37_5 1), .inl (g 0, 12, .inl (fun _ => zI 0))), (q33_6, .inr (4, [.ref (x37_7 0), .ref (x37_7 1), .int (zI 0), .int (zI 1), .int (zI (-6))])), ((x37_7 0), .inl (g 0, 12, .inl (fun _ => zI 1))), ((x37_7 1), .inl (g 0, 12, .inl (fun _ => zI 0))), (q33_8, .inr (4, [.ref (x37_9 0), .ref (x37_9 1), .int (zI 0), .int (zI 1), .int (zI (-6))])), ((x37_9 0), .inl (g 0, 12, .inl (fun _ => zI 1))), ((x37_9 1), .inl (g 0, 12, .inl (fun _ => zI 0))), (q33_10, .inr (4, [.ref (x37_11 0), .ref (x37_11 1), .int (zI 0), .int (zI 1), .int (zI (-6))])), ((x37_11 0), .inl (g 0, 12, .inl (fun _ => zI 1))), ((x37_11 1), .inl (g 0, 12, .inl (fun _ => zI 0)))] H := hP
  have hD : va_D A [(a, .inr (7, [.ref q7_0, .ref q15_1, .int (zI 0)])), (q7_0, .inl (g 2, 6, .inr (.inr (.inr (.inr (va_up (va_up (va_up (va_up (va_up (fun _ => none) 0 (some q33_2)) 1 (some q33_4)) 2 (some q33_6)) 3 (some q33_8)) 4 (some q33_10))))))), (q15_1, .inl (g 0, 4, .inl (fun _ => zI 0))), (q33_2, .inr (4, [.ref (x37_3 0), .ref (x37_3 1), .int (zI 0), .int (zI 1), .int (zI (-6))])), ((x37_3 0), .inl (g 0, 12, .inl (fun _ => zI 1))), ((x37_3 1), .inl (g 0, 12, .inl (fun _ => zI 0))), (q33_4, .inr (4, [.ref (x37_5 0), .ref (x37_5 1), .int (zI 0), .int (zI 1), .int (zI (-6))])), ((x37_5 0), .inl (g 0, 12, .inl (fun _ => zI 1))), ((x37_5 1), .inl (g 0, 12, .inl (fun _ => zI 0))), (q33_6, .inr (4, [.ref (x37_7 0), .ref (x37_7 1), .int (zI 0), .int (zI 1), .int (zI (-6))])), ((x37_7 0), .inl (g 0, 12, .inl (fun _ => zI 1))), ((x37_7 1), .inl (g 0, 12, .inl (fun _ => zI 0))), (q33_8, .inr (4, [.ref (x37_9 0), .ref (x37_9 1), .int (zI 0), .int (zI 1), .int (zI (-6))])), ((x37_9 0), .inl (g 0, 12, .inl (fun _ => zI 1))), ((x37_9 1), .inl (g 0, 12, .inl (fun _ => zI 0))), (q33_10, .inr (4, [.ref (x37_11 0), .ref (x37_11 1), .int (zI 0), .int (zI 1), .int (zI (-6))])), ((x37_11 0), .inl (g 0, 12, .inl (fun _ => zI 1))), ((x37_11 1), .inl (g 0, 12, .inl (fun _ => zI 0)))] := hD
  refine z_iinc C hl 0 rfl [(1, .int (zI 5)), (0, .ref a)] (by decide) rfl dX7_init_41 (fun ls hl => ?_)
  refine z_goto C 22 (by decide) dX7_init_44 ?_
  refine z_iln C hl 0 rfl dX7_init_22 ?_
  refine z_bp C dX7_init_23 rfl ?_
  refine z_icmp_ge C 47 (by decide) ⟨by decide, by decide⟩ ⟨by decide, by decide⟩ dX7_init_25 (fun h => absurd h (by decide)) (fun _ => ?_)
  refine z_aln C hl 1 rfl dX7_init_28 ?_
  refine y_get (kf := 0) C hP 0 rfl (ci := 7) rfl inX7 (by decide) rfl wg_55 rfl dX7_init_29 ?_
  refine z_iln C hl 0 rfl dX7_init_32 ?_
  refine y_new C inX4 tyX4 tyX4_ok wg_27 wg_29 wg_3 hP hD hS hA (ci := 4) rfl [.null, .null, .int (zI 0), .int (zI 0), .int (zI 0)] (fun j hj => match j, hj with | 0, _ => rfl | 1, _ => rfl | 2, _ => rfl | 3, _ => rfl | 4, _ => rfl | (n + 5), h => absurd h (by omega)) (Nat.le_of_ble_eq_true rfl) (Nat.le_of_ble_eq_true rfl) dX7_init_33 (fun q33_12 H hP hD hS => ?_)
  have hP : va_P D vwCl [(a, .inr (7, [.ref q7_0, .ref q15_1, .int (zI 0)])), (q7_0, .inl (g 2, 6, .inr (.inr (.inr (.inr (va_up (va_up (va_up (va_up (va_up (fun _ => none) 0 (some q33_2)) 1 (some q33_4)) 2 (some q33_6)) 3 (some q33_8)) 4 (some q33_10))))))), (q15_1, .inl (g 0, 4, .inl (fun _ => zI 0))), (q33_2, .inr (4, [.ref (x37_3 0), .ref (x37_3 1), .int (zI 0), .int (zI 1), .int (zI (-6))])), ((x37_3 0), .inl (g 0, 12, .inl (fun _ => zI 1))), ((x37_3 1), .inl (g 0, 12, .inl (fun _ => zI 0))), (q33_4, .inr (4, [.ref (x37_5 0), .ref (x37_5 1), .int (zI 0), .int (zI 1), .int (zI (-6))])), ((x37_5 0), .inl (g 0, 12, .inl (fun _ => zI 1))), ((x37_5 1), .inl (g 0, 12, .inl (fun _ => zI 0))), (q33_6, .inr (4, [.ref (x37_7 0), .ref (x37_7 1), .int (zI 0), .int (zI 1), .int (zI (-6))])), ((x37_7 0), .inl (g 0, 12, .inl (fun _ => zI 1))), ((x37_7 1), .inl (g 0, 12, .inl (fun _ => zI 0))), (q33_8, .inr (4, [.ref (x37_9 0), .ref (x37_9 1), .int (zI 0), .int (zI 1), .int (zI (-6))])), ((x37_9 0), .inl (g 0, 12, .inl (fun _ => zI 1))), ((x37_9 1), .inl (g 0, 12, .inl (fun _ => zI 0))), (q33_10, .inr (4, [.ref (x37_11 0), .ref (x37_11 1), .int (zI 0), .int (zI 1), .int (zI (-6))])), ((x37_11 0), .inl (g 0, 12, .inl (fun _ => zI 1))), ((x37_11 1), .inl (g 0, 12, .inl (fun _ => zI 0))), (q33_12, .inr (4, [.null, .null, .int (zI 0), .int (zI 0), .int (zI 0)]))] H := hP
  have hD : va_D A [(a, .inr (7, [.ref q7_0, .ref q15_1, .int (zI 0)])), (q7_0, .inl (g 2, 6, .inr (.inr (.inr (.inr (va_up (va_up (va_up (va_up (va_up (fun _ => none) 0 (some q33_2)) 1 (some q33_4)) 2 (some q33_6)) 3 (some q33_8)) 4 (some q33_10))))))), (q15_1, .inl (g 0, 4, .inl (fun _ => zI 0))), (q33_2, .inr (4, [.ref (x37_3 0), .ref (x37_3 1), .int (zI 0), .int (zI 1), .int (zI (-6))])), ((x37_3 0), .inl (g 0, 12, .inl (fun _ => zI 1))), ((x37_3 1), .inl (g 0, 12, .inl (fun _ => zI 0))), (q33_4, .inr (4, [.ref (x37_5 0), .ref (x37_5 1), .int (zI 0), .int (zI 1), .int (zI (-6))])), ((x37_5 0), .inl (g 0, 12, .inl (fun _ => zI 1))), ((x37_5 1), .inl (g 0, 12, .inl (fun _ => zI 0))), (q33_6, .inr (4, [.ref (x37_7 0), .ref (x37_7 1), .int (zI 0), .int (zI 1), .int (zI (-6))])), ((x37_7 0), .inl (g 0, 12, .inl (fun _ => zI 1))), ((x37_7 1), .inl (g 0, 12, .inl (fun _ => zI 0))), (q33_8, .inr (4, [.ref (x37_9 0), .ref (x37_9 1), .int (zI 0), .int (zI 1), .int (zI (-6))])), ((x37_9 0), .inl (g 0, 12, .inl (fun _ => zI 1))), ((x37_9 1), .inl (g 0, 12, .inl (fun _ => zI 0))), (q33_10, .inr (4, [.ref (x37_11 0), .ref (x37_11 1), .int (zI 0), .int (zI 1), .int (zI (-6))])), ((x37_11 0), .inl (g 0, 12, .inl (fun _ => zI 1))), ((x37_11 1), .inl (g 0, 12, .inl (fun _ => zI 0))), (q33_12, .inr (4, [.null, .null, .int (zI 0), .int (zI 0), .int (zI 0)]))] := hD
  refine z_dup C rfl dX7_init_36 ?_
  refine y_init (ci := 4) (d0 := [.null, .null, .int (zI 0), .int (zI 0), .int (zI 0)]) (ws := [(a, .inr (7, [.ref q7_0, .ref q15_1, .int (zI 0)])), (q7_0, .inl (g 2, 6, .inr (.inr (.inr (.inr (va_up (va_up (va_up (va_up (va_up (fun _ => none) 0 (some q33_2)) 1 (some q33_4)) 2 (some q33_6)) 3 (some q33_8)) 4 (some q33_10))))))), (q15_1, .inl (g 0, 4, .inl (fun _ => zI 0))), (q33_2, .inr (4, [.ref (x37_3 0), .ref (x37_3 1), .int (zI 0), .int (zI 1), .int (zI (-6))])), ((x37_3 0), .inl (g 0, 12, .inl (fun _ => zI 1))), ((x37_3 1), .inl (g 0, 12, .inl (fun _ => zI 0))), (q33_4, .inr (4, [.ref (x37_5 0), .ref (x37_5 1), .int (zI 0), .int (zI 1), .int (zI (-6))])), ((x37_5 0), .inl (g 0, 12, .inl (fun _ => zI 1))), ((x37_5 1), .inl (g 0, 12, .inl (fun _ => zI 0))), (q33_6, .inr (4, [.ref (x37_7 0), .ref (x37_7 1), .int (zI 0), .int (zI 1), .int (zI (-6))])), ((x37_7 0), .inl (g 0, 12, .inl (fun _ => zI 1))), ((x37_7 1), .inl (g 0, 12, .inl (fun _ => zI 0))), (q33_8, .inr (4, [.ref (x37_9 0), .ref (x37_9 1), .int (zI 0), .int (zI 1), .int (zI (-6))])), ((x37_9 0), .inl (g 0, 12, .inl (fun _ => zI 1))), ((x37_9 1), .inl (g 0, 12, .inl (fun _ => zI 0))), (q33_10, .inr (4, [.ref (x37_11 0), .ref (x37_11 1), .int (zI 0), .int (zI 1), .int (zI (-6))])), ((x37_11 0), .inl (g 0, 12, .inl (fun _ => zI 1))), ((x37_11 1), .inl (g 0, 12, .inl (fun _ => zI 0)))]) C hKA hP hD hS hA hl (M_X4_init l D g q33_12) rfl wg_32 wg_3 wg_30 wg_31 cw_X4_init ⟨(Nat.le_of_ble_eq_true rfl), (Nat.le_of_ble_eq_true rfl)⟩ ⟨(Nat.le_of_ble_eq_true rfl), (Nat.le_of_ble_eq_true rfl)⟩ (Nat.le_of_ble_eq_true rfl) dX7_init_37 (fun x37_13 H locs hP hD hS => ?_)
  have hP : va_P D vwCl (((a, .inr (7, [.ref q7_0, .ref q15_1, .int (zI 0)])) :: (q7_0, .inl (g 2, 6, .inr (.inr (.inr (.inr (va_up (va_up (va_up (va_up (va_up (fun _ => none) 0 (some q33_2)) 1 (some q33_4)) 2 (some q33_6)) 3 (some q33_8)) 4 (some q33_10))))))) :: (q15_1, .inl (g 0, 4, .inl (fun _ => zI 0))) :: (q33_2, .inr (4, [.ref (x37_3 0), .ref (x37_3 1), .int (zI 0), .int (zI 1), .int (zI (-6))])) :: ((x37_3 0), .inl (g 0, 12, .inl (fun _ => zI 1))) :: ((x37_3 1), .inl (g 0, 12, .inl (fun _ => zI 0))) :: (q33_4, .inr (4, [.ref (x37_5 0), .ref (x37_5 1), .int (zI 0), .int (zI 1), .int (zI (-6))])) :: ((x37_5 0), .inl (g 0, 12, .inl (fun _ => zI 1))) :: ((x37_5 1), .inl (g 0, 12, .inl (fun _ => zI 0))) :: (q33_6, .inr (4, [.ref (x37_7 0), .ref (x37_7 1), .int (zI 0), .int (zI 1), .int (zI (-6))])) :: ((x37_7 0), .inl (g 0, 12, .inl (fun _ => zI 1))) :: ((x37_7 1), .inl (g 0, 12, .inl (fun _ => zI 0))) :: (q33_8, .inr (4, [.ref (x37_9 0), .ref (x37_9 1), .int (zI 0), .int (zI 1), .int (zI (-6))])) :: ((x37_9 0), .inl (g 0, 12, .inl (fun _ => zI 1))) :: ((x37_9 1), .inl (g 0, 12, .inl (fun _ => zI 0))) :: (q33_10, .inr (4, [.ref (x37_11 0), .ref (x37_11 1), .int (zI 0), .int (zI 1), .int (zI (-6))])) :: ((x37_11 0), .inl (g 0, 12, .inl (fun _ => zI 1))) :: ((x37_11 1), .inl (g 0, 12, .inl (fun _ => zI 0))) :: (q33_12, .inr (4, [.ref (x37_13 0), .ref (x37_13 1), .int (zI 0), .int (zI 1), .int (zI (-6))])) :: ((x37_13 0), .inl (g 0, 12, .inl (fun _ => zI 1))) :: ((x37_13 1), .inl (g 0, 12, .inl (fun _ => zI 0))) :: []) : va_W) H := hP
  have hD : va_D A (((a, .inr (7, [.ref q7_0, .ref q15_1, .int (zI 0)])) :: (q7_0, .inl (g 2, 6, .inr (.inr (.inr (.inr (va_up (va_up (va_up (va_up (va_up (fun _ => none) 0 (some q33_2)) 1 (some q33_4)) 2 (some q33_6)) 3 (some q33_8)) 4 (some q33_10))))))) :: (q15_1, .inl (g 0, 4, .inl (fun _ => zI 0))) :: (q33_2, .inr (4, [.ref (x37_3 0), .ref (x37_3 1), .int (zI 0), .int (zI 1), .int (zI (-6))])) :: ((x37_3 0), .inl (g 0, 12, .inl (fun _ => zI 1))) :: ((x37_3 1), .inl (g 0, 12, .inl (fun _ => zI 0))) :: (q33_4, .inr (4, [.ref (x37_5 0), .ref (x37_5 1), .int (zI 0), .int (zI 1), .int (zI (-6))])) :: ((x37_5 0), .inl (g 0, 12, .inl (fun _ => zI 1))) :: ((x37_5 1), .inl (g 0, 12, .inl (fun _ => zI 0))) :: (q33_6, .inr (4, [.ref (x37_7 0), .ref (x37_7 1), .int (zI 0), .int (zI 1), .int (zI (-6))])) :: ((x37_7 0), .inl (g 0, 12, .inl (fun _ => zI 1))) :: ((x37_7 1), .inl (g 0, 12, .inl (fun _ => zI 0))) :: (q33_8, .inr (4, [.ref (x37_9 0), .ref (x37_9 1), .int (zI 0), .int (zI 1), .int (zI (-6))])) :: ((x37_9 0), .inl (g 0, 12, .inl (fun _ => zI 1))) :: ((x37_9 1), .inl (g 0, 12, .inl (fun _ => zI 0))) :: (q33_10, .inr (4, [.ref (x37_11 0), .ref (x37_11 1), .int (zI 0), .int (zI 1), .int (zI (-6))])) :: ((x37_11 0), .inl (g 0, 12, .inl (fun _ => zI 1))) :: ((x37_11 1), .inl (g 0, 12, .inl (fun _ => zI 0))) :: (q33_12, .inr (4, [.ref (x37_13 0), .ref (x37_13 1), .int (zI 0), .int (zI 1), .int (zI (-6))])) :: ((x37_13 0), .inl (g 0, 12, .inl (fun _ => zI 1))) :: ((x37_13 1), .inl (g 0, 12, .inl (fun _ => zI 0))) :: []) : va_W) := hD
  refine y_aast C hP hD hS 1 18 2 4 rfl rfl rfl rfl 5 rfl (by decide) (by decide) dX7_init_40 (fun H locs hP hD hS => ?_)
  have hP : va_P D vwCl (((a, .inr (7, [.ref q7_0, .ref q15_1, .int (zI 0)])) :: (q7_0, .inl (g 2, 6, .inr (.inr (.inr (.inr (va_up (va_up (va_up (va_up (va_up (va_up (fun _ => none) 0 (some q33_2)) 1 (some q33_4)) 2 (some q33_6)) 3 (some q33_8)) 4 (some q33_10)) 5 (some q33_12))))))) :: (q15_1, .inl (g 0, 4, .inl (fun _ => zI 0))) :: (q33_2, .inr (4, [.ref (x37_3 0), .ref (x37_3 1), .int (zI 0), .int (zI 1), .int (zI (-6))])) :: ((x37_3 0), .inl (g 0, 12, .inl (fun _ => zI 1))) :: ((x37_3 1), .inl (g 0, 12, .inl (fun _ => zI 0))) :: (q33_4, .inr (4, [.ref (x37_5 0), .ref (x37_5 1), .int (zI 0), .int (zI 1), .int (zI (-6))])) :: ((x37_5 0), .inl (g 0, 12, .inl (fun _ => zI 1))) :: ((x37_5 1), .inl (g 0, 12, .inl (fun _ => zI 0))) :: (q33_6, .inr (4, [.ref (x37_7 0), .ref (x37_7 1), .int (zI 0), .int (zI 1), .int (zI (-6))])) :: ((x37_7 0), .inl (g 0, 12, .inl (fun _ => zI 1))) :: ((x37_7 1), .inl (g 0, 12, .inl (fun _ => zI 0))) :: (q33_8, .inr (4, [.ref (x37_9 0), .ref (x37_9 1), .int (zI 0), .int (zI 1), .int (zI (-6))])) :: ((x37_9 0), .inl (g 0, 12, .inl (fun _ => zI 1))) :: ((x37_9 1), .inl (g 0, 12, .inl (fun _ => zI 0))) :: (q33_10, .inr (4, [.ref (x37_11 0), .ref (x37_11 1), .int (zI 0), .int (zI 1), .int (zI (-6))])) :: ((x37_11 0), .inl (g 0, 12, .inl (fun _ => zI 1))) :: ((x37_11 1), .inl (g 0, 12, .inl (fun _ => zI 0))) :: (q33_12, .inr (4, [.ref (x37_13 0), .ref (x37_13 1), .int (zI 0), .int (zI 1), .int (zI (-6))])) :: ((x37_13 0), .inl (g 0, 12, .inl (fun _ => zI 1))) :: ((x37_13 1), .inl (g 0, 12, .inl (fun _ => zI 0))) :: []) : va_W) H := hP
  have hD : va_D A (((a, .inr (7, [.ref q7_0, .ref q15_1, .int (zI 0)])) :: (q7_0, .inl (g 2, 6, .inr (.inr (.inr (.inr (va_up (va_up (va_up (va_up (va_up (va_up (fun _ => none) 0 (some q33_2)) 1 (some q33_4)) 2 (some q33_6)) 3 (some q33_8)) 4 (some q33_10)) 5 (some q33_12))))))) :: (q15_1, .inl (g 0, 4, .inl (fun _ => zI 0))) :: (q33_2, .inr (4, [.ref (x37_3 0), .ref (x37_3 1), .int (zI 0), .int (zI 1), .int (zI (-6))])) :: ((x37_3 0), .inl (g 0, 12, .inl (fun _ => zI 1))) :: ((x37_3 1), .inl (g 0, 12, .inl (fun _ => zI 0))) :: (q33_4, .inr (4, [.ref (x37_5 0), .ref (x37_5 1), .int (zI 0), .int (zI 1), .int (zI (-6))])) :: ((x37_5 0), .inl (g 0, 12, .inl (fun _ => zI 1))) :: ((x37_5 1), .inl (g 0, 12, .inl (fun _ => zI 0))) :: (q33_6, .inr (4, [.ref (x37_7 0), .ref (x37_7 1), .int (zI 0), .int (zI 1), .int (zI (-6))])) :: ((x37_7 0), .inl (g 0, 12, .inl (fun _ => zI 1))) :: ((x37_7 1), .inl (g 0, 12, .inl (fun _ => zI 0))) :: (q33_8, .inr (4, [.ref (x37_9 0), .ref (x37_9 1), .int (zI 0), .int (zI 1), .int (zI (-6))])) :: ((x37_9 0), .inl (g 0, 12, .inl (fun _ => zI 1))) :: ((x37_9 1), .inl (g 0, 12, .inl (fun _ => zI 0))) :: (q33_10, .inr (4, [.ref (x37_11 0), .ref (x37_11 1), .int (zI 0), .int (zI 1), .int (zI (-6))])) :: ((x37_11 0), .inl (g 0, 12, .inl (fun _ => zI 1))) :: ((x37_11 1), .inl (g 0, 12, .inl (fun _ => zI 0))) :: (q33_12, .inr (4, [.ref (x37_13 0), .ref (x37_13 1), .int (zI 0), .int (zI 1), .int (zI (-6))])) :: ((x37_13 0), .inl (g 0, 12, .inl (fun _ => zI 1))) :: ((x37_13 1), .inl (g 0, 12, .inl (fun _ => zI 0))) :: []) : va_W) := hD
  refine z_iinc C hl 0 rfl [(1, .int (zI 6)), (0, .ref a)] (by decide) rfl dX7_init_41 (fun ls hl => ?_)
  refine z_goto C 22 (by decide) dX7_init_44 ?_
  refine z_iln C hl 0 rfl dX7_init_22 ?_
  refine z_bp C dX7_init_23 rfl ?_
  refine z_icmp_ge C 47 (by decide) ⟨by decide, by decide⟩ ⟨by decide, by decide⟩ dX7_init_25 (fun _ => ?_) (fun h => absurd (by decide) h)
  refine z_aln C hl 1 rfl dX7_init_47 ?_
  refine y_get (kf := 1) C hP 0 rfl (ci := 7) rfl inX7 (by decide) rfl wg_57 rfl dX7_init_48 ?_
  refine z_ic C dX7_init_51 ?_
  refine z_bp C dX7_init_52 rfl ?_
  refine y_iast C hP hD hS 2 rfl 2 rfl (by decide) (by decide) dX7_init_54 (fun H locs hP hD hS => ?_)
  have hP : va_P D vwCl (((a, .inr (7, [.ref q7_0, .ref q15_1, .int (zI 0)])) :: (q7_0, .inl (g 2, 6, .inr (.inr (.inr (.inr (va_up (va_up (va_up (va_up (va_up (va_up (fun _ => none) 0 (some q33_2)) 1 (some q33_4)) 2 (some q33_6)) 3 (some q33_8)) 4 (some q33_10)) 5 (some q33_12))))))) :: (q15_1, .inl (g 0, 4, .inl (upd (fun _ => zI 0) 2 (zI 100)))) :: (q33_2, .inr (4, [.ref (x37_3 0), .ref (x37_3 1), .int (zI 0), .int (zI 1), .int (zI (-6))])) :: ((x37_3 0), .inl (g 0, 12, .inl (fun _ => zI 1))) :: ((x37_3 1), .inl (g 0, 12, .inl (fun _ => zI 0))) :: (q33_4, .inr (4, [.ref (x37_5 0), .ref (x37_5 1), .int (zI 0), .int (zI 1), .int (zI (-6))])) :: ((x37_5 0), .inl (g 0, 12, .inl (fun _ => zI 1))) :: ((x37_5 1), .inl (g 0, 12, .inl (fun _ => zI 0))) :: (q33_6, .inr (4, [.ref (x37_7 0), .ref (x37_7 1), .int (zI 0), .int (zI 1), .int (zI (-6))])) :: ((x37_7 0), .inl (g 0, 12, .inl (fun _ => zI 1))) :: ((x37_7 1), .inl (g 0, 12, .inl (fun _ => zI 0))) :: (q33_8, .inr (4, [.ref (x37_9 0), .ref (x37_9 1), .int (zI 0), .int (zI 1), .int (zI (-6))])) :: ((x37_9 0), .inl (g 0, 12, .inl (fun _ => zI 1))) :: ((x37_9 1), .inl (g 0, 12, .inl (fun _ => zI 0))) :: (q33_10, .inr (4, [.ref (x37_11 0), .ref (x37_11 1), .int (zI 0), .int (zI 1), .int (zI (-6))])) :: ((x37_11 0), .inl (g 0, 12, .inl (fun _ => zI 1))) :: ((x37_11 1), .inl (g 0, 12, .inl (fun _ => zI 0))) :: (q33_12, .inr (4, [.ref (x37_13 0), .ref (x37_13 1), .int (zI 0), .int (zI 1), .int (zI (-6))])) :: ((x37_13 0), .inl (g 0, 12, .inl (fun _ => zI 1))) :: ((x37_13 1), .inl (g 0, 12, .inl (fun _ => zI 0))) :: []) : va_W) H := hP
  have hD : va_D A (((a, .inr (7, [.ref q7_0, .ref q15_1, .int (zI 0)])) :: (q7_0, .inl (g 2, 6, .inr (.inr (.inr (.inr (va_up (va_up (va_up (va_up (va_up (va_up (fun _ => none) 0 (some q33_2)) 1 (some q33_4)) 2 (some q33_6)) 3 (some q33_8)) 4 (some q33_10)) 5 (some q33_12))))))) :: (q15_1, .inl (g 0, 4, .inl (upd (fun _ => zI 0) 2 (zI 100)))) :: (q33_2, .inr (4, [.ref (x37_3 0), .ref (x37_3 1), .int (zI 0), .int (zI 1), .int (zI (-6))])) :: ((x37_3 0), .inl (g 0, 12, .inl (fun _ => zI 1))) :: ((x37_3 1), .inl (g 0, 12, .inl (fun _ => zI 0))) :: (q33_4, .inr (4, [.ref (x37_5 0), .ref (x37_5 1), .int (zI 0), .int (zI 1), .int (zI (-6))])) :: ((x37_5 0), .inl (g 0, 12, .inl (fun _ => zI 1))) :: ((x37_5 1), .inl (g 0, 12, .inl (fun _ => zI 0))) :: (q33_6, .inr (4, [.ref (x37_7 0), .ref (x37_7 1), .int (zI 0), .int (zI 1), .int (zI (-6))])) :: ((x37_7 0), .inl (g 0, 12, .inl (fun _ => zI 1))) :: ((x37_7 1), .inl (g 0, 12, .inl (fun _ => zI 0))) :: (q33_8, .inr (4, [.ref (x37_9 0), .ref (x37_9 1), .int (zI 0), .int (zI 1), .int (zI (-6))])) :: ((x37_9 0), .inl (g 0, 12, .inl (fun _ => zI 1))) :: ((x37_9 1), .inl (g 0, 12, .inl (fun _ => zI 0))) :: (q33_10, .inr (4, [.ref (x37_11 0), .ref (x37_11 1), .int (zI 0), .int (zI 1), .int (zI (-6))])) :: ((x37_11 0), .inl (g 0, 12, .inl (fun _ => zI 1))) :: ((x37_11 1), .inl (g 0, 12, .inl (fun _ => zI 0))) :: (q33_12, .inr (4, [.ref (x37_13 0), .ref (x37_13 1), .int (zI 0), .int (zI 1), .int (zI (-6))])) :: ((x37_13 0), .inl (g 0, 12, .inl (fun _ => zI 1))) :: ((x37_13 1), .inl (g 0, 12, .inl (fun _ => zI 0))) :: []) : va_W) := hD
  obtain ⟨hP, hD⟩ := y_chg (f' := fun j => zI (if j = 2 then 100 else 0)) 2 hP hD rfl (fun h => va_atf h (fun j hj => match j, hj with | 0, _ => rfl | 1, _ => rfl | 2, _ => rfl | 3, _ => rfl | (n + 4), h => absurd h (by omega)))
  have hP : va_P D vwCl (((a, .inr (7, [.ref q7_0, .ref q15_1, .int (zI 0)])) :: (q7_0, .inl (g 2, 6, .inr (.inr (.inr (.inr (va_up (va_up (va_up (va_up (va_up (va_up (fun _ => none) 0 (some q33_2)) 1 (some q33_4)) 2 (some q33_6)) 3 (some q33_8)) 4 (some q33_10)) 5 (some q33_12))))))) :: (q15_1, .inl (g 0, 4, .inl (fun j => zI (if j = 2 then 100 else 0)))) :: (q33_2, .inr (4, [.ref (x37_3 0), .ref (x37_3 1), .int (zI 0), .int (zI 1), .int (zI (-6))])) :: ((x37_3 0), .inl (g 0, 12, .inl (fun _ => zI 1))) :: ((x37_3 1), .inl (g 0, 12, .inl (fun _ => zI 0))) :: (q33_4, .inr (4, [.ref (x37_5 0), .ref (x37_5 1), .int (zI 0), .int (zI 1), .int (zI (-6))])) :: ((x37_5 0), .inl (g 0, 12, .inl (fun _ => zI 1))) :: ((x37_5 1), .inl (g 0, 12, .inl (fun _ => zI 0))) :: (q33_6, .inr (4, [.ref (x37_7 0), .ref (x37_7 1), .int (zI 0), .int (zI 1), .int (zI (-6))])) :: ((x37_7 0), .inl (g 0, 12, .inl (fun _ => zI 1))) :: ((x37_7 1), .inl (g 0, 12, .inl (fun _ => zI 0))) :: (q33_8, .inr (4, [.ref (x37_9 0), .ref (x37_9 1), .int (zI 0), .int (zI 1), .int (zI (-6))])) :: ((x37_9 0), .inl (g 0, 12, .inl (fun _ => zI 1))) :: ((x37_9 1), .inl (g 0, 12, .inl (fun _ => zI 0))) :: (q33_10, .inr (4, [.ref (x37_11 0), .ref (x37_11 1), .int (zI 0), .int (zI 1), .int (zI (-6))])) :: ((x37_11 0), .inl (g 0, 12, .inl (fun _ => zI 1))) :: ((x37_11 1), .inl (g 0, 12, .inl (fun _ => zI 0))) :: (q33_12, .inr (4, [.ref (x37_13 0), .ref (x37_13 1), .int (zI 0), .int (zI 1), .int (zI (-6))])) :: ((x37_13 0), .inl (g 0, 12, .inl (fun _ => zI 1))) :: ((x37_13 1), .inl (g 0, 12, .inl (fun _ => zI 0))) :: []) : va_W) H := hP
  have hD : va_D A (((a, .inr (7, [.ref q7_0, .ref q15_1, .int (zI 0)])) :: (q7_0, .inl (g 2, 6, .inr (.inr (.inr (.inr (va_up (va_up (va_up (va_up (va_up (va_up (fun _ => none) 0 (some q33_2)) 1 (some q33_4)) 2 (some q33_6)) 3 (some q33_8)) 4 (some q33_10)) 5 (some q33_12))))))) :: (q15_1, .inl (g 0, 4, .inl (fun j => zI (if j = 2 then 100 else 0)))) :: (q33_2, .inr (4, [.ref (x37_3 0), .ref (x37_3 1), .int (zI 0), .int (zI 1), .int (zI (-6))])) :: ((x37_3 0), .inl (g 0, 12, .inl (fun _ => zI 1))) :: ((x37_3 1), .inl (g 0, 12, .inl (fun _ => zI 0))) :: (q33_4, .inr (4, [.ref (x37_5 0), .ref (x37_5 1), .int (zI 0), .int (zI 1), .int (zI (-6))])) :: ((x37_5 0), .inl (g 0, 12, .inl (fun _ => zI 1))) :: ((x37_5 1), .inl (g 0, 12, .inl (fun _ => zI 0))) :: (q33_6, .inr (4, [.ref (x37_7 0), .ref (x37_7 1), .int (zI 0), .int (zI 1), .int (zI (-6))])) :: ((x37_7 0), .inl (g 0, 12, .inl (fun _ => zI 1))) :: ((x37_7 1), .inl (g 0, 12, .inl (fun _ => zI 0))) :: (q33_8, .inr (4, [.ref (x37_9 0), .ref (x37_9 1), .int (zI 0), .int (zI 1), .int (zI (-6))])) :: ((x37_9 0), .inl (g 0, 12, .inl (fun _ => zI 1))) :: ((x37_9 1), .inl (g 0, 12, .inl (fun _ => zI 0))) :: (q33_10, .inr (4, [.ref (x37_11 0), .ref (x37_11 1), .int (zI 0), .int (zI 1), .int (zI (-6))])) :: ((x37_11 0), .inl (g 0, 12, .inl (fun _ => zI 1))) :: ((x37_11 1), .inl (g 0, 12, .inl (fun _ => zI 0))) :: (q33_12, .inr (4, [.ref (x37_13 0), .ref (x37_13 1), .int (zI 0), .int (zI 1), .int (zI (-6))])) :: ((x37_13 0), .inl (g 0, 12, .inl (fun _ => zI 1))) :: ((x37_13 1), .inl (g 0, 12, .inl (fun _ => zI 0))) :: []) : va_W) := hD
  exact y_ret B (fun i => ([q7_0, q15_1, q33_2, (x37_3 0), (x37_3 1), q33_4, (x37_5 0), (x37_5 1), q33_6, (x37_7 0), (x37_7 1), q33_8, (x37_9 0), (x37_9 1), q33_10, (x37_11 0), (x37_11 1), q33_12, (x37_13 0), (x37_13 1)] : List Nat).getD i 0) hP hD hS dX7_init_55
def WX1_init (g : Nat → ClassId) (a : Nat) (x : Nat → Nat) : va_W := [(a, .inr (1, [.ref (x 0), .ref (x 1), .ref (x 2)])), ((x 0), .inl (g 3, 4, .inr (.inr (.inr (.inr (va_up (va_up (va_up (va_up (fun _ => none) 0 (some (x 3))) 1 (some (x 4))) 2 (some (x 5))) 3 (some (x 6)))))))), ((x 1), .inl (g 0, 4, .inl (fun _ => zI (-6)))), ((x 2), .inr (6, [.int (zI 0), .int (zI 0)])), ((x 3), .inr (6, [.int (zI 0), .int (zI 50)])), ((x 4), .inr (6, [.int (zI 0), .int (zI 50)])), ((x 5), .inr (6, [.int (zI 0), .int (zI 50)])), ((x 6), .inr (6, [.int (zI 0), .int (zI 50)]))]
set_option maxHeartbeats 4000000 in
set_option maxRecDepth 100000 in
theorem M_X1_init (l : Launch) (D : va_G) (g : Nat → ClassId) (a : Nat) : MK l yX1_init cX1_init 2 2 32 7 18 D g a [] 1 [.null, .null, .null] (WX1_init g a) := by
  refine MK.intro (by decide +kernel) (Nat.le_of_ble_eq_true rfl) ?_
  intro A p e s m args below meth c ls B hKA hm hP hD hS hA hl
  have C : Cx D g RX1 cX1_init 2 p s m args c := B.1
  have hl : lv_has ls 2 [(0, .ref a)] := hl
  refine z_aln C hl 0 rfl dX1_init_0 ?_
  refine y_oinit C hl wg_91 dX1_init_1 ⟨(Nat.le_of_ble_eq_true rfl), (Nat.le_of_ble_eq_true rfl)⟩ ?_
  refine z_aln C hl 0 rfl dX1_init_4 ?_
  refine z_ic C dX1_init_5 ?_
  refine y_newq C 3 rfl hKA.2.2 wg_92 hP hD hS hA 4 rfl (by decide) (Nat.le_of_ble_eq_true rfl) (Nat.le_of_ble_eq_true rfl) dX1_init_6 (fun q6_0 H hP hD hS => ?_)
  have hP : va_P D vwCl [(a, .inr (1, [.null, .null, .null])), (q6_0, .inl (g 3, 4, .inr (.inr (.inr (.inr (fun _ => none))))))] H := hP
  have hD : va_D A [(a, .inr (1, [.null, .null, .null])), (q6_0, .inl (g 3, 4, .inr (.inr (.inr (.inr (fun _ => none))))))] := hD
  refine y_putF (kf := 0) (ty := (.array (.object "HairLine$Span"))) C hm hP hD hS 0 rfl (ci := 1) rfl inX1 tyX1_ok nmX1 (by decide) rfl rfl (by decide +kernel) rfl rfl (Nat.le_of_ble_eq_true rfl) wg_114 dX1_init_9 (fun H locs hP hD hS => ?_)
  have hP : va_P D vwCl [(a, .inr (1, [.ref q6_0, .null, .null])), (q6_0, .inl (g 3, 4, .inr (.inr (.inr (.inr (fun _ => none))))))] H := hP
  have hD : va_D A [(a, .inr (1, [.ref q6_0, .null, .null])), (q6_0, .inl (g 3, 4, .inr (.inr (.inr (.inr (fun _ => none))))))] := hD
  refine z_aln C hl 0 rfl dX1_init_12 ?_
  refine z_ic C dX1_init_13 ?_
  refine y_newa C hP hD hS hA 4 rfl (by decide) (Nat.le_of_ble_eq_true rfl) (Nat.le_of_ble_eq_true rfl) dX1_init_14 (fun q14_1 H hP hD hS => ?_)
  have hP : va_P D vwCl [(a, .inr (1, [.ref q6_0, .null, .null])), (q6_0, .inl (g 3, 4, .inr (.inr (.inr (.inr (fun _ => none)))))), (q14_1, .inl (g 0, 4, .inl (fun _ => zI 0)))] H := hP
  have hD : va_D A [(a, .inr (1, [.ref q6_0, .null, .null])), (q6_0, .inl (g 3, 4, .inr (.inr (.inr (.inr (fun _ => none)))))), (q14_1, .inl (g 0, 4, .inl (fun _ => zI 0)))] := hD
  refine y_putF (kf := 1) (ty := (.array .int)) C hm hP hD hS 0 rfl (ci := 1) rfl inX1 tyX1_ok nmX1 (by decide) rfl rfl (by decide +kernel) rfl rfl (Nat.le_of_ble_eq_true rfl) wg_116 dX1_init_16 (fun H locs hP hD hS => ?_)
  have hP : va_P D vwCl [(a, .inr (1, [.ref q6_0, .ref q14_1, .null])), (q6_0, .inl (g 3, 4, .inr (.inr (.inr (.inr (fun _ => none)))))), (q14_1, .inl (g 0, 4, .inl (fun _ => zI 0)))] H := hP
  have hD : va_D A [(a, .inr (1, [.ref q6_0, .ref q14_1, .null])), (q6_0, .inl (g 3, 4, .inr (.inr (.inr (.inr (fun _ => none)))))), (q14_1, .inl (g 0, 4, .inl (fun _ => zI 0)))] := hD
  refine z_aln C hl 0 rfl dX1_init_19 ?_
  refine y_new C inX6 tyX6 tyX6_ok wg_92 wg_94 wg_6 hP hD hS hA (ci := 6) rfl [.int (zI 0), .int (zI 0)] (fun j hj => match j, hj with | 0, _ => rfl | 1, _ => rfl | (n + 2), h => absurd h (by omega)) (Nat.le_of_ble_eq_true rfl) (Nat.le_of_ble_eq_true rfl) dX1_init_20 (fun q20_2 H hP hD hS => ?_)
  have hP : va_P D vwCl [(a, .inr (1, [.ref q6_0, .ref q14_1, .null])), (q6_0, .inl (g 3, 4, .inr (.inr (.inr (.inr (fun _ => none)))))), (q14_1, .inl (g 0, 4, .inl (fun _ => zI 0))), (q20_2, .inr (6, [.int (zI 0), .int (zI 0)]))] H := hP
  have hD : va_D A [(a, .inr (1, [.ref q6_0, .ref q14_1, .null])), (q6_0, .inl (g 3, 4, .inr (.inr (.inr (.inr (fun _ => none)))))), (q14_1, .inl (g 0, 4, .inl (fun _ => zI 0))), (q20_2, .inr (6, [.int (zI 0), .int (zI 0)]))] := hD
  refine z_dup C rfl dX1_init_23 ?_
  refine y_initN (ci := 6) (d0 := [.int (zI 0), .int (zI 0)]) (ws := [(a, .inr (1, [.ref q6_0, .ref q14_1, .null])), (q6_0, .inl (g 3, 4, .inr (.inr (.inr (.inr (fun _ => none)))))), (q14_1, .inl (g 0, 4, .inl (fun _ => zI 0)))]) C hKA hP hD hS hA hl (M_X6_init l D g q20_2) rfl wg_97 wg_6 wm_95 wg_96 cw_X6_init ⟨(Nat.le_of_ble_eq_true rfl), (Nat.le_of_ble_eq_true rfl)⟩ ⟨(Nat.le_of_ble_eq_true rfl), (Nat.le_of_ble_eq_true rfl)⟩ (Nat.le_of_ble_eq_true rfl) dX1_init_24 (fun x24_3 H locs hP hD hS => ?_)
  have hP : va_P D vwCl [(a, .inr (1, [.ref q6_0, .ref q14_1, .null])), (q6_0, .inl (g 3, 4, .inr (.inr (.inr (.inr (fun _ => none)))))), (q14_1, .inl (g 0, 4, .inl (fun _ => zI 0))), (q20_2, .inr (6, [.int (zI 0), .int (zI 0)]))] H := hP
  have hD : va_D A [(a, .inr (1, [.ref q6_0, .ref q14_1, .null])), (q6_0, .inl (g 3, 4, .inr (.inr (.inr (.inr (fun _ => none)))))), (q14_1, .inl (g 0, 4, .inl (fun _ => zI 0))), (q20_2, .inr (6, [.int (zI 0), .int (zI 0)]))] := hD
  refine y_putF (kf := 2) (ty := (.object "HairLine$Span")) C hm hP hD hS 0 rfl (ci := 1) rfl inX1 tyX1_ok nmX1 (by decide) rfl rfl (by decide +kernel) rfl rfl (Nat.le_of_ble_eq_true rfl) wg_118 dX1_init_27 (fun H locs hP hD hS => ?_)
  have hP : va_P D vwCl [(a, .inr (1, [.ref q6_0, .ref q14_1, .ref q20_2])), (q6_0, .inl (g 3, 4, .inr (.inr (.inr (.inr (fun _ => none)))))), (q14_1, .inl (g 0, 4, .inl (fun _ => zI 0))), (q20_2, .inr (6, [.int (zI 0), .int (zI 0)]))] H := hP
  have hD : va_D A [(a, .inr (1, [.ref q6_0, .ref q14_1, .ref q20_2])), (q6_0, .inl (g 3, 4, .inr (.inr (.inr (.inr (fun _ => none)))))), (q14_1, .inl (g 0, 4, .inl (fun _ => zI 0))), (q20_2, .inr (6, [.int (zI 0), .int (zI 0)]))] := hD
  refine z_ic C dX1_init_30 ?_
  refine z_isn C hl [(1, .int (zI 0)), (0, .ref a)] (by decide) rfl dX1_init_31 (fun ls hl => ?_)
  refine z_iln C hl 0 rfl dX1_init_32 ?_
  refine z_ic C dX1_init_33 ?_
  refine z_icmp_ge C 76 (by decide) ⟨by decide, by decide⟩ ⟨by decide, by decide⟩ dX1_init_34 (fun h => absurd h (by decide)) (fun _ => ?_)
  refine z_aln C hl 1 rfl dX1_init_37 ?_
  refine y_get (kf := 0) C hP 0 rfl (ci := 1) rfl inX1 (by decide) rfl wg_114 rfl dX1_init_38 ?_
  refine z_iln C hl 0 rfl dX1_init_41 ?_
  refine y_new C inX6 tyX6 tyX6_ok wg_92 wg_94 wg_6 hP hD hS hA (ci := 6) rfl [.int (zI 0), .int (zI 0)] (fun j hj => match j, hj with | 0, _ => rfl | 1, _ => rfl | (n + 2), h => absurd h (by omega)) (Nat.le_of_ble_eq_true rfl) (Nat.le_of_ble_eq_true rfl) dX1_init_42 (fun q42_4 H hP hD hS => ?_)
  have hP : va_P D vwCl [(a, .inr (1, [.ref q6_0, .ref q14_1, .ref q20_2])), (q6_0, .inl (g 3, 4, .inr (.inr (.inr (.inr (fun _ => none)))))), (q14_1, .inl (g 0, 4, .inl (fun _ => zI 0))), (q20_2, .inr (6, [.int (zI 0), .int (zI 0)])), (q42_4, .inr (6, [.int (zI 0), .int (zI 0)]))] H := hP
  have hD : va_D A [(a, .inr (1, [.ref q6_0, .ref q14_1, .ref q20_2])), (q6_0, .inl (g 3, 4, .inr (.inr (.inr (.inr (fun _ => none)))))), (q14_1, .inl (g 0, 4, .inl (fun _ => zI 0))), (q20_2, .inr (6, [.int (zI 0), .int (zI 0)])), (q42_4, .inr (6, [.int (zI 0), .int (zI 0)]))] := hD
  refine z_dup C rfl dX1_init_45 ?_
  refine y_initN (ci := 6) (d0 := [.int (zI 0), .int (zI 0)]) (ws := [(a, .inr (1, [.ref q6_0, .ref q14_1, .ref q20_2])), (q6_0, .inl (g 3, 4, .inr (.inr (.inr (.inr (fun _ => none)))))), (q14_1, .inl (g 0, 4, .inl (fun _ => zI 0))), (q20_2, .inr (6, [.int (zI 0), .int (zI 0)]))]) C hKA hP hD hS hA hl (M_X6_init l D g q42_4) rfl wg_97 wg_6 wm_95 wg_96 cw_X6_init ⟨(Nat.le_of_ble_eq_true rfl), (Nat.le_of_ble_eq_true rfl)⟩ ⟨(Nat.le_of_ble_eq_true rfl), (Nat.le_of_ble_eq_true rfl)⟩ (Nat.le_of_ble_eq_true rfl) dX1_init_46 (fun x46_5 H locs hP hD hS => ?_)
  have hP : va_P D vwCl [(a, .inr (1, [.ref q6_0, .ref q14_1, .ref q20_2])), (q6_0, .inl (g 3, 4, .inr (.inr (.inr (.inr (fun _ => none)))))), (q14_1, .inl (g 0, 4, .inl (fun _ => zI 0))), (q20_2, .inr (6, [.int (zI 0), .int (zI 0)])), (q42_4, .inr (6, [.int (zI 0), .int (zI 0)]))] H := hP
  have hD : va_D A [(a, .inr (1, [.ref q6_0, .ref q14_1, .ref q20_2])), (q6_0, .inl (g 3, 4, .inr (.inr (.inr (.inr (fun _ => none)))))), (q14_1, .inl (g 0, 4, .inl (fun _ => zI 0))), (q20_2, .inr (6, [.int (zI 0), .int (zI 0)])), (q42_4, .inr (6, [.int (zI 0), .int (zI 0)]))] := hD
  refine y_aast C hP hD hS 1 4 3 6 rfl rfl rfl rfl 0 rfl (by decide) (by decide) dX1_init_49 (fun H locs hP hD hS => ?_)
  have hP : va_P D vwCl [(a, .inr (1, [.ref q6_0, .ref q14_1, .ref q20_2])), (q6_0, .inl (g 3, 4, .inr (.inr (.inr (.inr (va_up (fun _ => none) 0 (some q42_4))))))), (q14_1, .inl (g 0, 4, .inl (fun _ => zI 0))), (q20_2, .inr (6, [.int (zI 0), .int (zI 0)])), (q42_4, .inr (6, [.int (zI 0), .int (zI 0)]))] H := hP
  have hD : va_D A [(a, .inr (1, [.ref q6_0, .ref q14_1, .ref q20_2])), (q6_0, .inl (g 3, 4, .inr (.inr (.inr (.inr (va_up (fun _ => none) 0 (some q42_4))))))), (q14_1, .inl (g 0, 4, .inl (fun _ => zI 0))), (q20_2, .inr (6, [.int (zI 0), .int (zI 0)])), (q42_4, .inr (6, [.int (zI 0), .int (zI 0)]))] := hD
  refine z_aln C hl 1 rfl dX1_init_50 ?_
  refine y_get (kf := 0) C hP 0 rfl (ci := 1) rfl inX1 (by decide) rfl wg_114 rfl dX1_init_51 ?_
  refine z_iln C hl 0 rfl dX1_init_54 ?_
  refine y_aald C hP 1 3 rfl rfl 0 rfl (by decide) (by decide) dX1_init_55 ?_
  refine z_ic C dX1_init_56 ?_
  refine z_bp C dX1_init_57 rfl ?_
  refine y_callV (ws := [(a, .inr (1, [.ref q6_0, .ref q14_1, .ref q20_2])), (q6_0, .inl (g 3, 4, .inr (.inr (.inr (.inr (va_up (fun _ => none) 0 (some q42_4))))))), (q14_1, .inl (g 0, 4, .inl (fun _ => zI 0))), (q20_2, .inr (6, [.int (zI 0), .int (zI 0)]))]) (rest := []) C hKA hP hD hS hA hl (M_X6_put l D g q42_4) rfl rfl wg_113 wg_6 wg_110 wg_111 wg_112 cw_X6_put rfl ⟨(Nat.le_of_ble_eq_true rfl), (Nat.le_of_ble_eq_true rfl)⟩ ⟨(Nat.le_of_ble_eq_true rfl), (Nat.le_of_ble_eq_true rfl)⟩ rfl (Nat.le_of_ble_eq_true rfl) dX1_init_59 (fun x59_6 H locs hP hD hS => ?_)
  have hP : va_P D vwCl [(a, .inr (1, [.ref q6_0, .ref q14_1, .ref q20_2])), (q6_0, .inl (g 3, 4, .inr (.inr (.inr (.inr (va_up (fun _ => none) 0 (some q42_4))))))), (q14_1, .inl (g 0, 4, .inl (fun _ => zI 0))), (q20_2, .inr (6, [.int (zI 0), .int (zI 0)])), (q42_4, .inr (6, [.int (zI 0), .int (zI 50)]))] H := hP
  have hD : va_D A [(a, .inr (1, [.ref q6_0, .ref q14_1, .ref q20_2])), (q6_0, .inl (g 3, 4, .inr (.inr (.inr (.inr (va_up (fun _ => none) 0 (some q42_4))))))), (q14_1, .inl (g 0, 4, .inl (fun _ => zI 0))), (q20_2, .inr (6, [.int (zI 0), .int (zI 0)])), (q42_4, .inr (6, [.int (zI 0), .int (zI 50)]))] := hD
  refine z_aln C hl 1 rfl dX1_init_62 ?_
  refine y_get (kf := 1) C hP 0 rfl (ci := 1) rfl inX1 (by decide) rfl wg_116 rfl dX1_init_63 ?_
  refine z_iln C hl 0 rfl dX1_init_66 ?_
  refine z_bp C dX1_init_67 rfl ?_
  refine y_iast C hP hD hS 2 rfl 0 rfl (by decide) (by decide) dX1_init_69 (fun H locs hP hD hS => ?_)
  have hP : va_P D vwCl [(a, .inr (1, [.ref q6_0, .ref q14_1, .ref q20_2])), (q6_0, .inl (g 3, 4, .inr (.inr (.inr (.inr (va_up (fun _ => none) 0 (some q42_4))))))), (q14_1, .inl (g 0, 4, .inl (upd (fun _ => zI 0) 0 (zI (-6))))), (q20_2, .inr (6, [.int (zI 0), .int (zI 0)])), (q42_4, .inr (6, [.int (zI 0), .int (zI 50)]))] H := hP
  have hD : va_D A [(a, .inr (1, [.ref q6_0, .ref q14_1, .ref q20_2])), (q6_0, .inl (g 3, 4, .inr (.inr (.inr (.inr (va_up (fun _ => none) 0 (some q42_4))))))), (q14_1, .inl (g 0, 4, .inl (upd (fun _ => zI 0) 0 (zI (-6))))), (q20_2, .inr (6, [.int (zI 0), .int (zI 0)])), (q42_4, .inr (6, [.int (zI 0), .int (zI 50)]))] := hD
  refine z_iinc C hl 0 rfl [(1, .int (zI 1)), (0, .ref a)] (by decide) rfl dX1_init_70 (fun ls hl => ?_)
  refine z_goto C 32 (by decide) dX1_init_73 ?_
  refine z_iln C hl 0 rfl dX1_init_32 ?_
  refine z_ic C dX1_init_33 ?_
  refine z_icmp_ge C 76 (by decide) ⟨by decide, by decide⟩ ⟨by decide, by decide⟩ dX1_init_34 (fun h => absurd h (by decide)) (fun _ => ?_)
  refine z_aln C hl 1 rfl dX1_init_37 ?_
  refine y_get (kf := 0) C hP 0 rfl (ci := 1) rfl inX1 (by decide) rfl wg_114 rfl dX1_init_38 ?_
  refine z_iln C hl 0 rfl dX1_init_41 ?_
  refine y_new C inX6 tyX6 tyX6_ok wg_92 wg_94 wg_6 hP hD hS hA (ci := 6) rfl [.int (zI 0), .int (zI 0)] (fun j hj => match j, hj with | 0, _ => rfl | 1, _ => rfl | (n + 2), h => absurd h (by omega)) (Nat.le_of_ble_eq_true rfl) (Nat.le_of_ble_eq_true rfl) dX1_init_42 (fun q42_7 H hP hD hS => ?_)
  have hP : va_P D vwCl [(a, .inr (1, [.ref q6_0, .ref q14_1, .ref q20_2])), (q6_0, .inl (g 3, 4, .inr (.inr (.inr (.inr (va_up (fun _ => none) 0 (some q42_4))))))), (q14_1, .inl (g 0, 4, .inl (upd (fun _ => zI 0) 0 (zI (-6))))), (q20_2, .inr (6, [.int (zI 0), .int (zI 0)])), (q42_4, .inr (6, [.int (zI 0), .int (zI 50)])), (q42_7, .inr (6, [.int (zI 0), .int (zI 0)]))] H := hP
  have hD : va_D A [(a, .inr (1, [.ref q6_0, .ref q14_1, .ref q20_2])), (q6_0, .inl (g 3, 4, .inr (.inr (.inr (.inr (va_up (fun _ => none) 0 (some q42_4))))))), (q14_1, .inl (g 0, 4, .inl (upd (fun _ => zI 0) 0 (zI (-6))))), (q20_2, .inr (6, [.int (zI 0), .int (zI 0)])), (q42_4, .inr (6, [.int (zI 0), .int (zI 50)])), (q42_7, .inr (6, [.int (zI 0), .int (zI 0)]))] := hD
  refine z_dup C rfl dX1_init_45 ?_
  refine y_initN (ci := 6) (d0 := [.int (zI 0), .int (zI 0)]) (ws := [(a, .inr (1, [.ref q6_0, .ref q14_1, .ref q20_2])), (q6_0, .inl (g 3, 4, .inr (.inr (.inr (.inr (va_up (fun _ => none) 0 (some q42_4))))))), (q14_1, .inl (g 0, 4, .inl (upd (fun _ => zI 0) 0 (zI (-6))))), (q20_2, .inr (6, [.int (zI 0), .int (zI 0)])), (q42_4, .inr (6, [.int (zI 0), .int (zI 50)]))]) C hKA hP hD hS hA hl (M_X6_init l D g q42_7) rfl wg_97 wg_6 wm_95 wg_96 cw_X6_init ⟨(Nat.le_of_ble_eq_true rfl), (Nat.le_of_ble_eq_true rfl)⟩ ⟨(Nat.le_of_ble_eq_true rfl), (Nat.le_of_ble_eq_true rfl)⟩ (Nat.le_of_ble_eq_true rfl) dX1_init_46 (fun x46_8 H locs hP hD hS => ?_)
  have hP : va_P D vwCl [(a, .inr (1, [.ref q6_0, .ref q14_1, .ref q20_2])), (q6_0, .inl (g 3, 4, .inr (.inr (.inr (.inr (va_up (fun _ => none) 0 (some q42_4))))))), (q14_1, .inl (g 0, 4, .inl (upd (fun _ => zI 0) 0 (zI (-6))))), (q20_2, .inr (6, [.int (zI 0), .int (zI 0)])), (q42_4, .inr (6, [.int (zI 0), .int (zI 50)])), (q42_7, .inr (6, [.int (zI 0), .int (zI 0)]))] H := hP
  have hD : va_D A [(a, .inr (1, [.ref q6_0, .ref q14_1, .ref q20_2])), (q6_0, .inl (g 3, 4, .inr (.inr (.inr (.inr (va_up (fun _ => none) 0 (some q42_4))))))), (q14_1, .inl (g 0, 4, .inl (upd (fun _ => zI 0) 0 (zI (-6))))), (q20_2, .inr (6, [.int (zI 0), .int (zI 0)])), (q42_4, .inr (6, [.int (zI 0), .int (zI 50)])), (q42_7, .inr (6, [.int (zI 0), .int (zI 0)]))] := hD
  refine y_aast C hP hD hS 1 5 3 6 rfl rfl rfl rfl 1 rfl (by decide) (by decide) dX1_init_49 (fun H locs hP hD hS => ?_)
  have hP : va_P D vwCl [(a, .inr (1, [.ref q6_0, .ref q14_1, .ref q20_2])), (q6_0, .inl (g 3, 4, .inr (.inr (.inr (.inr (va_up (va_up (fun _ => none) 0 (some q42_4)) 1 (some q42_7))))))), (q14_1, .inl (g 0, 4, .inl (upd (fun _ => zI 0) 0 (zI (-6))))), (q20_2, .inr (6, [.int (zI 0), .int (zI 0)])), (q42_4, .inr (6, [.int (zI 0), .int (zI 50)])), (q42_7, .inr (6, [.int (zI 0), .int (zI 0)]))] H := hP
  have hD : va_D A [(a, .inr (1, [.ref q6_0, .ref q14_1, .ref q20_2])), (q6_0, .inl (g 3, 4, .inr (.inr (.inr (.inr (va_up (va_up (fun _ => none) 0 (some q42_4)) 1 (some q42_7))))))), (q14_1, .inl (g 0, 4, .inl (upd (fun _ => zI 0) 0 (zI (-6))))), (q20_2, .inr (6, [.int (zI 0), .int (zI 0)])), (q42_4, .inr (6, [.int (zI 0), .int (zI 50)])), (q42_7, .inr (6, [.int (zI 0), .int (zI 0)]))] := hD
  refine z_aln C hl 1 rfl dX1_init_50 ?_
  refine y_get (kf := 0) C hP 0 rfl (ci := 1) rfl inX1 (by decide) rfl wg_114 rfl dX1_init_51 ?_
  refine z_iln C hl 0 rfl dX1_init_54 ?_
  refine y_aald C hP 1 3 rfl rfl 1 rfl (by decide) (by decide) dX1_init_55 ?_
  refine z_ic C dX1_init_56 ?_
  refine z_bp C dX1_init_57 rfl ?_
  refine y_callV (ws := [(a, .inr (1, [.ref q6_0, .ref q14_1, .ref q20_2])), (q6_0, .inl (g 3, 4, .inr (.inr (.inr (.inr (va_up (va_up (fun _ => none) 0 (some q42_4)) 1 (some q42_7))))))), (q14_1, .inl (g 0, 4, .inl (upd (fun _ => zI 0) 0 (zI (-6))))), (q20_2, .inr (6, [.int (zI 0), .int (zI 0)])), (q42_4, .inr (6, [.int (zI 0), .int (zI 50)]))]) (rest := []) C hKA hP hD hS hA hl (M_X6_put l D g q42_7) rfl rfl wg_113 wg_6 wg_110 wg_111 wg_112 cw_X6_put rfl ⟨(Nat.le_of_ble_eq_true rfl), (Nat.le_of_ble_eq_true rfl)⟩ ⟨(Nat.le_of_ble_eq_true rfl), (Nat.le_of_ble_eq_true rfl)⟩ rfl (Nat.le_of_ble_eq_true rfl) dX1_init_59 (fun x59_9 H locs hP hD hS => ?_)
  have hP : va_P D vwCl [(a, .inr (1, [.ref q6_0, .ref q14_1, .ref q20_2])), (q6_0, .inl (g 3, 4, .inr (.inr (.inr (.inr (va_up (va_up (fun _ => none) 0 (some q42_4)) 1 (some q42_7))))))), (q14_1, .inl (g 0, 4, .inl (upd (fun _ => zI 0) 0 (zI (-6))))), (q20_2, .inr (6, [.int (zI 0), .int (zI 0)])), (q42_4, .inr (6, [.int (zI 0), .int (zI 50)])), (q42_7, .inr (6, [.int (zI 0), .int (zI 50)]))] H := hP
  have hD : va_D A [(a, .inr (1, [.ref q6_0, .ref q14_1, .ref q20_2])), (q6_0, .inl (g 3, 4, .inr (.inr (.inr (.inr (va_up (va_up (fun _ => none) 0 (some q42_4)) 1 (some q42_7))))))), (q14_1, .inl (g 0, 4, .inl (upd (fun _ => zI 0) 0 (zI (-6))))), (q20_2, .inr (6, [.int (zI 0), .int (zI 0)])), (q42_4, .inr (6, [.int (zI 0), .int (zI 50)])), (q42_7, .inr (6, [.int (zI 0), .int (zI 50)]))] := hD
  refine z_aln C hl 1 rfl dX1_init_62 ?_
  refine y_get (kf := 1) C hP 0 rfl (ci := 1) rfl inX1 (by decide) rfl wg_116 rfl dX1_init_63 ?_
  refine z_iln C hl 0 rfl dX1_init_66 ?_
  refine z_bp C dX1_init_67 rfl ?_
  refine y_iast C hP hD hS 2 rfl 1 rfl (by decide) (by decide) dX1_init_69 (fun H locs hP hD hS => ?_)
  have hP : va_P D vwCl [(a, .inr (1, [.ref q6_0, .ref q14_1, .ref q20_2])), (q6_0, .inl (g 3, 4, .inr (.inr (.inr (.inr (va_up (va_up (fun _ => none) 0 (some q42_4)) 1 (some q42_7))))))), (q14_1, .inl (g 0, 4, .inl (upd (upd (fun _ => zI 0) 0 (zI (-6))) 1 (zI (-6))))), (q20_2, .inr (6, [.int (zI 0), .int (zI 0)])), (q42_4, .inr (6, [.int (zI 0), .int (zI 50)])), (q42_7, .inr (6, [.int (zI 0), .int (zI 50)]))] H := hP
  have hD : va_D A [(a, .inr (1, [.ref q6_0, .ref q14_1, .ref q20_2])), (q6_0, .inl (g 3, 4, .inr (.inr (.inr (.inr (va_up (va_up (fun _ => none) 0 (some q42_4)) 1 (some q42_7))))))), (q14_1, .inl (g 0, 4, .inl (upd (upd (fun _ => zI 0) 0 (zI (-6))) 1 (zI (-6))))), (q20_2, .inr (6, [.int (zI 0), .int (zI 0)])), (q42_4, .inr (6, [.int (zI 0), .int (zI 50)])), (q42_7, .inr (6, [.int (zI 0), .int (zI 50)]))] := hD
  refine z_iinc C hl 0 rfl [(1, .int (zI 2)), (0, .ref a)] (by decide) rfl dX1_init_70 (fun ls hl => ?_)
  refine z_goto C 32 (by decide) dX1_init_73 ?_
  refine z_iln C hl 0 rfl dX1_init_32 ?_
  refine z_ic C dX1_init_33 ?_
  refine z_icmp_ge C 76 (by decide) ⟨by decide, by decide⟩ ⟨by decide, by decide⟩ dX1_init_34 (fun h => absurd h (by decide)) (fun _ => ?_)
  refine z_aln C hl 1 rfl dX1_init_37 ?_
  refine y_get (kf := 0) C hP 0 rfl (ci := 1) rfl inX1 (by decide) rfl wg_114 rfl dX1_init_38 ?_
  refine z_iln C hl 0 rfl dX1_init_41 ?_
  refine y_new C inX6 tyX6 tyX6_ok wg_92 wg_94 wg_6 hP hD hS hA (ci := 6) rfl [.int (zI 0), .int (zI 0)] (fun j hj => match j, hj with | 0, _ => rfl | 1, _ => rfl | (n + 2), h => absurd h (by omega)) (Nat.le_of_ble_eq_true rfl) (Nat.le_of_ble_eq_true rfl) dX1_init_42 (fun q42_10 H hP hD hS => ?_)
  have hP : va_P D vwCl [(a, .inr (1, [.ref q6_0, .ref q14_1, .ref q20_2])), (q6_0, .inl (g 3, 4, .inr (.inr (.inr (.inr (va_up (va_up (fun _ => none) 0 (some q42_4)) 1 (some q42_7))))))), (q14_1, .inl (g 0, 4, .inl (upd (upd (fun _ => zI 0) 0 (zI (-6))) 1 (zI (-6))))), (q20_2, .inr (6, [.int (zI 0), .int (zI 0)])), (q42_4, .inr (6, [.int (zI 0), .int (zI 50)])), (q42_7, .inr (6, [.int (zI 0), .int (zI 50)])), (q42_10, .inr (6, [.int (zI 0), .int (zI 0)]))] H := hP
  have hD : va_D A [(a, .inr (1, [.ref q6_0, .ref q14_1, .ref q20_2])), (q6_0, .inl (g 3, 4, .inr (.inr (.inr (.inr (va_up (va_up (fun _ => none) 0 (some q42_4)) 1 (some q42_7))))))), (q14_1, .inl (g 0, 4, .inl (upd (upd (fun _ => zI 0) 0 (zI (-6))) 1 (zI (-6))))), (q20_2, .inr (6, [.int (zI 0), .int (zI 0)])), (q42_4, .inr (6, [.int (zI 0), .int (zI 50)])), (q42_7, .inr (6, [.int (zI 0), .int (zI 50)])), (q42_10, .inr (6, [.int (zI 0), .int (zI 0)]))] := hD
  refine z_dup C rfl dX1_init_45 ?_
  refine y_initN (ci := 6) (d0 := [.int (zI 0), .int (zI 0)]) (ws := [(a, .inr (1, [.ref q6_0, .ref q14_1, .ref q20_2])), (q6_0, .inl (g 3, 4, .inr (.inr (.inr (.inr (va_up (va_up (fun _ => none) 0 (some q42_4)) 1 (some q42_7))))))), (q14_1, .inl (g 0, 4, .inl (upd (upd (fun _ => zI 0) 0 (zI (-6))) 1 (zI (-6))))), (q20_2, .inr (6, [.int (zI 0), .int (zI 0)])), (q42_4, .inr (6, [.int (zI 0), .int (zI 50)])), (q42_7, .inr (6, [.int (zI 0), .int (zI 50)]))]) C hKA hP hD hS hA hl (M_X6_init l D g q42_10) rfl wg_97 wg_6 wm_95 wg_96 cw_X6_init ⟨(Nat.le_of_ble_eq_true rfl), (Nat.le_of_ble_eq_true rfl)⟩ ⟨(Nat.le_of_ble_eq_true rfl), (Nat.le_of_ble_eq_true rfl)⟩ (Nat.le_of_ble_eq_true rfl) dX1_init_46 (fun x46_11 H locs hP hD hS => ?_)
  have hP : va_P D vwCl [(a, .inr (1, [.ref q6_0, .ref q14_1, .ref q20_2])), (q6_0, .inl (g 3, 4, .inr (.inr (.inr (.inr (va_up (va_up (fun _ => none) 0 (some q42_4)) 1 (some q42_7))))))), (q14_1, .inl (g 0, 4, .inl (upd (upd (fun _ => zI 0) 0 (zI (-6))) 1 (zI (-6))))), (q20_2, .inr (6, [.int (zI 0), .int (zI 0)])), (q42_4, .inr (6, [.int (zI 0), .int (zI 50)])), (q42_7, .inr (6, [.int (zI 0), .int (zI 50)])), (q42_10, .inr (6, [.int (zI 0), .int (zI 0)]))] H := hP
  have hD : va_D A [(a, .inr (1, [.ref q6_0, .ref q14_1, .ref q20_2])), (q6_0, .inl (g 3, 4, .inr (.inr (.inr (.inr (va_up (va_up (fun _ => none) 0 (some q42_4)) 1 (some q42_7))))))), (q14_1, .inl (g 0, 4, .inl (upd (upd (fun _ => zI 0) 0 (zI (-6))) 1 (zI (-6))))), (q20_2, .inr (6, [.int (zI 0), .int (zI 0)])), (q42_4, .inr (6, [.int (zI 0), .int (zI 50)])), (q42_7, .inr (6, [.int (zI 0), .int (zI 50)])), (q42_10, .inr (6, [.int (zI 0), .int (zI 0)]))] := hD
  refine y_aast C hP hD hS 1 6 3 6 rfl rfl rfl rfl 2 rfl (by decide) (by decide) dX1_init_49 (fun H locs hP hD hS => ?_)
  have hP : va_P D vwCl [(a, .inr (1, [.ref q6_0, .ref q14_1, .ref q20_2])), (q6_0, .inl (g 3, 4, .inr (.inr (.inr (.inr (va_up (va_up (va_up (fun _ => none) 0 (some q42_4)) 1 (some q42_7)) 2 (some q42_10))))))), (q14_1, .inl (g 0, 4, .inl (upd (upd (fun _ => zI 0) 0 (zI (-6))) 1 (zI (-6))))), (q20_2, .inr (6, [.int (zI 0), .int (zI 0)])), (q42_4, .inr (6, [.int (zI 0), .int (zI 50)])), (q42_7, .inr (6, [.int (zI 0), .int (zI 50)])), (q42_10, .inr (6, [.int (zI 0), .int (zI 0)]))] H := hP
  have hD : va_D A [(a, .inr (1, [.ref q6_0, .ref q14_1, .ref q20_2])), (q6_0, .inl (g 3, 4, .inr (.inr (.inr (.inr (va_up (va_up (va_up (fun _ => none) 0 (some q42_4)) 1 (some q42_7)) 2 (some q42_10))))))), (q14_1, .inl (g 0, 4, .inl (upd (upd (fun _ => zI 0) 0 (zI (-6))) 1 (zI (-6))))), (q20_2, .inr (6, [.int (zI 0), .int (zI 0)])), (q42_4, .inr (6, [.int (zI 0), .int (zI 50)])), (q42_7, .inr (6, [.int (zI 0), .int (zI 50)])), (q42_10, .inr (6, [.int (zI 0), .int (zI 0)]))] := hD
  refine z_aln C hl 1 rfl dX1_init_50 ?_
  refine y_get (kf := 0) C hP 0 rfl (ci := 1) rfl inX1 (by decide) rfl wg_114 rfl dX1_init_51 ?_
  refine z_iln C hl 0 rfl dX1_init_54 ?_
  refine y_aald C hP 1 3 rfl rfl 2 rfl (by decide) (by decide) dX1_init_55 ?_
  refine z_ic C dX1_init_56 ?_
  refine z_bp C dX1_init_57 rfl ?_
  refine y_callV (ws := [(a, .inr (1, [.ref q6_0, .ref q14_1, .ref q20_2])), (q6_0, .inl (g 3, 4, .inr (.inr (.inr (.inr (va_up (va_up (va_up (fun _ => none) 0 (some q42_4)) 1 (some q42_7)) 2 (some q42_10))))))), (q14_1, .inl (g 0, 4, .inl (upd (upd (fun _ => zI 0) 0 (zI (-6))) 1 (zI (-6))))), (q20_2, .inr (6, [.int (zI 0), .int (zI 0)])), (q42_4, .inr (6, [.int (zI 0), .int (zI 50)])), (q42_7, .inr (6, [.int (zI 0), .int (zI 50)]))]) (rest := []) C hKA hP hD hS hA hl (M_X6_put l D g q42_10) rfl rfl wg_113 wg_6 wg_110 wg_111 wg_112 cw_X6_put rfl ⟨(Nat.le_of_ble_eq_true rfl), (Nat.le_of_ble_eq_true rfl)⟩ ⟨(Nat.le_of_ble_eq_true rfl), (Nat.le_of_ble_eq_true rfl)⟩ rfl (Nat.le_of_ble_eq_true rfl) dX1_init_59 (fun x59_12 H locs hP hD hS => ?_)
  have hP : va_P D vwCl [(a, .inr (1, [.ref q6_0, .ref q14_1, .ref q20_2])), (q6_0, .inl (g 3, 4, .inr (.inr (.inr (.inr (va_up (va_up (va_up (fun _ => none) 0 (some q42_4)) 1 (some q42_7)) 2 (some q42_10))))))), (q14_1, .inl (g 0, 4, .inl (upd (upd (fun _ => zI 0) 0 (zI (-6))) 1 (zI (-6))))), (q20_2, .inr (6, [.int (zI 0), .int (zI 0)])), (q42_4, .inr (6, [.int (zI 0), .int (zI 50)])), (q42_7, .inr (6, [.int (zI 0), .int (zI 50)])), (q42_10, .inr (6, [.int (zI 0), .int (zI 50)]))] H := hP
  have hD : va_D A [(a, .inr (1, [.ref q6_0, .ref q14_1, .ref q20_2])), (q6_0, .inl (g 3, 4, .inr (.inr (.inr (.inr (va_up (va_up (va_up (fun _ => none) 0 (some q42_4)) 1 (some q42_7)) 2 (some q42_10))))))), (q14_1, .inl (g 0, 4, .inl (upd (upd (fun _ => zI 0) 0 (zI (-6))) 1 (zI (-6))))), (q20_2, .inr (6, [.int (zI 0), .int (zI 0)])), (q42_4, .inr (6, [.int (zI 0), .int (zI 50)])), (q42_7, .inr (6, [.int (zI 0), .int (zI 50)])), (q42_10, .inr (6, [.int (zI 0), .int (zI 50)]))] := hD
  refine z_aln C hl 1 rfl dX1_init_62 ?_
  refine y_get (kf := 1) C hP 0 rfl (ci := 1) rfl inX1 (by decide) rfl wg_116 rfl dX1_init_63 ?_
  refine z_iln C hl 0 rfl dX1_init_66 ?_
  refine z_bp C dX1_init_67 rfl ?_
  refine y_iast C hP hD hS 2 rfl 2 rfl (by decide) (by decide) dX1_init_69 (fun H locs hP hD hS => ?_)
  have hP : va_P D vwCl [(a, .inr (1, [.ref q6_0, .ref q14_1, .ref q20_2])), (q6_0, .inl (g 3, 4, .inr (.inr (.inr (.inr (va_up (va_up (va_up (fun _ => none) 0 (some q42_4)) 1 (some q42_7)) 2 (some q42_10))))))), (q14_1, .inl (g 0, 4, .inl (upd (upd (upd (fun _ => zI 0) 0 (zI (-6))) 1 (zI (-6))) 2 (zI (-6))))), (q20_2, .inr (6, [.int (zI 0), .int (zI 0)])), (q42_4, .inr (6, [.int (zI 0), .int (zI 50)])), (q42_7, .inr (6, [.int (zI 0), .int (zI 50)])), (q42_10, .inr (6, [.int (zI 0), .int (zI 50)]))] H := hP
  have hD : va_D A [(a, .inr (1, [.ref q6_0, .ref q14_1, .ref q20_2])), (q6_0, .inl (g 3, 4, .inr (.inr (.inr (.inr (va_up (va_up (va_up (fun _ => none) 0 (some q42_4)) 1 (some q42_7)) 2 (some q42_10))))))), (q14_1, .inl (g 0, 4, .inl (upd (upd (upd (fun _ => zI 0) 0 (zI (-6))) 1 (zI (-6))) 2 (zI (-6))))), (q20_2, .inr (6, [.int (zI 0), .int (zI 0)])), (q42_4, .inr (6, [.int (zI 0), .int (zI 50)])), (q42_7, .inr (6, [.int (zI 0), .int (zI 50)])), (q42_10, .inr (6, [.int (zI 0), .int (zI 50)]))] := hD
  refine z_iinc C hl 0 rfl [(1, .int (zI 3)), (0, .ref a)] (by decide) rfl dX1_init_70 (fun ls hl => ?_)
  refine z_goto C 32 (by decide) dX1_init_73 ?_
  refine z_iln C hl 0 rfl dX1_init_32 ?_
  refine z_ic C dX1_init_33 ?_
  refine z_icmp_ge C 76 (by decide) ⟨by decide, by decide⟩ ⟨by decide, by decide⟩ dX1_init_34 (fun h => absurd h (by decide)) (fun _ => ?_)
  refine z_aln C hl 1 rfl dX1_init_37 ?_
  refine y_get (kf := 0) C hP 0 rfl (ci := 1) rfl inX1 (by decide) rfl wg_114 rfl dX1_init_38 ?_
  refine z_iln C hl 0 rfl dX1_init_41 ?_
  refine y_new C inX6 tyX6 tyX6_ok wg_92 wg_94 wg_6 hP hD hS hA (ci := 6) rfl [.int (zI 0), .int (zI 0)] (fun j hj => match j, hj with | 0, _ => rfl | 1, _ => rfl | (n + 2), h => absurd h (by omega)) (Nat.le_of_ble_eq_true rfl) (Nat.le_of_ble_eq_true rfl) dX1_init_42 (fun q42_13 H hP hD hS => ?_)
  have hP : va_P D vwCl [(a, .inr (1, [.ref q6_0, .ref q14_1, .ref q20_2])), (q6_0, .inl (g 3, 4, .inr (.inr (.inr (.inr (va_up (va_up (va_up (fun _ => none) 0 (some q42_4)) 1 (some q42_7)) 2 (some q42_10))))))), (q14_1, .inl (g 0, 4, .inl (upd (upd (upd (fun _ => zI 0) 0 (zI (-6))) 1 (zI (-6))) 2 (zI (-6))))), (q20_2, .inr (6, [.int (zI 0), .int (zI 0)])), (q42_4, .inr (6, [.int (zI 0), .int (zI 50)])), (q42_7, .inr (6, [.int (zI 0), .int (zI 50)])), (q42_10, .inr (6, [.int (zI 0), .int (zI 50)])), (q42_13, .inr (6, [.int (zI 0), .int (zI 0)]))] H := hP
  have hD : va_D A [(a, .inr (1, [.ref q6_0, .ref q14_1, .ref q20_2])), (q6_0, .inl (g 3, 4, .inr (.inr (.inr (.inr (va_up (va_up (va_up (fun _ => none) 0 (some q42_4)) 1 (some q42_7)) 2 (some q42_10))))))), (q14_1, .inl (g 0, 4, .inl (upd (upd (upd (fun _ => zI 0) 0 (zI (-6))) 1 (zI (-6))) 2 (zI (-6))))), (q20_2, .inr (6, [.int (zI 0), .int (zI 0)])), (q42_4, .inr (6, [.int (zI 0), .int (zI 50)])), (q42_7, .inr (6, [.int (zI 0), .int (zI 50)])), (q42_10, .inr (6, [.int (zI 0), .int (zI 50)])), (q42_13, .inr (6, [.int (zI 0), .int (zI 0)]))] := hD
  refine z_dup C rfl dX1_init_45 ?_
  refine y_initN (ci := 6) (d0 := [.int (zI 0), .int (zI 0)]) (ws := [(a, .inr (1, [.ref q6_0, .ref q14_1, .ref q20_2])), (q6_0, .inl (g 3, 4, .inr (.inr (.inr (.inr (va_up (va_up (va_up (fun _ => none) 0 (some q42_4)) 1 (some q42_7)) 2 (some q42_10))))))), (q14_1, .inl (g 0, 4, .inl (upd (upd (upd (fun _ => zI 0) 0 (zI (-6))) 1 (zI (-6))) 2 (zI (-6))))), (q20_2, .inr (6, [.int (zI 0), .int (zI 0)])), (q42_4, .inr (6, [.int (zI 0), .int (zI 50)])), (q42_7, .inr (6, [.int (zI 0), .int (zI 50)])), (q42_10, .inr (6, [.int (zI 0), .int (zI 50)]))]) C hKA hP hD hS hA hl (M_X6_init l D g q42_13) rfl wg_97 wg_6 wm_95 wg_96 cw_X6_init ⟨(Nat.le_of_ble_eq_true rfl), (Nat.le_of_ble_eq_true rfl)⟩ ⟨(Nat.le_of_ble_eq_true rfl), (Nat.le_of_ble_eq_true rfl)⟩ (Nat.le_of_ble_eq_true rfl) dX1_init_46 (fun x46_14 H locs hP hD hS => ?_)
  have hP : va_P D vwCl [(a, .inr (1, [.ref q6_0, .ref q14_1, .ref q20_2])), (q6_0, .inl (g 3, 4, .inr (.inr (.inr (.inr (va_up (va_up (va_up (fun _ => none) 0 (some q42_4)) 1 (some q42_7)) 2 (some q42_10))))))), (q14_1, .inl (g 0, 4, .inl (upd (upd (upd (fun _ => zI 0) 0 (zI (-6))) 1 (zI (-6))) 2 (zI (-6))))), (q20_2, .inr (6, [.int (zI 0), .int (zI 0)])), (q42_4, .inr (6, [.int (zI 0), .int (zI 50)])), (q42_7, .inr (6, [.int (zI 0), .int (zI 50)])), (q42_10, .inr (6, [.int (zI 0), .int (zI 50)])), (q42_13, .inr (6, [.int (zI 0), .int (zI 0)]))] H := hP
  have hD : va_D A [(a, .inr (1, [.ref q6_0, .ref q14_1, .ref q20_2])), (q6_0, .inl (g 3, 4, .inr (.inr (.inr (.inr (va_up (va_up (va_up (fun _ => none) 0 (some q42_4)) 1 (some q42_7)) 2 (some q42_10))))))), (q14_1, .inl (g 0, 4, .inl (upd (upd (upd (fun _ => zI 0) 0 (zI (-6))) 1 (zI (-6))) 2 (zI (-6))))), (q20_2, .inr (6, [.int (zI 0), .int (zI 0)])), (q42_4, .inr (6, [.int (zI 0), .int (zI 50)])), (q42_7, .inr (6, [.int (zI 0), .int (zI 50)])), (q42_10, .inr (6, [.int (zI 0), .int (zI 50)])), (q42_13, .inr (6, [.int (zI 0), .int (zI 0)]))] := hD
  refine y_aast C hP hD hS 1 7 3 6 rfl rfl rfl rfl 3 rfl (by decide) (by decide) dX1_init_49 (fun H locs hP hD hS => ?_)
  have hP : va_P D vwCl [(a, .inr (1, [.ref q6_0, .ref q14_1, .ref q20_2])), (q6_0, .inl (g 3, 4, .inr (.inr (.inr (.inr (va_up (va_up (va_up (va_up (fun _ => none) 0 (some q42_4)) 1 (some q42_7)) 2 (some q42_10)) 3 (some q42_13))))))), (q14_1, .inl (g 0, 4, .inl (upd (upd (upd (fun _ => zI 0) 0 (zI (-6))) 1 (zI (-6))) 2 (zI (-6))))), (q20_2, .inr (6, [.int (zI 0), .int (zI 0)])), (q42_4, .inr (6, [.int (zI 0), .int (zI 50)])), (q42_7, .inr (6, [.int (zI 0), .int (zI 50)])), (q42_10, .inr (6, [.int (zI 0), .int (zI 50)])), (q42_13, .inr (6, [.int (zI 0), .int (zI 0)]))] H := hP
  have hD : va_D A [(a, .inr (1, [.ref q6_0, .ref q14_1, .ref q20_2])), (q6_0, .inl (g 3, 4, .inr (.inr (.inr (.inr (va_up (va_up (va_up (va_up (fun _ => none) 0 (some q42_4)) 1 (some q42_7)) 2 (some q42_10)) 3 (some q42_13))))))), (q14_1, .inl (g 0, 4, .inl (upd (upd (upd (fun _ => zI 0) 0 (zI (-6))) 1 (zI (-6))) 2 (zI (-6))))), (q20_2, .inr (6, [.int (zI 0), .int (zI 0)])), (q42_4, .inr (6, [.int (zI 0), .int (zI 50)])), (q42_7, .inr (6, [.int (zI 0), .int (zI 50)])), (q42_10, .inr (6, [.int (zI 0), .int (zI 50)])), (q42_13, .inr (6, [.int (zI 0), .int (zI 0)]))] := hD
  refine z_aln C hl 1 rfl dX1_init_50 ?_
  refine y_get (kf := 0) C hP 0 rfl (ci := 1) rfl inX1 (by decide) rfl wg_114 rfl dX1_init_51 ?_
  refine z_iln C hl 0 rfl dX1_init_54 ?_
  refine y_aald C hP 1 3 rfl rfl 3 rfl (by decide) (by decide) dX1_init_55 ?_
  refine z_ic C dX1_init_56 ?_
  refine z_bp C dX1_init_57 rfl ?_
  refine y_callV (ws := [(a, .inr (1, [.ref q6_0, .ref q14_1, .ref q20_2])), (q6_0, .inl (g 3, 4, .inr (.inr (.inr (.inr (va_up (va_up (va_up (va_up (fun _ => none) 0 (some q42_4)) 1 (some q42_7)) 2 (some q42_10)) 3 (some q42_13))))))), (q14_1, .inl (g 0, 4, .inl (upd (upd (upd (fun _ => zI 0) 0 (zI (-6))) 1 (zI (-6))) 2 (zI (-6))))), (q20_2, .inr (6, [.int (zI 0), .int (zI 0)])), (q42_4, .inr (6, [.int (zI 0), .int (zI 50)])), (q42_7, .inr (6, [.int (zI 0), .int (zI 50)])), (q42_10, .inr (6, [.int (zI 0), .int (zI 50)]))]) (rest := []) C hKA hP hD hS hA hl (M_X6_put l D g q42_13) rfl rfl wg_113 wg_6 wg_110 wg_111 wg_112 cw_X6_put rfl ⟨(Nat.le_of_ble_eq_true rfl), (Nat.le_of_ble_eq_true rfl)⟩ ⟨(Nat.le_of_ble_eq_true rfl), (Nat.le_of_ble_eq_true rfl)⟩ rfl (Nat.le_of_ble_eq_true rfl) dX1_init_59 (fun x59_15 H locs hP hD hS => ?_)
  have hP : va_P D vwCl [(a, .inr (1, [.ref q6_0, .ref q14_1, .ref q20_2])), (q6_0, .inl (g 3, 4, .inr (.inr (.inr (.inr (va_up (va_up (va_up (va_up (fun _ => none) 0 (some q42_4)) 1 (some q42_7)) 2 (some q42_10)) 3 (some q42_13))))))), (q14_1, .inl (g 0, 4, .inl (upd (upd (upd (fun _ => zI 0) 0 (zI (-6))) 1 (zI (-6))) 2 (zI (-6))))), (q20_2, .inr (6, [.int (zI 0), .int (zI 0)])), (q42_4, .inr (6, [.int (zI 0), .int (zI 50)])), (q42_7, .inr (6, [.int (zI 0), .int (zI 50)])), (q42_10, .inr (6, [.int (zI 0), .int (zI 50)])), (q42_13, .inr (6, [.int (zI 0), .int (zI 50)]))] H := hP
  have hD : va_D A [(a, .inr (1, [.ref q6_0, .ref q14_1, .ref q20_2])), (q6_0, .inl (g 3, 4, .inr (.inr (.inr (.inr (va_up (va_up (va_up (va_up (fun _ => none) 0 (some q42_4)) 1 (some q42_7)) 2 (some q42_10)) 3 (some q42_13))))))), (q14_1, .inl (g 0, 4, .inl (upd (upd (upd (fun _ => zI 0) 0 (zI (-6))) 1 (zI (-6))) 2 (zI (-6))))), (q20_2, .inr (6, [.int (zI 0), .int (zI 0)])), (q42_4, .inr (6, [.int (zI 0), .int (zI 50)])), (q42_7, .inr (6, [.int (zI 0), .int (zI 50)])), (q42_10, .inr (6, [.int (zI 0), .int (zI 50)])), (q42_13, .inr (6, [.int (zI 0), .int (zI 50)]))] := hD
  refine z_aln C hl 1 rfl dX1_init_62 ?_
  refine y_get (kf := 1) C hP 0 rfl (ci := 1) rfl inX1 (by decide) rfl wg_116 rfl dX1_init_63 ?_
  refine z_iln C hl 0 rfl dX1_init_66 ?_
  refine z_bp C dX1_init_67 rfl ?_
  refine y_iast C hP hD hS 2 rfl 3 rfl (by decide) (by decide) dX1_init_69 (fun H locs hP hD hS => ?_)
  have hP : va_P D vwCl [(a, .inr (1, [.ref q6_0, .ref q14_1, .ref q20_2])), (q6_0, .inl (g 3, 4, .inr (.inr (.inr (.inr (va_up (va_up (va_up (va_up (fun _ => none) 0 (some q42_4)) 1 (some q42_7)) 2 (some q42_10)) 3 (some q42_13))))))), (q14_1, .inl (g 0, 4, .inl (upd (upd (upd (upd (fun _ => zI 0) 0 (zI (-6))) 1 (zI (-6))) 2 (zI (-6))) 3 (zI (-6))))), (q20_2, .inr (6, [.int (zI 0), .int (zI 0)])), (q42_4, .inr (6, [.int (zI 0), .int (zI 50)])), (q42_7, .inr (6, [.int (zI 0), .int (zI 50)])), (q42_10, .inr (6, [.int (zI 0), .int (zI 50)])), (q42_13, .inr (6, [.int (zI 0), .int (zI 50)]))] H := hP
  have hD : va_D A [(a, .inr (1, [.ref q6_0, .ref q14_1, .ref q20_2])), (q6_0, .inl (g 3, 4, .inr (.inr (.inr (.inr (va_up (va_up (va_up (va_up (fun _ => none) 0 (some q42_4)) 1 (some q42_7)) 2 (some q42_10)) 3 (some q42_13))))))), (q14_1, .inl (g 0, 4, .inl (upd (upd (upd (upd (fun _ => zI 0) 0 (zI (-6))) 1 (zI (-6))) 2 (zI (-6))) 3 (zI (-6))))), (q20_2, .inr (6, [.int (zI 0), .int (zI 0)])), (q42_4, .inr (6, [.int (zI 0), .int (zI 50)])), (q42_7, .inr (6, [.int (zI 0), .int (zI 50)])), (q42_10, .inr (6, [.int (zI 0), .int (zI 50)])), (q42_13, .inr (6, [.int (zI 0), .int (zI 50)]))] := hD
  refine z_iinc C hl 0 rfl [(1, .int (zI 4)), (0, .ref a)] (by decide) rfl dX1_init_70 (fun ls hl => ?_)
  refine z_goto C 32 (by decide) dX1_init_73 ?_
  refine z_iln C hl 0 rfl dX1_init_32 ?_
  refine z_ic C dX1_init_33 ?_
  refine z_icmp_ge C 76 (by decide) ⟨by decide, by decide⟩ ⟨by decide, by decide⟩ dX1_init_34 (fun _ => ?_) (fun h => absurd (by decide) h)
  obtain ⟨hP, hD⟩ := y_chg (f' := fun _ => zI (-6)) 2 hP hD rfl (fun h => va_atf h (fun j hj => match j, hj with | 0, _ => rfl | 1, _ => rfl | 2, _ => rfl | 3, _ => rfl | (n + 4), h => absurd h (by omega)))
  have hP : va_P D vwCl [(a, .inr (1, [.ref q6_0, .ref q14_1, .ref q20_2])), (q6_0, .inl (g 3, 4, .inr (.inr (.inr (.inr (va_up (va_up (va_up (va_up (fun _ => none) 0 (some q42_4)) 1 (some q42_7)) 2 (some q42_10)) 3 (some q42_13))))))), (q14_1, .inl (g 0, 4, .inl (fun _ => zI (-6)))), (q20_2, .inr (6, [.int (zI 0), .int (zI 0)])), (q42_4, .inr (6, [.int (zI 0), .int (zI 50)])), (q42_7, .inr (6, [.int (zI 0), .int (zI 50)])), (q42_10, .inr (6, [.int (zI 0), .int (zI 50)])), (q42_13, .inr (6, [.int (zI 0), .int (zI 50)]))] H := hP
  have hD : va_D A [(a, .inr (1, [.ref q6_0, .ref q14_1, .ref q20_2])), (q6_0, .inl (g 3, 4, .inr (.inr (.inr (.inr (va_up (va_up (va_up (va_up (fun _ => none) 0 (some q42_4)) 1 (some q42_7)) 2 (some q42_10)) 3 (some q42_13))))))), (q14_1, .inl (g 0, 4, .inl (fun _ => zI (-6)))), (q20_2, .inr (6, [.int (zI 0), .int (zI 0)])), (q42_4, .inr (6, [.int (zI 0), .int (zI 50)])), (q42_7, .inr (6, [.int (zI 0), .int (zI 50)])), (q42_10, .inr (6, [.int (zI 0), .int (zI 50)])), (q42_13, .inr (6, [.int (zI 0), .int (zI 50)]))] := hD
  exact y_ret B (fun i => ([q6_0, q14_1, q20_2, q42_4, q42_7, q42_10, q42_13] : List Nat).getD i 0) hP hD hS dX1_init_76
