/-! Integer.bitCount -/
def sr (x : Int32) (k : Int) : Int32 := (x.toUInt32 >>> ((zI k).toUInt32 &&& Int32.toUInt32 31)).toInt32
def bc1 (x : Int32) : Int32 := x - (sr x 1 &&& zI 1431655765)
def bc2 (x : Int32) : Int32 := (x &&& zI 858993459) + (sr x 2 &&& zI 858993459)
def bc3 (x : Int32) : Int32 := (x + sr x 4) &&& zI 252645135
def bc4 (x : Int32) : Int32 := x + sr x 8
def bc5 (x : Int32) : Int32 := x + sr x 16
theorem bc_all : ∀ n : Nat, n < 256 → (bc5 (bc4 (bc3 (bc2 (bc1 (zI (n : Int)))))) &&& zI 63) = zI (pc (n : Int)) := by decide +kernel
theorem bc_pc {x : Int} (h : 0 ≤ x ∧ x ≤ 255) : (bc5 (bc4 (bc3 (bc2 (bc1 (zI x))))) &&& zI 63) = zI (pc x) := by
  have := bc_all x.toNat (by omega)
  rw [show ((x.toNat : Nat) : Int) = x by omega] at this; exact this
set_option maxHeartbeats 4000000 in
set_option maxRecDepth 100000 in
theorem c_J6_bitCount_0f7a4 {l : Launch} {D : va_G} {q : Nat → Nat} {g : Nat → ClassId} {σ : Mem} (x : Int) (hx : 0 ≤ x ∧ x ≤ 255) : RO l yJ6_bitCount_0f7a4 cJ6_bitCount_0f7a4 1 (some .int) 0 0 D q g σ [.int (zI x)] (some (.int (zI (pc x)))) := by
  refine RO.intro (by decide +kernel) (Nat.le_of_ble_eq_true rfl) (fun p e s m args below meth c ls B hP hl => ?_)
  have C := B.1
  have hl : lv_has ls 1 [(0, .int (zI x))] := hl
  refine z_iln C hl 0 rfl dJ6_bitCount_0f7a4_0 ?_
  refine z_iln C hl 0 rfl dJ6_bitCount_0f7a4_1 ?_
  refine z_ic C dJ6_bitCount_0f7a4_2 ?_
  refine lv_iushr C.1.1 C.1.2.1 dJ6_bitCount_0f7a4_3 rfl ?_
  refine z_ldcw C (n := 1431655765) wg_569 (by decide) dJ6_bitCount_0f7a4_4 ?_
  refine lv_iand C.1.1 C.1.2.1 dJ6_bitCount_0f7a4_7 ?_
  refine lv_isub C.1.1 C.1.2.1 dJ6_bitCount_0f7a4_8 ?_
  refine z_isn C hl [(0, .int (bc1 (zI x)))] (by decide) rfl dJ6_bitCount_0f7a4_9 (fun ls hl => ?_)
  refine z_iln C hl 0 rfl dJ6_bitCount_0f7a4_10 ?_
  refine z_ldcw C (n := 858993459) wg_570 (by decide) dJ6_bitCount_0f7a4_11 ?_
  refine lv_iand C.1.1 C.1.2.1 dJ6_bitCount_0f7a4_14 ?_
  refine z_iln C hl 0 rfl dJ6_bitCount_0f7a4_15 ?_
  refine z_ic C dJ6_bitCount_0f7a4_16 ?_
  refine lv_iushr C.1.1 C.1.2.1 dJ6_bitCount_0f7a4_17 rfl ?_
  refine z_ldcw C (n := 858993459) wg_570 (by decide) dJ6_bitCount_0f7a4_18 ?_
  refine lv_iand C.1.1 C.1.2.1 dJ6_bitCount_0f7a4_21 ?_
  refine lv_iadd C.1.1 C.1.2.1 dJ6_bitCount_0f7a4_22 ?_
  refine z_isn C hl [(0, .int (bc2 (bc1 (zI x))))] (by decide) rfl dJ6_bitCount_0f7a4_23 (fun ls hl => ?_)
  refine z_iln C hl 0 rfl dJ6_bitCount_0f7a4_24 ?_
  refine z_iln C hl 0 rfl dJ6_bitCount_0f7a4_25 ?_
  refine z_ic C dJ6_bitCount_0f7a4_26 ?_
  refine lv_iushr C.1.1 C.1.2.1 dJ6_bitCount_0f7a4_27 rfl ?_
  refine lv_iadd C.1.1 C.1.2.1 dJ6_bitCount_0f7a4_28 ?_
  refine z_ldcw C (n := 252645135) wg_571 (by decide) dJ6_bitCount_0f7a4_29 ?_
  refine lv_iand C.1.1 C.1.2.1 dJ6_bitCount_0f7a4_32 ?_
  refine z_isn C hl [(0, .int (bc3 (bc2 (bc1 (zI x)))))] (by decide) rfl dJ6_bitCount_0f7a4_33 (fun ls hl => ?_)
  refine z_iln C hl 0 rfl dJ6_bitCount_0f7a4_34 ?_
  refine z_iln C hl 0 rfl dJ6_bitCount_0f7a4_35 ?_
  refine z_bp C dJ6_bitCount_0f7a4_36 rfl ?_
  refine lv_iushr C.1.1 C.1.2.1 dJ6_bitCount_0f7a4_38 rfl ?_
  refine lv_iadd C.1.1 C.1.2.1 dJ6_bitCount_0f7a4_39 ?_
  refine z_isn C hl [(0, .int (bc4 (bc3 (bc2 (bc1 (zI x))))))] (by decide) rfl dJ6_bitCount_0f7a4_40 (fun ls hl => ?_)
  refine z_iln C hl 0 rfl dJ6_bitCount_0f7a4_41 ?_
  refine z_iln C hl 0 rfl dJ6_bitCount_0f7a4_42 ?_
  refine z_bp C dJ6_bitCount_0f7a4_43 rfl ?_
  refine lv_iushr C.1.1 C.1.2.1 dJ6_bitCount_0f7a4_45 rfl ?_
  refine lv_iadd C.1.1 C.1.2.1 dJ6_bitCount_0f7a4_46 ?_
  refine z_isn C hl [(0, .int (bc5 (bc4 (bc3 (bc2 (bc1 (zI x)))))))] (by decide) rfl dJ6_bitCount_0f7a4_47 (fun ls hl => ?_)
  refine z_iln C hl 0 rfl dJ6_bitCount_0f7a4_48 ?_
  refine z_bp C dJ6_bitCount_0f7a4_49 rfl ?_
  refine lv_iand C.1.1 C.1.2.1 dJ6_bitCount_0f7a4_51 ?_
  exact W.iret (v := bc5 (bc4 (bc3 (bc2 (bc1 (zI x))))) &&& zI 63) C.1.1 C.1.2.1 B.2.1 (fun t ht _ => ⟨by rw [bc_pc hx], ht⟩) (fun _ h => by cases h) dJ6_bitCount_0f7a4_52 B.2.2
