/-! the law's loop -/
section LQ
variable {p : Program} {l : Launch} {e : Env} {s : State} {m : MethodId} {below : List Frame} {meth : Method} {c : Code} {H : Heap} {locs : List Loc} {Q : State → Prop} {ls : Array Slot} {D : va_G} {q : Nat → Nat} {g : Nat → ClassId} {σ : Mem} {b L t1 t2 : Nat} {xs : Nat → Int32} {i : Int}
theorem law_step (X : LC D g q p s m c b L xs t1 t2) (hP : HP D q g σ H) (hG : Inv σ) (hS : va_S (aQ q) s.heap H locs) (hl : lv_has ls 4 (lLv q b i)) (hi : 0 ≤ i ∧ i ≤ 4000) (kx : W p l e room_1 s m #[Value.ref b] below meth c H locs 62 754 Q (F0 m 1024 ls []))
    (kk : i + 6 ≤ L → ∀ (σ1 : Mem) (H1 : Heap) (locs1 : List Loc), HP D q g σ1 H1 → Inv σ1 → va_S (aQ q) s.heap H1 locs1 → W p l e room_1 s m #[Value.ref b] below meth c H1 locs1 62 754 Q (F0 m 1018 ls [])) : W p l e room_1 s m #[Value.ref b] below meth c H locs 62 754 Q (F0 m 18 ls []) := by
  have C := X.1
  have hL := X.2.2.2.2.2.1
  refine z_iln C hl 0 rfl dL_law_18 ?_
  refine z_aln C hl 3 rfl dL_law_19 ?_
  refine va_slen C.1.1 C.1.2.1 X.2.2.1 X.2.2.2.1 X.bA hS dL_law_20 ?_
  rw [show Int32.ofNat L = zI (L : Int) from (zI_nI L).symm]
  refine z_bp C dL_law_21 rfl ?_
  refine z_isub C dL_law_23 ?_
  refine z_icmp_gt C 1024 (by decide) ⟨by omega, by omega⟩ ⟨by omega, by omega⟩ dL_law_24 (fun _ => kx) (fun h => ?_)
  have hi6 : i + 6 ≤ L := by omega
  have hr : zR i := ⟨by omega, by omega⟩
  have kk := kk hi6
  have hi2 : 0 ≤ i ∧ i + 6 ≤ L := ⟨hi.1, hi6⟩
  refine z_aln C hl 3 rfl dL_law_27 ?_
  refine z_iln C hl 0 rfl dL_law_28 ?_
  refine va_sld C.1.1 C.1.2.1 X.2.2.1 X.2.2.2.1 X.bA hS (zI_vin (by omega) (by omega) hr) dL_law_29 ?_
  refine z_bp C dL_law_30 rfl ?_
  refine lv_iand C.1.1 C.1.2.1 dL_law_32 ?_
  generalize xs (zI i).toNatClampNeg &&& zI 31 = w
  obtain ⟨z, hz, rfl⟩ := zI_ex w
  by_cases hz2 : 0 ≤ z ∧ z ≤ 26
  · rcases (show z = 0 ∨ z = 1 ∨ z = 2 ∨ z = 3 ∨ z = 4 ∨ z = 5 ∨ z = 6 ∨ z = 7 ∨ z = 8 ∨ z = 9 ∨ z = 10 ∨ z = 11 ∨ z = 12 ∨ z = 13 ∨ z = 14 ∨ z = 15 ∨ z = 16 ∨ z = 17 ∨ z = 18 ∨ z = 19 ∨ z = 20 ∨ z = 21 ∨ z = 22 ∨ z = 23 ∨ z = 24 ∨ z = 25 ∨ z = 26 by omega) with rfl | rfl | rfl | rfl | rfl | rfl | rfl | rfl | rfl | rfl | rfl | rfl | rfl | rfl | rfl | rfl | rfl | rfl | rfl | rfl | rfl | rfl | rfl | rfl | rfl | rfl | rfl
    · exact z_tsI C 0 hz ⟨by decide, by decide⟩ rfl 156 (by decide) dL_law_33 (law_0 X hP hG hS hl hi2 kk)
    · exact z_tsI C 1 hz ⟨by decide, by decide⟩ rfl 189 (by decide) dL_law_33 (law_1 X hP hG hS hl hi2 kk)
    · exact z_tsI C 2 hz ⟨by decide, by decide⟩ rfl 252 (by decide) dL_law_33 (law_2 X hP hG hS hl hi2 kk)
    · exact z_tsI C 3 hz ⟨by decide, by decide⟩ rfl 285 (by decide) dL_law_33 (law_3 X hP hG hS hl hi2 kk)
    · exact z_tsI C 4 hz ⟨by decide, by decide⟩ rfl 328 (by decide) dL_law_33 (law_4 X hP hG hS hl hi2 kk)
    · exact z_tsI C 5 hz ⟨by decide, by decide⟩ rfl 361 (by decide) dL_law_33 (law_5 X hP hG hS hl hi2 kk)
    · exact z_tsI C 6 hz ⟨by decide, by decide⟩ rfl 384 (by decide) dL_law_33 (law_6 X hP hG hS hl hi2 kk)
    · exact z_tsI C 7 hz ⟨by decide, by decide⟩ rfl 407 (by decide) dL_law_33 (law_7 X hP hG hS hl hi2 kk)
    · exact z_tsI C 8 hz ⟨by decide, by decide⟩ rfl 440 (by decide) dL_law_33 (law_8 X hP hG hS hl hi2 kk)
    · exact z_tsI C 9 hz ⟨by decide, by decide⟩ rfl 473 (by decide) dL_law_33 (law_9 X hP hG hS hl hi2 kk)
    · exact z_tsI C 10 hz ⟨by decide, by decide⟩ rfl 516 (by decide) dL_law_33 (law_10 X hP hG hS hl hi2 kk)
    · exact z_tsI C 11 hz ⟨by decide, by decide⟩ rfl 549 (by decide) dL_law_33 (law_11 X hP hG hS hl hi2 kk)
    · exact z_tsI C 12 hz ⟨by decide, by decide⟩ rfl 572 (by decide) dL_law_33 (law_12 X hP hG hS hl hi2 kk)
    · exact z_tsI C 13 hz ⟨by decide, by decide⟩ rfl 626 (by decide) dL_law_33 (law_13 X hP hG hS hl hi2 kk)
    · exact z_tsI C 14 hz ⟨by decide, by decide⟩ rfl 669 (by decide) dL_law_33 (law_14 X hP hG hS hl hi2 kk)
    · exact z_tsI C 15 hz ⟨by decide, by decide⟩ rfl 702 (by decide) dL_law_33 (law_15 X hP hG hS hl hi2 kk)
    · exact z_tsI C 16 hz ⟨by decide, by decide⟩ rfl 735 (by decide) dL_law_33 (law_16 X hP hG hS hl hi2 kk)
    · exact z_tsI C 17 hz ⟨by decide, by decide⟩ rfl 758 (by decide) dL_law_33 (law_17 X hP hG hS hl hi2 kk)
    · exact z_tsI C 18 hz ⟨by decide, by decide⟩ rfl 781 (by decide) dL_law_33 (law_18 X hP hG hS hl hi2 kk)
    · exact z_tsI C 19 hz ⟨by decide, by decide⟩ rfl 804 (by decide) dL_law_33 (law_19 X hP hG hS hl hi2 kk)
    · exact z_tsI C 20 hz ⟨by decide, by decide⟩ rfl 817 (by decide) dL_law_33 (law_20 X hP hG hS hl hi2 kk)
    · exact z_tsI C 21 hz ⟨by decide, by decide⟩ rfl 830 (by decide) dL_law_33 (law_21 X hP hG hS hl hi2 kk)
    · exact z_tsI C 22 hz ⟨by decide, by decide⟩ rfl 843 (by decide) dL_law_33 (law_22 X hP hG hS hl hi2 kk)
    · exact z_tsI C 23 hz ⟨by decide, by decide⟩ rfl 896 (by decide) dL_law_33 (law_23 X hP hG hS hl hi2 kk)
    · exact z_tsI C 24 hz ⟨by decide, by decide⟩ rfl 929 (by decide) dL_law_33 (law_24 X hP hG hS hl hi2 kk)
    · exact z_tsI C 25 hz ⟨by decide, by decide⟩ rfl 962 (by decide) dL_law_33 (law_25 X hP hG hS hl hi2 kk)
    · exact z_tsI C 26 hz ⟨by decide, by decide⟩ rfl 995 (by decide) dL_law_33 (law_26 X hP hG hS hl hi2 kk)
  · exact z_tsO C hz (by omega) 1018 (by decide) dL_law_33 (kk σ H locs hP hG hS)
theorem law_loop (X : LC D g q p s m c b L xs t1 t2) (kx : ∀ (H : Heap) (locs : List Loc) (ls : Array Slot), va_S (aQ q) s.heap H locs → W p l e room_1 s m #[Value.ref b] below meth c H locs 62 754 Q (F0 m 1024 ls [])) : ∀ (n : Nat) (i : Int) (σ : Mem) (H : Heap) (locs : List Loc) (ls : Array Slot), (L : Int) - i < n → 0 ≤ i ∧ i ≤ 4000 → HP D q g σ H → Inv σ → va_S (aQ q) s.heap H locs → lv_has ls 4 (lLv q b i) → W p l e room_1 s m #[Value.ref b] below meth c H locs 62 754 Q (F0 m 18 ls [])
  | 0, i, σ, H, locs, ls, hn, hi, hP, hG, hS, hl => law_step X hP hG hS hl hi (kx H locs ls hS) (fun h => by exfalso; omega)
  | n + 1, i, σ, H, locs, ls, hn, hi, hP, hG, hS, hl => law_step X hP hG hS hl hi (kx H locs ls hS) (fun h σ1 H1 locs1 hP1 hG1 hS1 => by
    have hL := X.2.2.2.2.2.1
    refine z_iinc X.1 hl 0 rfl (lLv q b (i + 6)) (by decide) rfl dL_law_1018 (fun ls1 hl1 => ?_)
    refine z_goto X.1 18 (by decide) dL_law_1021 ?_
    exact law_loop X kx n (i + 6) σ1 H1 locs1 ls1 (by omega) (by omega) hP1 hG1 hS1 hl1)
end LQ
/-! what the tables say of the classes at the entry -/
theorem aK {args : Array Value} {s : State} {ty : FieldType} (h : (Cond.arrayClass ty).before args s = true) (hty : ∀ C, ty ≠ .object C) : ∃ cA, ArrOfT s cA ty ∧ va_RA s cA ty := by
  obtain ⟨cA, kA, comp, h1, h2, h3⟩ := Cond.arrayClass_spec h
  refine ⟨cA, fun n z => ⟨fun k h => (by cases h), kA, h2, comp, h3⟩, ?_⟩
  cases ty with
  | object C => exact absurd rfl (hty C)
  | _ => exact h1
theorem aO {args : Array Value} {s : State} {C : String} (h : (Cond.arrayOver (.object C)).before args s = true) : ∃ cA, ArrOfT s cA (.object C) ∧ va_RA s cA (.object C) := by
  obtain ⟨comp, cA, kA, h1, -, h2, h3, h4⟩ := Cond.arrayOver_spec h
  exact ⟨cA, fun n z => ⟨fun k h => (by cases h), kA, h2, comp, h3⟩, kA, comp, h2, h3, h1, h4⟩
def pk {α : Type} (d : α) (xs : List α) (k : Nat) : α := xs.getD k d
theorem kk_of {args : Array Value} {s : State} (hts : ∀ w ∈ lw_tbl, w.before args s = true) : ∃ (D : va_G) (g : Nat → ClassId), KA D g s := by
  have hg : ∀ w ∈ gw, w.before args s = true := fun w hw => hts w (gw_in w hw)
  obtain ⟨c0, i0, k0⟩ := u_known (n := 5) hg inX0 (hg _ wg_144)
  obtain ⟨c1, i1, k1⟩ := u_known (n := 3) hg inX1 (hg _ wg_87)
  obtain ⟨c2, i2, k2⟩ := u_known (n := 4) hg inX2 (hg _ wg_168)
  obtain ⟨c3, i3, k3⟩ := u_known (n := 3) hg inX3 (hg _ wg_70)
  obtain ⟨c4, i4, k4⟩ := u_known (n := 5) hg inX4 (hg _ wg_29)
  obtain ⟨c5, i5, k5⟩ := u_known (n := 2) hg inX5 (hg _ wg_128)
  obtain ⟨c6, i6, k6⟩ := u_known (n := 2) hg inX6 (hg _ wg_94)
  obtain ⟨c7, i7, k7⟩ := u_known (n := 3) hg inX7 (hg _ wg_22)
  obtain ⟨c8, i8, k8⟩ := u_known (n := 6) hg inX8 (hg _ wg_14)
  obtain ⟨c9, i9, k9⟩ := u_known (n := 28) hg inX9 (hg _ wg_581)
  obtain ⟨a0, b0, r0⟩ := aK (hg _ wg_54) (fun C h => by cases h)
  obtain ⟨a1, b1, r1⟩ := aK (hg _ wg_671) (fun C h => by cases h)
  obtain ⟨a2, b2, r2⟩ := aO (hts _ wm_28)
  obtain ⟨a3, b3, r3⟩ := aO (hts _ wm_93)
  refine ⟨(pk c0 [c0, c1, c2, c3, c4, c5, c6, c7, c8, c9], pk i0 [i0, i1, i2, i3, i4, i5, i6, i7, i8, i9]), pk a0 [a0, a1, a2, a3], ⟨⟨fun c q hq => ?_, fun k q hq => ?_⟩, fun w hw hn => ?_⟩, va_AO.of (hts _ wm_28), va_AO.of (hts _ wm_93)⟩
  · match c, hq with
    | 0, hq => cases hq; exact k0
    | 1, hq => cases hq; exact k1
    | 2, hq => cases hq; exact k2
    | 3, hq => cases hq; exact k3
    | 4, hq => cases hq; exact k4
    | 5, hq => cases hq; exact k5
    | 6, hq => cases hq; exact k6
    | 7, hq => cases hq; exact k7
    | 8, hq => cases hq; exact k8
    | 9, hq => cases hq; exact k9
    | (n + 10), hq => exact absurd (List.getElem?_eq_some_iff.mp hq).1 (by simp [vwCl])
  · match k, hq with
    | 0, hq => cases hq; exact ⟨b0, r0⟩
    | 1, hq => cases hq; exact ⟨b1, r1⟩
    | 2, hq => cases hq; exact ⟨b2, r2⟩
    | 3, hq => cases hq; exact ⟨b3, r3⟩
    | (n + 4), hq => exact absurd (List.getElem?_eq_some_iff.mp hq).1 (by simp [zT])
  · have := hts w hw
    cases w with
    | fieldLinkNest a i b n d hh => exact va_Nw.of rfl this
    | methodLinkNest a i x hh => exact va_Nw.of rfl this
    | _ => cases hn
theorem st_of {b : Nat} {s : State} (hts : ∀ w ∈ lw_tbl, w.before #[Value.ref b] s = true) (hgv : (Jvm.Cond.and given_1 narrow_1).before #[Value.ref b] s = true) : ∃ t1 t2, ST (fun a => s.heap.size ≤ a) t1 t2 s s.heap := by
  have hs := flat_of_before _ hgv
  have hA : ∀ a : Nat, a < s.heap.size → ¬ (fun a => s.heap.size ≤ a) a := fun a h1 h2 => by simp at h2; omega
  obtain ⟨t1, e1, T1⟩ := va_Tof (N := 4) (f := fLo) (tm := .static "HairLine" "SETTING_LEAST" "[I") (ty := .int) (args := #[Value.ref b]) (s := s) (A := fun a => s.heap.size ≤ a) (by decide) (hs _ (by decide +kernel)) (va_eqt (z := 4) (hs _ (by decide +kernel))) (fun j hj => match j, hj with
    | 0, _ => va_eqt (z := -3) (hs _ (by decide +kernel))
    | 1, _ => va_eqt (z := 0) (hs _ (by decide +kernel))
    | 2, _ => va_eqt (z := 0) (hs _ (by decide +kernel))
    | 3, _ => va_eqt (z := 0) (hs _ (by decide +kernel))
    | (n + 4), h => absurd h (by omega)) hA
  obtain ⟨t2, e2, T2⟩ := va_Tof (N := 4) (f := fHi) (tm := .static "HairLine" "SETTING_MOST" "[I") (ty := .int) (args := #[Value.ref b]) (s := s) (A := fun a => s.heap.size ≤ a) (by decide) (hs _ (by decide +kernel)) (va_eqt (z := 4) (hs _ (by decide +kernel))) (fun j hj => match j, hj with
    | 0, _ => va_eqt (z := 3) (hs _ (by decide +kernel))
    | 1, _ => va_eqt (z := 9) (hs _ (by decide +kernel))
    | 2, _ => va_eqt (z := 200) (hs _ (by decide +kernel))
    | 3, _ => va_eqt (z := 1) (hs _ (by decide +kernel))
    | (n + 4), h => absurd h (by omega)) hA
  exact ⟨t1, t2, ⟨va_Zof (hts _ wm_238) (hts _ (gw_in _ wg_1)) e1 hA, T1⟩, va_Zof (hts _ wm_240) (hts _ (gw_in _ wg_1)) e2 hA, T2⟩
