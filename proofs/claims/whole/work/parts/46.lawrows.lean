/-! the law: rows of its frame -/
def ax (xs : Nat → Int32) (i k : Int) : Int := (xs (i + k).toNat).toInt
theorem ax_R {xs : Nat → Int32} {i k : Int} : zR (ax xs i k) := zR_of _
abbrev lLv (q : Nat → Nat) (b : Nat) (i : Int) : List (Nat × Value) := [(3, .int (zI i)), (2, .ref (q 44)), (1, .ref (q 0)), (0, .ref b)]
/-- what stands fast through the law -/
def LC (D : va_G) (g : Nat → ClassId) (q : Nat → Nat) (p : Program) (s : State) (m : MethodId) (c : Code) (b L : Nat) (xs : Nat → Int32) (t1 t2 : Nat) : Prop := Cx D g RL cL_law 4 p s m #[Value.ref b] c ∧ qok q ∧ va_X b L xs s s.heap ∧ b < s.heap.size ∧ (∀ i, i < 62 → s.heap.size ≤ q i) ∧ L ≤ 3072 ∧ ST (fun a => s.heap.size ≤ a) t1 t2 s s.heap
theorem LC.bA {D : va_G} {g : Nat → ClassId} {q : Nat → Nat} {p : Program} {s : State} {m : MethodId} {c : Code} {b L : Nat} {xs : Nat → Int32} {t1 t2 : Nat} (X : LC D g q p s m c b L xs t1 t2) : ¬ aQ q b := fun ⟨i, hi, e⟩ => by
  have h1 := X.2.2.2.2.1 i hi
  have h2 := X.2.2.2.1
  omega
section UL
variable {p : Program} {l : Launch} {e : Env} {R : Room} {s : State} {m : MethodId} {args : Array Value} {below : List Frame} {meth : Method} {c : Code} {H H0 : Heap} {locs : List Loc} {cells slots : Nat} {Q : State → Prop}
variable {cc : ByteArray} {pc : Nat} {ls : Array Slot} {rest : List Value} {D : va_G} {q : Nat → Nat} {g : Nat → ClassId} {σ : Mem} {own : String} {nL : Nat} {lv : List (Nat × Value)}
variable {y : MethodName} {bytes : ByteArray} {maxL n index f k : Nat} {ret : Option FieldType} {As : List Value} {v : Value} {vf : Int → Option Value} {post : Int → Mem → Prop}
theorem u_runRO {a : Array Value} {st0 : List Value} (hr : va_Run p l e R s m args below meth c H locs cells slots 0 0 (F0 m pc ls st0) rest (qRO (some v) a) (fun _ => False))
    (kk : W p l e R s m args below meth c H locs cells slots Q (F0 m (pc + 3) ls (v :: rest))) : W p l e R s m args below meth c H locs cells slots Q (F0 m pc ls st0) := by
  intro T hT X
  obtain ⟨v1, st₀, t, T', L, h0, X', hL, e1, e2, ⟨hv, hh⟩, st⟩ := hr T hT X
  cases hv
  obtain ⟨t2, a1, b1⟩ := kk T' (by rw [e1, hh, h0]) (Stand.forget X' (fun q h => (hL q h).elim))
  exact ⟨t2, st t2 a1, b1⟩
theorem u_runRWi {a : Array Value} {st0 : List Value} (hr : va_Run p l e R s m args below meth c H locs cells slots 0 0 (F0 m pc ls st0) rest (qRW D q g vI post a) (aQ q)) (hS : va_S (aQ q) H0 H locs)
    (kk : ∀ (r : Int) (σ' : Mem) (H1 : Heap) (locs1 : List Loc), post r σ' → HP D q g σ' H1 → va_S (aQ q) H0 H1 locs1 → W p l e R s m args below meth c H1 locs1 cells slots Q (F0 m (pc + 3) ls (.int (zI r) :: rest))) : W p l e R s m args below meth c H locs cells slots Q (F0 m pc ls st0) := by
  intro T hT X
  obtain ⟨v1, st₀, t, T', L, h0, X', hL, e1, e2, ⟨⟨r, σ', hv, hp, hP⟩, hF⟩, st⟩ := hr T hT X
  cases hv
  obtain ⟨t2, a1, b1⟩ := kk r σ' t.heap (locs ++ L) hp hP ⟨Nat.le_trans hS.1 (by rw [← h0]; exact hF.1), fun x h1 h2 => (by have := hF.2 x (by rw [h0]; exact Nat.lt_of_lt_of_le h1 hS.1) h2; rw [h0] at this; exact this.trans (hS.2.1 x h1 h2)), fun z hz => by
    rcases List.mem_append.mp hz with h | h
    · exact hS.2.2 z h
    · exact hL z h⟩ T' e1 X'
  exact ⟨t2, st t2 a1, b1⟩
theorem u_vRO (C : Cx D g own cc nL p s m args c) (hP : HP D q g σ H) (hl : lv_has ls nL lv) {b : Nat} (hM : RO l y bytes maxL ret f k D q g σ (.ref b :: As) (some v)) (hrv : ∃ cell : Cell, H[b]? = some cell ∧ cell.vm.isStatics = false ∧ s.vm.findClass y.cls = some cell.cls) (wc : Cond.code y bytes maxL ret ∈ gw) (wi : Cond.initialized y.cls ∈ gw) (wl : Cond.methodLink own index y ∈ gw) (wt : Cond.instanceMethod y ∈ gw) (wv : Cond.selects y.cls y y ∈ gw) (hd : cwd y n) (hR : f + 1 ≤ R.frames ∧ 8 + (maxL + 11) + k ≤ R.locals) (hcs : cells + 0 ≤ R.cells ∧ slots + 0 ≤ R.slots) (hn : As.length = n) {st0 : List Value} (hst : st0 = As.reverse ++ .ref b :: rest) (hr : (rest.map fun v => v.category).sum ≤ 8) (d : decode cc pc = .ok (.invokevirtual index, 3))
    (kk : W p l e R s m args below meth c H locs cells slots Q (F0 m (pc + 3) ls (v :: rest))) : W p l e R s m args below meth c H locs cells slots Q (F0 m pc ls st0) :=
  u_runRO (va_runV (rest := rest) C.1 hM ⟨z_B C wc wi wl hd hR, C.1.2.2.2.2 _ wt, C.1.2.2.2.2 _ wv⟩ (z_preV C hP hrv) rfl hn hl.1 hst (lv_room hr) d hcs) kk
theorem u_vRWi (C : Cx D g own cc nL p s m args c) (hP : HP D q g σ H) (hS : va_S (aQ q) H0 H locs) (hl : lv_has ls nL lv) {b : Nat} (hM : RW l y bytes maxL ret f k D q g σ (.ref b :: As) vI post) (hrv : ∃ cell : Cell, H[b]? = some cell ∧ cell.vm.isStatics = false ∧ s.vm.findClass y.cls = some cell.cls) (wc : Cond.code y bytes maxL ret ∈ gw) (wi : Cond.initialized y.cls ∈ gw) (wl : Cond.methodLink own index y ∈ gw) (wt : Cond.instanceMethod y ∈ gw) (wv : Cond.selects y.cls y y ∈ gw) (hd : cwd y n) (hR : f + 1 ≤ R.frames ∧ 8 + (maxL + 11) + k ≤ R.locals) (hcs : cells + 0 ≤ R.cells ∧ slots + 0 ≤ R.slots) (hn : As.length = n) {st0 : List Value} (hst : st0 = As.reverse ++ .ref b :: rest) (hr : (rest.map fun v => v.category).sum ≤ 8) (d : decode cc pc = .ok (.invokevirtual index, 3))
    (kk : ∀ (r : Int) (σ' : Mem) (H1 : Heap) (locs1 : List Loc), post r σ' → HP D q g σ' H1 → va_S (aQ q) H0 H1 locs1 → W p l e R s m args below meth c H1 locs1 cells slots Q (F0 m (pc + 3) ls (.int (zI r) :: rest))) : W p l e R s m args below meth c H locs cells slots Q (F0 m pc ls st0) :=
  u_runRWi (va_runV (rest := rest) C.1 hM ⟨z_B C wc wi wl hd hR, C.1.2.2.2.2 _ wt, C.1.2.2.2.2 _ wv⟩ (z_preV C hP hrv) rfl hn hl.1 hst (lv_room hr) d hcs) hS kk
theorem u_vST (C : Cx D g own cc nL p s m args c) (hP : HP D q g σ H) {t1 t2 : Nat} (hST : ST (aQ q) t1 t2 s H) (hS : va_S (aQ q) H0 H locs) (hl : lv_has ls nL lv) {b : Nat} (hM : Met l y (Cond.code y bytes maxL ret :: gw) (zRm f k) (va_Pc (.ref b :: As) (pWS D q g σ t1 t2)) (qRW D q g vI post) 0 0 (aQ q)) (hrv : ∃ cell : Cell, H[b]? = some cell ∧ cell.vm.isStatics = false ∧ s.vm.findClass y.cls = some cell.cls) (wc : Cond.code y bytes maxL ret ∈ gw) (wi : Cond.initialized y.cls ∈ gw) (wl : Cond.methodLink own index y ∈ gw) (wt : Cond.instanceMethod y ∈ gw) (wv : Cond.selects y.cls y y ∈ gw) (hd : cwd y n) (hR : f + 1 ≤ R.frames ∧ 8 + (maxL + 11) + k ≤ R.locals) (hcs : cells + 0 ≤ R.cells ∧ slots + 0 ≤ R.slots) (hn : As.length = n) {st0 : List Value} (hst : st0 = As.reverse ++ .ref b :: rest) (hr : (rest.map fun v => v.category).sum ≤ 8) (d : decode cc pc = .ok (.invokevirtual index, 3))
    (kk : ∀ (r : Int) (σ' : Mem) (H1 : Heap) (locs1 : List Loc), post r σ' → HP D q g σ' H1 → va_S (aQ q) H0 H1 locs1 → W p l e R s m args below meth c H1 locs1 cells slots Q (F0 m (pc + 3) ls (.int (zI r) :: rest))) : W p l e R s m args below meth c H locs cells slots Q (F0 m pc ls st0) :=
  u_runRWi (va_runV (rest := rest) C.1 hM ⟨z_B C wc wi wl hd hR, C.1.2.2.2.2 _ wt, C.1.2.2.2.2 _ wv⟩ ⟨fun a U f mk h => ⟨h.1, ⟨h.2.1.1, h.2.1.2.calling⟩, ST.moved (u := U) (U := U.calling f mk a) (Vm.Alike.refl U.vm) h.2.2⟩, hrv, fun _ hU hW => ⟨rfl, ⟨by rw [hU]; exact hP, C.2.moved hW⟩, by rw [hU]; exact hST.moved hW.alike⟩⟩ rfl hn hl.1 hst (lv_room hr) d hcs) hS kk
theorem u_eq (C : Cx D g own cc nL p s m args c) {x : Int32} {off : Int} (tgt : Nat) (ht : (pc : Int) + off = (tgt : Int)) (d : decode cc pc = .ok (.if_icmp .eq off, 3)) (kt : W p l e R s m args below meth c H locs cells slots Q (F0 m tgt ls rest)) : W p l e R s m args below meth c H locs cells slots Q (F0 m pc ls (.int x :: .int x :: rest)) :=
  lv_icmp_eq C.1.1 C.1.2.1 d ht (fun _ => kt) (fun h => absurd rfl h)
theorem u_leq (C : Cx D g own cc nL p s m args c) {x : Int64} {off : Int} (tgt : Nat) (ht : ((pc + 1 : Nat) : Int) + off = (tgt : Int)) (d : decode cc pc = .ok (.lcmp, 1)) (d2 : decode cc (pc + 1) = .ok (.ifCond .eq off, 3)) (kt : W p l e R s m args below meth c H locs cells slots Q (F0 m tgt ls rest)) : W p l e R s m args below meth c H locs cells slots Q (F0 m pc ls (.long x :: .long x :: rest)) :=
  W.lcmp C.1.1 C.1.2.1 d (lv_if_eq C.1.1 C.1.2.1 d2 ht (fun _ => kt) (fun h => absurd (by unfold lg_cmp; simp) h))
theorem u_arg {b L : Nat} {xs : Nat → Int32} {t1 t2 : Nat} {i : Int} (X : LC D g q p s m c b L xs t1 t2) (hS : va_S (aQ q) s.heap H locs) (hl : lv_has ls 4 (lLv q b i)) (hi : 0 ≤ i ∧ i + 6 ≤ L) {k : Int} (hk : 0 ≤ k ∧ k ≤ 5)
    (d0 : decode cL_law pc = .ok (.aload_n 0, 1)) (d1 : decode cL_law (pc + 1) = .ok (.iload_n 3, 1)) (d2 : decode cL_law (pc + 1 + 1) = .ok (.iconst k, 1)) (d3 : decode cL_law (pc + 1 + 1 + 1) = .ok (.iadd, 1)) (d4 : decode cL_law (pc + 1 + 1 + 1 + 1) = .ok (.iaload, 1))
    (kk : W p l e R s m #[Value.ref b] below meth c H locs cells slots Q (F0 m (pc + 1 + 1 + 1 + 1 + 1) ls (.int (zI (ax xs i k)) :: rest))) : W p l e R s m #[Value.ref b] below meth c H locs cells slots Q (F0 m pc ls rest) := by
  have hL := X.2.2.2.2.2.1
  refine z_aln X.1 hl 3 rfl d0 ?_
  refine z_iln X.1 hl 0 rfl d1 ?_
  refine z_ic X.1 d2 ?_
  refine z_iadd X.1 d3 ?_
  have hr : zR (i + k) := ⟨by omega, by omega⟩
  refine va_sld X.1.1.1 X.1.1.2.1 X.2.2.1 X.2.2.2.1 X.bA hS (zI_vin (by omega) (by omega) hr) d4 ?_
  rw [zI_clamp (by omega) hr, zI_of (xs (i + k).toNat)]
  exact kk
end UL
