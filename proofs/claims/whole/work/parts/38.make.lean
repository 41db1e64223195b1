/-! making: a method's world is the list of its own cells, at addresses that are variables -/
def KA (D : va_G) (g : Nat → ClassId) (U : State) : Prop := KK D g U ∧ va_AO "HairLine$Runner" U ∧ va_AO "HairLine$Span" U
theorem KA.moved {D : va_G} {g : Nat → ClassId} {s U : State} (hW : s.WarmedH U.vm) (h : KA D g s) : KA D g U := ⟨h.1.moved hW, h.2.1.moved hW.alike, h.2.2.moved hW.alike⟩
theorem KA.calling {D : va_G} {g : Nat → ClassId} {U : State} {a : Array Value} {f : JFrame} {mk : MethodId} (h : KA D g U) : KA D g (U.calling f mk a) := ⟨h.1.calling, va_AO.moved (u := U) (U := U.calling f mk a) (Vm.Alike.refl U.vm) h.2.1, va_AO.moved (u := U) (U := U.calling f mk a) (Vm.Alike.refl U.vm) h.2.2⟩
abbrev eO (a ci : Nat) (fs : List Value) : va_W := [(a, .inr (ci, fs))]
abbrev mR (f k mc ms : Nat) : Room := { frames := f, cells := mc, slots := ms, locals := k }
abbrev mQ (D : va_G) (Wf : (Nat → Nat) → va_W) (A : Nat → Prop) : Array Value → State → Outcome → State → Prop := va_Qv (fun _ : Nat → Nat => True) (fun x t => va_P D vwCl (Wf x) t.heap ∧ va_D A (Wf x)) A
def MK (l : Launch) (y : MethodName) (cc : ByteArray) (n f k mc ms : Nat) (D : va_G) (g : Nat → ClassId) (a : Nat) (As : List Value) (ci : Nat) (d0 : List Value) (Wf : (Nat → Nat) → va_W) : Prop :=
  ∀ sz, Met l y (Cond.code y cc n none :: gw) (mR f k mc ms) (va_Pc (.ref a :: As) (fun U => U.heap.size = sz ∧ va_P D vwCl (eO a ci d0) U.heap ∧ KA D g U)) (mQ D Wf (va_A (eO a ci d0) sz)) mc ms (va_A (eO a ci d0) sz)
theorem eO_D {a ci : Nat} {fs : List Value} : va_D (fun _ => True) (eO a ci fs) := by
  refine ⟨fun i j p q hi hj _ => ?_, fun _ _ _ => trivial⟩
  have h1 : i < 1 := (List.getElem?_eq_some_iff.mp hi).1
  have h2 : j < 1 := (List.getElem?_eq_some_iff.mp hj).1
  omega
theorem MK.intro {l : Launch} {y : MethodName} {cc : ByteArray} {n f k mc ms : Nat} {D : va_G} {g : Nat → ClassId} {a : Nat} {As : List Value} {ci : Nat} {d0 : List Value} {Wf : (Nat → Nat) → va_W} (hy : plainFor y = true) (hn : (lg_sl (.ref a :: As)).length ≤ n)
    (body : ∀ (A : Nat → Prop) (p : Program) (e : Env) (s : State) (m : MethodId) (args : Array Value) (below : List Frame) (meth : Method) (c : Code) (ls : Array Slot), ZB D g y.cls cc n none p s m args c meth → KA D g s → meth.name = y.name → va_P D vwCl (eO a ci d0) s.heap → va_D A (eO a ci d0) → va_S A s.heap s.heap [] → (∀ q, s.heap.size ≤ q → A q) → lv_has ls n (lv_args 0 (.ref a :: As)) →
      W p l e (mR f k mc ms) s m args below meth c s.heap [] 0 0 (MQ below (mQ D Wf A) args s mc ms A) (F0 m 0 ls [])) : MK l y cc n f k mc ms D g a As ci d0 Wf := by
  intro sz
  refine zMetF (cc := cc) (maxL := n) (ret := none) hy rfl ?_
  intro p e s m args below meth c s₁ B hml hv
  obtain ⟨rfl, rfl, hP, hK⟩ := hv
  have hts := atoms_spec (ws := Cond.code y cc n none :: gw) B.pre
  have hl := lv_entry (.ref a :: As) (n := n) hn
  rw [lg_entry_eq]
  exact body _ p e s m _ below meth c _ ⟨⟨⟨B.exec, B.bytes, hml, findClass_of_methodNamed B.named, fun w hw => hts w (List.mem_cons_of_mem _ hw)⟩, hK.1⟩, B.returns, B.notSynchronized⟩ hK (name_of_methodNamed B.named B.method).1 hP eO_D.self va_S.rf (fun q h => Or.inr h) hl
theorem arrV_cg {cA : ClassId} {N : Nat} {f f' : Nat → Value} (h : ∀ j, j < N → f j = f' j) : arrV cA N f = arrV cA N f' := by
  unfold arrV
  congr 1
  congr 1
  funext i
  exact h i.1 i.2
theorem y_chg {D : va_G} {A : Nat → Prop} {ws : va_W} {a N : Nat} {cA : ClassId} {f f' : Nat → Int32} {H : Heap} (q0 : Nat) (hP : va_P D vwCl ws H) (hD : va_D A ws) (he : ws[q0]? = some (a, .inl (cA, N, .inl f))) (e : va_at D vwCl (a, .inl (cA, N, .inl f)) H → va_at D vwCl (a, .inl (cA, N, .inl f')) H) : va_P D vwCl (ws.set q0 (a, .inl (cA, N, .inl f'))) H ∧ va_D A (ws.set q0 (a, .inl (cA, N, .inl f'))) :=
  ⟨hP.set hD he (e (hP q0 _ he)) (fun _ _ => rfl), hD.set he⟩
theorem va_atf {D : va_G} {a N : Nat} {cA : ClassId} {f f' : Nat → Int32} {H : Heap} (h : va_at D vwCl (a, .inl (cA, N, .inl f)) H) (e : ∀ j, j < N → f j = f' j) : va_at D vwCl (a, .inl (cA, N, .inl f')) H := by
  have h1 : H[a]? = some (arrV cA N (fun j => .int (f j))) := h
  show H[a]? = some (arrV cA N (fun j => .int (f' j)))
  rw [h1, arrV_cg (fun j hj => by rw [e j hj])]
theorem va_atq {D : va_G} {a N : Nat} {cA : ClassId} {f f' : Nat → Option Nat} {H : Heap} (h : va_at D vwCl (a, .inl (cA, N, .inr (.inr (.inr (.inr f))))) H) (e : ∀ j, j < N → f j = f' j) : va_at D vwCl (a, .inl (cA, N, .inr (.inr (.inr (.inr f'))))) H := by
  have h1 : H[a]? = some (arrV cA N (fun j => va_rf (f j))) := h
  show H[a]? = some (arrV cA N (fun j => va_rf (f' j)))
  rw [h1, arrV_cg (fun j hj => by rw [e j hj])]
theorem y_join {A0 : Nat → Prop} {D : va_G} {ws w1 : va_W} {a ci : Nat} {d0 : List Value} {H H1 : Heap} (hP : va_P D vwCl (ws ++ eO a ci d0) H) (hD : va_D A0 (ws ++ eO a ci d0)) (hA : ∀ q, H.size ≤ q → A0 q)
    (hk : ∀ q : Nat, q < H.size → ¬ va_A (eO a ci d0) H.size q → H1[q]? = H[q]?) (hP1 : va_P D vwCl w1 H1) (hD1 : va_D (va_A (eO a ci d0) H.size) w1) : va_P D vwCl (ws ++ w1) H1 ∧ va_D A0 (ws ++ w1) := by
  have hg : ∀ (k : Nat) (x : Nat × va_E), ws[k]? = some x → (ws ++ eO a ci d0)[k]? = some x := fun k x hx => by
    rw [List.getElem?_append_left (List.getElem?_eq_some_iff.mp hx).1]; exact hx
  have ha : (ws ++ eO a ci d0)[ws.length]? = some (a, .inr (ci, d0)) := by simp
  have hin : ∀ q, va_A (eO a ci d0) H.size q → A0 q := fun q h => by
    rcases h with ⟨k, e, h⟩ | h
    · have hz : k < 1 := (List.getElem?_eq_some_iff.mp h).1
      rw [show k = 0 by omega] at h
      cases h
      exact hD.2 _ _ ha
    · exact hA q h
  have apart : ∀ (k : Nat) (x : Nat × va_E), ws[k]? = some x → x.1 < H.size ∧ ¬ va_A (eO a ci d0) H.size x.1 := by
    intro k x hx
    have hl := (hP k x (hg k x hx)).lt
    refine ⟨hl, fun h => ?_⟩
    rcases h with ⟨k2, e, h⟩ | h
    · have hz : k2 < 1 := (List.getElem?_eq_some_iff.mp h).1
      rw [show k2 = 0 by omega] at h
      have e1 : (a, Sum.inr (ci, d0)) = (x.1, e) := Option.some.inj h
      have h3 := hD.1 k ws.length x _ (hg k x hx) ha (by rw [Prod.mk.injEq] at e1; exact e1.1.symm)
      have := (List.getElem?_eq_some_iff.mp hx).1
      omega
    · omega
  refine ⟨va_P.app (fun k x hx => (hP k x (hg k x hx)).kept (hk x.1 (apart k x hx).1 (apart k x hx).2)) hP1, va_D.app ⟨fun i j x z hx hz h => hD.1 i j x z (hg i x hx) (hg j z hz) h, fun k x hx => hD.2 k x (hg k x hx)⟩ (hD1.weaken (fun _ x _ h => hin x.1 h)) (fun i j x z hx hz h => (apart i x hx).2 (by rw [h]; exact hD1.2 j z hz))⟩
section YR
variable {p : Program} {l : Launch} {e : Env} {R : Room} {s : State} {m : MethodId} {args : Array Value} {below : List Frame} {meth : Method} {c : Code} {H H0 : Heap} {locs : List Loc} {cells slots : Nat} {Q : State → Prop} {A : Nat → Prop} {ws : va_W}
variable {cc : ByteArray} {pc : Nat} {ls : Array Slot} {rest : List Value} {D : va_G} {g : Nat → ClassId} {own : String} {nL : Nat} {lv : List (Nat × Value)}
variable {y : MethodName} {bytes : ByteArray} {maxL index f k mc ms : Nat} {As : List Value} {host : String}
theorem y_newa (C : Cx D g own cc nL p s m args c) (hP : va_P D vwCl ws H) (hD : va_D A ws) (hS : va_S A H0 H locs) (hA : ∀ q, H0.size ≤ q → A q) {n : Int} (N : Nat) (hn : n = (N : Int)) (hN : N ≤ 1000) (hc : cells + 1 ≤ R.cells) (hs : slots + N ≤ R.slots) (d : decode cc pc = .ok (.newarray .int, 2))
    (kk : ∀ (q : Nat) (H1 : Heap), va_P D vwCl (ws ++ [(q, .inl (g 0, N, .inl (fun _ => zI 0)))]) H1 → va_D A (ws ++ [(q, .inl (g 0, N, .inl (fun _ => zI 0)))]) → va_S A H0 H1 locs → W p l e R s m args below meth c H1 locs (cells + 1) (slots + N) Q (F0 m (pc + 2) ls (.ref q :: rest))) : W p l e R s m args below meth c H locs cells slots Q (F0 m pc ls (.int (zI n) :: rest)) := by
  subst hn
  refine va_newa (atype := .int) (ty := .int) (a0 := (N, .inl (fun _ => zI 0))) (N' := N) C.1.1 C.1.2.1 (C.1.2.2.2.2 _ wg_54) rfl C.2.1 hP hD hS hA (fun _ => rfl) (by rw [show (0 : Int32) = zI 0 from rfl, zI_lt ⟨by omega, by omega⟩ zR_0]; omega) (by rw [zI_clamp (by omega) ⟨by omega, by omega⟩]; rfl) (by show N * 4 ≤ _; omega) hc hs d (fun q cA H1 hK hP hD hS => ?_)
  have e1 : cA = g 0 := Option.some.inj (((hK.2 4 (cA, .int) rfl).2).symm.trans (C.2.1.2 0 (g 0, .int) rfl).2)
  subst e1
  exact kk q H1 hP hD hS
theorem y_newz (C : Cx D g own cc nL p s m args c) (hP : va_P D vwCl ws H) (hD : va_D A ws) (hS : va_S A H0 H locs) (hA : ∀ q, H0.size ≤ q → A q) {n : Int} (N : Nat) (hn : n = (N : Int)) (hN : N ≤ 1000) (hc : cells + 1 ≤ R.cells) (hs : slots + N ≤ R.slots) (d : decode cc pc = .ok (.newarray .boolean, 2))
    (kk : ∀ (q : Nat) (H1 : Heap), va_P D vwCl (ws ++ [(q, .inl (g 1, N, .inl (fun _ => zI 0)))]) H1 → va_D A (ws ++ [(q, .inl (g 1, N, .inl (fun _ => zI 0)))]) → va_S A H0 H1 locs → W p l e R s m args below meth c H1 locs (cells + 1) (slots + N) Q (F0 m (pc + 2) ls (.ref q :: rest))) : W p l e R s m args below meth c H locs cells slots Q (F0 m pc ls (.int (zI n) :: rest)) := by
  subst hn
  refine va_newa (atype := .boolean) (ty := .boolean) (a0 := (N, .inl (fun _ => zI 0))) (N' := N) C.1.1 C.1.2.1 (C.1.2.2.2.2 _ wg_671) rfl C.2.1 hP hD hS hA (fun _ => rfl) (by rw [show (0 : Int32) = zI 0 from rfl, zI_lt ⟨by omega, by omega⟩ zR_0]; omega) (by rw [zI_clamp (by omega) ⟨by omega, by omega⟩]; rfl) (by show N * 1 ≤ _; omega) hc hs d (fun q cA H1 hK hP hD hS => ?_)
  have e1 : cA = g 1 := Option.some.inj (((hK.2 4 (cA, .boolean) rfl).2).symm.trans (C.2.1.2 1 (g 1, .boolean) rfl).2)
  subst e1
  exact kk q H1 hP hD hS
theorem y_newq (C : Cx D g own cc nL p s m args c) {CN : String} (t : Nat) (ht : (zT g)[t]? = some (g t, .object CN)) (hO : va_AO CN s) (wl : Cond.classLink own index CN ∈ gw) (hP : va_P D vwCl ws H) (hD : va_D A ws) (hS : va_S A H0 H locs) (hA : ∀ q, H0.size ≤ q → A q) {n : Int} (N : Nat) (hn : n = (N : Int)) (hN : N ≤ 1000) (hc : cells + 1 ≤ R.cells) (hs : slots + N ≤ R.slots) (d : decode cc pc = .ok (.anewarray index, 3))
    (kk : ∀ (q : Nat) (H1 : Heap), va_P D vwCl (ws ++ [(q, .inl (g t, N, .inr (.inr (.inr (.inr (fun _ => none))))))]) H1 → va_D A (ws ++ [(q, .inl (g t, N, .inr (.inr (.inr (.inr (fun _ => none))))))]) → va_S A H0 H1 locs → W p l e R s m args below meth c H1 locs (cells + 1) (slots + N) Q (F0 m (pc + 3) ls (.ref q :: rest))) : W p l e R s m args below meth c H locs cells slots Q (F0 m pc ls (.int (zI n) :: rest)) := by
  subst hn
  refine va_newq (N' := N) C.1.1 C.1.2.1 C.1.2.2.2.1 (C.1.2.2.2.2 _ wl) hO C.2.1 hP hD hS hA (by rw [show (0 : Int32) = zI 0 from rfl, zI_lt ⟨by omega, by omega⟩ zR_0]; omega) (by rw [zI_clamp (by omega) ⟨by omega, by omega⟩]; rfl) (by omega) hc hs d (fun q cA H1 hK hP hD hS => ?_)
  obtain ⟨-, -, -, -, -, h1⟩ := (hK.2 4 (cA, .object CN) rfl).2
  obtain ⟨-, -, -, -, -, h2⟩ := (C.2.1.2 t (g t, .object CN) ht).2
  have e1 : cA = g t := Option.some.inj (h1.symm.trans h2)
  subst e1
  exact kk q H1 hP hD hS
theorem y_new (C : Cx D g own cc nL p s m args c) {CN : String} {T : u_T} {N ci : Nat} (hin : ∀ w ∈ u_ws CN T N, w ∈ gw) (ty : Nat → FieldType) (hty : ∀ k, k < N → parseFieldDescriptor (T k).2.2.1 = some (ty k)) (wl : Cond.classLink own index CN ∈ gw) (wn : Cond.instantiable CN N ∈ gw) (wi : Cond.initialized CN ∈ gw) (hP : va_P D vwCl ws H) (hD : va_D A ws) (hS : va_S A H0 H locs) (hA : ∀ q, H0.size ≤ q → A q) (hc : vwCl[ci]? = some (CN, T, N)) (fs : List Value) (hfs : ∀ j, j < N → defaultValue (ty j) = vp_V fs j) (hcl : cells + 1 ≤ R.cells) (hsl : slots + N ≤ R.slots) (d : decode cc pc = .ok (.new index, 3))
    (kk : ∀ (q : Nat) (H1 : Heap), va_P D vwCl (ws ++ eO q ci fs) H1 → va_D A (ws ++ eO q ci fs) → va_S A H0 H1 locs → W p l e R s m args below meth c H1 locs (cells + 1) (slots + N) Q (F0 m (pc + 3) ls (.ref q :: rest))) : W p l e R s m args below meth c H locs cells slots Q (F0 m pc ls rest) :=
  va_new C.1.1 C.1.2.1 C.1.2.2.2.2 hin ty hty C.1.2.2.2.1 (C.1.2.2.2.2 _ wl) (C.1.2.2.2.2 _ wn) (C.1.2.2.2.2 _ wi) C.2.1 hP hD hS hA hc hfs hcl hsl d kk
theorem y_putF (C : Cx D g own cc nL p s m args c) (hm : meth.name = "<init>") (hP : va_P D vwCl ws H) (hD : va_D A ws) (hS : va_S A H0 H locs) (q0 : Nat) {a ci N kf : Nat} {T : u_T} {ty0 : Nat → FieldType} {fs : List Value} {v : Value} {ty : FieldType} (he : ws[q0]? = some (a, .inr (ci, fs))) (hc : vwCl[ci]? = some (own, T, N)) (hin : ∀ w ∈ u_ws own T N, w ∈ gw) (hty : ∀ k, k < N → parseFieldDescriptor (T k).2.2.1 = some (ty0 k)) (hnm : ∀ a, a < N → ∀ b, b < N → a ≠ b → (T a).2.1 ≠ (T b).2.1) (hk : kf < N) (hT : (T kf).1 = own) (hfin : (T kf).2.2.2 = true) (hd : parseFieldDescriptor (T kf).2.2.1 = some ty) (hn : narrow ty v = v) (hfit : fits ty v = true) (hfl : kf < fs.length) (hl : Cond.fieldLink own index own (T kf).2.1 (T kf).2.2.1 ∈ gw) (d : decode cc pc = .ok (.putfield index, 3)) (k : ∀ (H1 : Heap) (locs1 : List Loc), va_P D vwCl (ws.set q0 (a, .inr (ci, fs.set kf v))) H1 → va_D A (ws.set q0 (a, .inr (ci, fs.set kf v))) → va_S A H0 H1 locs1 → W p l e R s m args below meth c H1 locs1 cells slots Q (F0 m (pc + 3) ls rest)) : W p l e R s m args below meth c H locs cells slots Q (F0 m pc ls (v :: .ref a :: rest)) :=
  va_putF C.1.1 C.1.2.1 C.1.2.2.2.2 hin ty0 hty hnm C.1.2.2.2.1 C.2.1 hP hD hS q0 he hc kf hk (C.1.2.2.2.2 _ hl) (by rw [hT]; exact fun _ h => h) hfin hm hT hd hn hfit hfl d k
theorem y_put (C : Cx D g own cc nL p s m args c) (hP : va_P D vwCl ws H) (hD : va_D A ws) (hS : va_S A H0 H locs) (q0 : Nat) {a ci N kf : Nat} {T : u_T} {ty0 : Nat → FieldType} {fs : List Value} {v : Value} {ty : FieldType} (he : ws[q0]? = some (a, .inr (ci, fs))) (hc : vwCl[ci]? = some (own, T, N)) (hin : ∀ w ∈ u_ws own T N, w ∈ gw) (hty : ∀ k, k < N → parseFieldDescriptor (T k).2.2.1 = some (ty0 k)) (hnm : ∀ a, a < N → ∀ b, b < N → a ≠ b → (T a).2.1 ≠ (T b).2.1) (hk : kf < N) (hT : (T kf).1 = own) (hfin : (T kf).2.2.2 = false) (hd : parseFieldDescriptor (T kf).2.2.1 = some ty) (hn : narrow ty v = v) (hfit : fits ty v = true) (hfl : kf < fs.length) (hl : Cond.fieldLink own index own (T kf).2.1 (T kf).2.2.1 ∈ gw) (d : decode cc pc = .ok (.putfield index, 3)) (k : ∀ (H1 : Heap) (locs1 : List Loc), va_P D vwCl (ws.set q0 (a, .inr (ci, fs.set kf v))) H1 → va_D A (ws.set q0 (a, .inr (ci, fs.set kf v))) → va_S A H0 H1 locs1 → W p l e R s m args below meth c H1 locs1 cells slots Q (F0 m (pc + 3) ls rest)) : W p l e R s m args below meth c H locs cells slots Q (F0 m pc ls (v :: .ref a :: rest)) :=
  va_put C.1.1 C.1.2.1 C.1.2.2.2.2 hin ty0 hty hnm C.1.2.2.2.1 C.2.1 hP hD hS q0 he hc kf hk (C.1.2.2.2.2 _ hl) (by rw [hT]; exact fun _ h => h) hfin hd hn hfit hfl d k
theorem y_get (C : Cx D g own cc nL p s m args c) (hP : va_P D vwCl ws H) (q0 : Nat) {a ci N kf : Nat} {T : u_T} {fs : List Value} {v : Value} (he : ws[q0]? = some (a, .inr (ci, fs))) (hc : vwCl[ci]? = some (own, T, N)) (hin : ∀ w ∈ u_ws own T N, w ∈ gw) (hk : kf < N) (hT : (T kf).1 = own) (hl : Cond.fieldLink own index own (T kf).2.1 (T kf).2.2.1 ∈ gw) (hv : fs[kf]? = some v) (d : decode cc pc = .ok (.getfield index, 3)) (k : W p l e R s m args below meth c H locs cells slots Q (F0 m (pc + 3) ls (v :: rest))) : W p l e R s m args below meth c H locs cells slots Q (F0 m pc ls (.ref a :: rest)) :=
  va_get C.1.1 C.1.2.1 C.1.2.2.2.2 hin C.1.2.2.2.1 C.2.1 hP q0 he hc kf hk (C.1.2.2.2.2 _ hl) (by rw [hT]; exact fun _ h => h) hv d k
theorem y_iast (C : Cx D g own cc nL p s m args c) (hP : va_P D vwCl ws H) (hD : va_D A ws) (hS : va_S A H0 H locs) (q0 : Nat) {a N : Nat} {fn : Nat → Int32} (he : ws[q0]? = some (a, .inl (g 0, N, .inl fn))) {i x : Int} (n : Nat) (hi : i = (n : Int)) (h : n < N) (hN : N ≤ 1000) (d : decode cc pc = .ok (.iastore, 1)) (k : ∀ (H1 : Heap) (locs1 : List Loc), va_P D vwCl (ws.set q0 (a, .inl (g 0, N, .inl (upd fn n (zI x))))) H1 → va_D A (ws.set q0 (a, .inl (g 0, N, .inl (upd fn n (zI x))))) → va_S A H0 H1 locs1 → W p l e R s m args below meth c H1 locs1 cells slots Q (F0 m (pc + 1) ls rest)) : W p l e R s m args below meth c H locs cells slots Q (F0 m pc ls (.int (zI x) :: .int (zI i) :: .ref a :: rest)) := by
  subst hi
  have hr : zR (n : Int) := ⟨by omega, by omega⟩
  refine va_iast C.1.1 C.1.2.1 C.2.1 hP hD hS q0 0 he rfl (zI_vin (by omega) (by omega) hr) d (fun H1 locs1 h1 h2 h3 => ?_)
  rw [zI_clamp (by omega) hr] at h1 h2
  exact k H1 locs1 h1 h2 h3
theorem y_aast (C : Cx D g own cc nL p s m args c) (hP : va_P D vwCl ws H) (hD : va_D A ws) (hS : va_S A H0 H locs) (q0 qk t ci : Nat) {r : vw_C} {a v N : Nat} {vs : List Value} {fn : Nat → Option Nat} (he : ws[q0]? = some (a, .inl (g t, N, .inr (.inr (.inr (.inr fn)))))) (ht : (zT g)[t]? = some (g t, .object r.1)) (hv : ws[qk]? = some (v, .inr (ci, vs))) (hc : vwCl[ci]? = some r) {i : Int} (n : Nat) (hi : i = (n : Int)) (h : n < N) (hN : N ≤ 1000) (d : decode cc pc = .ok (.aastore, 1)) (k : ∀ (H1 : Heap) (locs1 : List Loc), va_P D vwCl (ws.set q0 (a, .inl (g t, N, .inr (.inr (.inr (.inr (va_up fn n (some v)))))))) H1 → va_D A (ws.set q0 (a, .inl (g t, N, .inr (.inr (.inr (.inr (va_up fn n (some v)))))))) → va_S A H0 H1 locs1 → W p l e R s m args below meth c H1 locs1 cells slots Q (F0 m (pc + 1) ls rest)) : W p l e R s m args below meth c H locs cells slots Q (F0 m pc ls (.ref v :: .int (zI i) :: .ref a :: rest)) := by
  subst hi
  have hr : zR (n : Int) := ⟨by omega, by omega⟩
  refine va_astq C.1.1 C.1.2.1 C.2.1 hP hD hS q0 t qk ci he ht hv hc (zI_vin (by omega) (by omega) hr) d (fun H1 locs1 h1 h2 h3 => ?_)
  rw [zI_clamp (by omega) hr] at h1 h2
  exact k H1 locs1 h1 h2 h3
theorem y_aald (C : Cx D g own cc nL p s m args c) (hP : va_P D vwCl ws H) (q0 t : Nat) {CN : String} {a N : Nat} {fn : Nat → Option Nat} (he : ws[q0]? = some (a, .inl (g t, N, .inr (.inr (.inr (.inr fn)))))) (ht : (zT g)[t]? = some (g t, .object CN)) {i : Int} (n : Nat) (hi : i = (n : Int)) (h : n < N) (hN : N ≤ 1000) (d : decode cc pc = .ok (.aaload, 1)) (k : W p l e R s m args below meth c H locs cells slots Q (F0 m (pc + 1) ls (va_rf (fn n) :: rest))) : W p l e R s m args below meth c H locs cells slots Q (F0 m pc ls (.int (zI i) :: .ref a :: rest)) := by
  subst hi
  have hr : zR (n : Int) := ⟨by omega, by omega⟩
  refine va_aldq C.1.1 C.1.2.1 C.2.1 hP q0 t he ht (zI_vin (by omega) (by omega) hr) d ?_
  rw [zI_clamp (by omega) hr]
  exact k
theorem y_alen (C : Cx D g own cc nL p s m args c) (hP : va_P D vwCl ws H) (q0 : Nat) {a N : Nat} {fn : Nat → Int32} (he : ws[q0]? = some (a, .inl (g 0, N, .inl fn))) (d : decode cc pc = .ok (.arraylength, 1)) (k : W p l e R s m args below meth c H locs cells slots Q (F0 m (pc + 1) ls (.int (zI N) :: rest))) : W p l e R s m args below meth c H locs cells slots Q (F0 m pc ls (.ref a :: rest)) :=
  va_alen (x := (N, .inl fn)) (v := zI N) C.1.1 C.1.2.1 C.2.1 hP q0 0 (cA := g 0) he rfl (zI_nI N).symm d k
theorem y_oinit (C : Cx D g own cc nL p s m args c) (hl : lv_has ls nL lv) (w : Cond.methodLink own index Lib.objectInit ∈ gw) {a : Nat} (d : decode cc pc = .ok (.invokespecial index, 3)) (hR : 1 ≤ R.frames ∧ 12 ≤ R.locals) (k : W p l e R s m args below meth c H locs cells slots Q (F0 m (pc + 3) ls [])) : W p l e R s m args below meth c H locs cells slots Q (F0 m pc ls [.ref a]) :=
  W.objInit C.1.1 C.1.2.1 C.1.2.2.2.1 (C.1.2.2.2.2 _ w) (C.1.2.2.2.2 _ wg_19) (C.1.2.2.2.2 _ wg_20) rfl (by rw [C.1.2.2.1]; exact hl.1) rfl d hR.1 (by simpa [F0] using hR.2) k
theorem y_pre (K : KA D g s) {b ci : Nat} {d0 : List Value} (hP : va_P D vwCl (eO b ci d0) H) : PreS s H (va_Pc (.ref b :: As) (fun U => U.heap.size = H.size ∧ va_P D vwCl (eO b ci d0) U.heap ∧ KA D g U)) (.ref b :: As) :=
  ⟨fun _ _ _ _ h => ⟨h.1, h.2.1, h.2.2.1, h.2.2.2.calling⟩, fun _ hU hW => ⟨rfl, by rw [hU], by rw [hU]; exact hP, K.moved hW⟩⟩
theorem y_last {b ci : Nat} {d0 : List Value} (hP : va_P D vwCl (ws ++ eO b ci d0) H) : va_P D vwCl (eO b ci d0) H := fun k x hx => hP (ws.length + k) x (by rw [List.getElem?_append_right (by omega)]; simpa using hx)
theorem y_freeA {b ci : Nat} {d0 : List Value} (hD : va_D A (ws ++ eO b ci d0)) (hS : va_S A H0 H locs) (hA : ∀ q, H0.size ≤ q → A q) : ∀ q, va_A (eO b ci d0) H.size q → A q := fun q h => by
  rcases h with ⟨k, e, h⟩ | h
  · have hz : k < 1 := (List.getElem?_eq_some_iff.mp h).1
    rw [show k = 0 by omega] at h
    cases h
    exact hD.2 ws.length (b, .inr (ci, d0)) (by simp)
  · exact hA q (Nat.le_trans hS.1 h)
theorem y_init (C : Cx D g own cc nL p s m args c) (K : KA D g s) {b ci : Nat} {d0 : List Value} {Wf : (Nat → Nat) → va_W} (hP : va_P D vwCl (ws ++ eO b ci d0) H) (hD : va_D A (ws ++ eO b ci d0)) (hS : va_S A H0 H locs) (hA : ∀ q, H0.size ≤ q → A q) (hl : lv_has ls nL lv) (hM : MK l y bytes maxL f k mc ms D g b [] ci d0 Wf) (hnm : y.name = "<init>") (wc : Cond.code y bytes maxL none ∈ gw) (wi : Cond.initialized y.cls ∈ gw) (wl : Cond.methodLink own index y ∈ gw) (wt : Cond.instanceMethod y ∈ gw) (hd : cwd y 0) (hR : f + 1 ≤ R.frames ∧ 8 + (maxL + 11) + k ≤ R.locals) (hcs : cells + mc ≤ R.cells ∧ slots + ms ≤ R.slots) (hr : (rest.map fun v => v.category).sum ≤ 8) (d : decode cc pc = .ok (.invokespecial index, 3))
    (kk : ∀ (x : Nat → Nat) (H1 : Heap) (locs1 : List Loc), va_P D vwCl (ws ++ Wf x) H1 → va_D A (ws ++ Wf x) → va_S A H0 H1 locs1 → W p l e R s m args below meth c H1 locs1 (cells + mc) (slots + ms) Q (F0 m (pc + 3) ls rest)) : W p l e R s m args below meth c H locs cells slots Q (F0 m pc ls (.ref b :: rest)) := by
  refine va_callv (va_runI (As := []) (rest := rest) C.1 (hM H.size) ⟨callB_of 0 C.1.2.2.2.2 (gw_good wc) rfl rfl rfl (C.1.2.2.2.2 _ wi) (C.1.2.2.2.2 _ wl) hd hR, hnm, C.1.2.2.2.2 _ wt⟩ (y_pre K (y_last hP)) rfl rfl hl.1 rfl (lv_room hr) d hcs) hS (fun q _ h => y_freeA hD hS hA q h) (y_freeA hD hS hA) (fun x t H1 locs1 ht _ _ hB hz hk hS1 => ?_)
  obtain ⟨hP1, hD1⟩ := hB
  rw [ht] at hP1
  obtain ⟨h1, h2⟩ := y_join hP hD (fun q h => hA q (Nat.le_trans hS.1 h)) hk hP1 hD1
  exact kk x H1 locs1 h1 h2 hS1
theorem y_initN (C : Cx D g own cc nL p s m args c) (K : KA D g s) {b ci : Nat} {d0 : List Value} {Wf : (Nat → Nat) → va_W} (hP : va_P D vwCl (ws ++ eO b ci d0) H) (hD : va_D A (ws ++ eO b ci d0)) (hS : va_S A H0 H locs) (hA : ∀ q, H0.size ≤ q → A q) (hl : lv_has ls nL lv) (hM : MK l y bytes maxL f k mc ms D g b [] ci d0 Wf) (hnm : y.name = "<init>") (wc : Cond.code y bytes maxL none ∈ gw) (wi : Cond.initialized y.cls ∈ gw) (wl : Cond.methodLinkNest own index y host ∈ lw_tbl) (wt : Cond.instanceMethod y ∈ gw) (hd : cwd y 0) (hR : f + 1 ≤ R.frames ∧ 8 + (maxL + 11) + k ≤ R.locals) (hcs : cells + mc ≤ R.cells ∧ slots + ms ≤ R.slots) (hr : (rest.map fun v => v.category).sum ≤ 8) (d : decode cc pc = .ok (.invokespecial index, 3))
    (kk : ∀ (x : Nat → Nat) (H1 : Heap) (locs1 : List Loc), va_P D vwCl (ws ++ Wf x) H1 → va_D A (ws ++ Wf x) → va_S A H0 H1 locs1 → W p l e R s m args below meth c H1 locs1 (cells + mc) (slots + ms) Q (F0 m (pc + 3) ls rest)) : W p l e R s m args below meth c H locs cells slots Q (F0 m pc ls (.ref b :: rest)) := by
  refine va_callv (va_runIN (As := []) (rest := rest) C.1 (hM H.size) ⟨va_cnB 0 C.1.2.2.2.2 (gw_good wc) rfl rfl rfl (C.2.2 _ wl rfl) (C.1.2.2.2.2 _ wi) hd hR, hnm, C.1.2.2.2.2 _ wt⟩ (y_pre K (y_last hP)) rfl rfl hl.1 rfl (lv_room hr) d hcs) hS (fun q _ h => y_freeA hD hS hA q h) (y_freeA hD hS hA) (fun x t H1 locs1 ht _ _ hB hz hk hS1 => ?_)
  obtain ⟨hP1, hD1⟩ := hB
  rw [ht] at hP1
  obtain ⟨h1, h2⟩ := y_join hP hD (fun q h => hA q (Nat.le_trans hS.1 h)) hk hP1 hD1
  exact kk x H1 locs1 h1 h2 hS1
theorem y_callV (C : Cx D g own cc nL p s m args c) (K : KA D g s) {b ci : Nat} {d0 : List Value} {r : vw_C} {Wf : (Nat → Nat) → va_W} (hP : va_P D vwCl (ws ++ eO b ci d0) H) (hD : va_D A (ws ++ eO b ci d0)) (hS : va_S A H0 H locs) (hA : ∀ q, H0.size ≤ q → A q) (hl : lv_has ls nL lv) (hM : MK l y bytes maxL f k mc ms D g b As ci d0 Wf) (hc : vwCl[ci]? = some r) (hr1 : r.1 = y.cls) (wc : Cond.code y bytes maxL none ∈ gw) (wi : Cond.initialized y.cls ∈ gw) (wl : Cond.methodLink own index y ∈ gw) (wt : Cond.instanceMethod y ∈ gw) (wv : Cond.selects y.cls y y ∈ gw) {n : Nat} (hd : cwd y n) (hn : As.length = n) (hR : f + 1 ≤ R.frames ∧ 8 + (maxL + 11) + k ≤ R.locals) (hcs : cells + mc ≤ R.cells ∧ slots + ms ≤ R.slots) {st0 : List Value} (hst : st0 = As.reverse ++ .ref b :: rest) (hr : (rest.map fun v => v.category).sum ≤ 8) (d : decode cc pc = .ok (.invokevirtual index, 3))
    (kk : ∀ (x : Nat → Nat) (H1 : Heap) (locs1 : List Loc), va_P D vwCl (ws ++ Wf x) H1 → va_D A (ws ++ Wf x) → va_S A H0 H1 locs1 → W p l e R s m args below meth c H1 locs1 (cells + mc) (slots + ms) Q (F0 m (pc + 3) ls rest)) : W p l e R s m args below meth c H locs cells slots Q (F0 m pc ls st0) := by
  have hpre := y_pre (As := As) K (y_last hP)
  have hrv := va_recv C.2.1 (y_last hP) hc (q0 := 0) rfl
  rw [hr1] at hrv
  refine va_callv (va_runV (As := As) (rest := rest) C.1 (hM H.size) ⟨callB_of n C.1.2.2.2.2 (gw_good wc) rfl rfl rfl (C.1.2.2.2.2 _ wi) (C.1.2.2.2.2 _ wl) hd hR, C.1.2.2.2.2 _ wt, C.1.2.2.2.2 _ wv⟩ ⟨hpre.1, hrv, hpre.2⟩ rfl hn hl.1 hst (lv_room hr) d hcs) hS (fun q _ h => y_freeA hD hS hA q h) (y_freeA hD hS hA) (fun x t H1 locs1 ht _ _ hB hz hk hS1 => ?_)
  obtain ⟨hP1, hD1⟩ := hB
  rw [ht] at hP1
  obtain ⟨h1, h2⟩ := y_join hP hD (fun q h => hA q (Nat.le_trans hS.1 h)) hk hP1 hD1
  exact kk x H1 locs1 h1 h2 hS1
theorem y_ret {Wf : (Nat → Nat) → va_W} (B : ZB D g own cc nL none p s m args c meth) (x : Nat → Nat) (hP : va_P D vwCl (Wf x) H) (hD : va_D A (Wf x)) (hS : va_S A s.heap H locs) (d : decode cc pc = .ok (.return_, 1)) : W p l e R s m args below meth c H locs mc ms (MQ below (mQ D Wf A) args s mc ms A) (F0 m pc ls []) :=
  W.vret B.1.1.1 B.1.1.2.1 B.2.1 (fun t ht _ => ⟨⟨x, rfl, trivial, by rw [ht]; exact hP, hD⟩, hS.F ht⟩) hS.2.2 d B.2.2
end YR
