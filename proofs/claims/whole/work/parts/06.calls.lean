/-! contracts: RO leaves the heap as it was; RW leaves the joint world with a new memory -/
def qRO (v : Option Value) : Array Value → State → Outcome → State → Prop := fun _ st o t => o = .returned v ∧ t.heap = st.heap
def qRW (D : va_G) (q : Nat → Nat) (g : Nat → ClassId) (vf : Int → Option Value) (post : Int → Mem → Prop) : Array Value → State → Outcome → State → Prop := fun _ st o t => (∃ r σ', o = .returned (vf r) ∧ post r σ' ∧ HP D q g σ' t.heap) ∧ va_F (aQ q) st t
abbrev vI (z : Int) : Option Value := some (.int (zI z))
abbrev vV (_ : Int) : Option Value := none
abbrev pW (D : va_G) (q : Nat → Nat) (g : Nat → ClassId) (σ : Mem) (U : State) : Prop := HP D q g σ U.heap ∧ KK D g U
abbrev zRm (f k : Nat) : Room := { frames := f, cells := 0, slots := 0, locals := k }
def RO (l : Launch) (y : MethodName) (cc : ByteArray) (n : Nat) (ret : Option FieldType) (f k : Nat) (D : va_G) (q : Nat → Nat) (g : Nat → ClassId) (σ : Mem) (As : List Value) (v : Option Value) : Prop :=
  Met l y (Cond.code y cc n ret :: gw) (zRm f k) (va_Pc As (pW D q g σ)) (qRO v) 0 0 (fun _ => False)
def RW (l : Launch) (y : MethodName) (cc : ByteArray) (n : Nat) (ret : Option FieldType) (f k : Nat) (D : va_G) (q : Nat → Nat) (g : Nat → ClassId) (σ : Mem) (As : List Value) (vf : Int → Option Value) (post : Int → Mem → Prop) : Prop :=
  Met l y (Cond.code y cc n ret :: gw) (zRm f k) (va_Pc As (pW D q g σ)) (qRW D q g vf post) 0 0 (aQ q)
theorem pW_blind {D : va_G} {q : Nat → Nat} {g : Nat → ClassId} {σ : Mem} {As : List Value} : FrameBlind (va_Pc As (pW D q g σ)) := fun _ _ _ _ h => ⟨h.1, h.2.1, h.2.2.calling⟩
theorem bz_nb {P : Prop} [Decidable P] : narrow .boolean (.int (zI (bz P))) = .int (zI (bz P)) := by unfold bz; split <;> rfl
/-- what a body of a method without making stands on -/
abbrev ZB (D : va_G) (g : Nat → ClassId) (own : String) (cc : ByteArray) (nL : Nat) (ret : Option FieldType) (p : Program) (s : State) (m : MethodId) (args : Array Value) (c : Code) (meth : Method) : Prop := Cx D g own cc nL p s m args c ∧ meth.sig.returnType = ret ∧ meth.locks = false
theorem zMetF {l : Launch} {y : MethodName} {ws ws' : List Cond} {rm : Room} {Pc : Array Value → State → Prop} {Qc : Array Value → State → Outcome → State → Prop} {mc ms : Nat} {free : Addr → Prop} {cc : ByteArray} {maxL : Nat} {ret : Option FieldType}
    (hy : plainFor y = true) (hw : ws = Cond.code y cc maxL ret :: ws')
    (body : ∀ p e s m args below meth c s₁, BodyLoose p l y (headSpec ws rm) cc maxL ret e s m args below meth c s₁ → c.maxLocals = maxL → Pc args s →
      W p l e (headSpec ws rm).room s m args below meth c s.heap [] 0 0 (MQ below Qc args s mc ms free) (entryFrame m args maxL)) : Met l y ws rm Pc Qc mc ms free := by
  refine MetFree.of_bodySF (code := cc) (maxLocals := maxL) (ret := ret) hy ?_ ?_
  · intro args s m h hn
    obtain ⟨meth, c, h1, h2, h3, h4, h5, h6, -, -⟩ := Cond.code_spec hn (atoms_spec (ws := ws) h _ (by rw [hw]; exact List.mem_cons_self))
    exact ⟨meth, c, h1, h2, h3, h4, h5, h6⟩
  · intro p e s m args below meth c s₁ B hml hP _
    have hh0 : s₁.heap = s.heap := by rw [B.state]; rfl
    obtain ⟨t, a1, o, b1, b2, b3⟩ := body p e s m args below meth c s₁ B hml hP s₁ hh0 (Stand.of_body B)
    exact ⟨t, o, a1, b1, b2, ⟨b3.1, b3.2⟩⟩
theorem RO.intro {l : Launch} {y : MethodName} {cc : ByteArray} {n : Nat} {ret : Option FieldType} {f k : Nat} {D : va_G} {q : Nat → Nat} {g : Nat → ClassId} {σ : Mem} {As : List Value} {v : Option Value} (hy : plainFor y = true) (hn : (lg_sl As).length ≤ n)
    (body : ∀ (p : Program) (e : Env) (s : State) (m : MethodId) (args : Array Value) (below : List Frame) (meth : Method) (c : Code) (ls : Array Slot), ZB D g y.cls cc n ret p s m args c meth → HP D q g σ s.heap → lv_has ls n (lv_args 0 As) →
      W p l e (zRm f k) s m args below meth c s.heap [] 0 0 (MQ below (qRO v) args s 0 0 (fun _ => False)) (F0 m 0 ls [])) : RO l y cc n ret f k D q g σ As v := by
  refine zMetF (cc := cc) (maxL := n) (ret := ret) hy rfl ?_
  intro p e s m args below meth c s₁ B hml hv
  obtain ⟨rfl, hP, hK⟩ := hv
  have hts := atoms_spec (ws := Cond.code y cc n ret :: gw) B.pre
  have hl := lv_entry As (n := n) hn
  rw [lg_entry_eq]
  exact body p e s m _ below meth c _ ⟨⟨⟨B.exec, B.bytes, hml, findClass_of_methodNamed B.named, fun w hw => hts w (List.mem_cons_of_mem _ hw)⟩, hK⟩, B.returns, B.notSynchronized⟩ hP hl
theorem RW.intro {l : Launch} {y : MethodName} {cc : ByteArray} {n : Nat} {ret : Option FieldType} {f k : Nat} {D : va_G} {q : Nat → Nat} {g : Nat → ClassId} {σ : Mem} {As : List Value} {vf : Int → Option Value} {post : Int → Mem → Prop} (hy : plainFor y = true) (hn : (lg_sl As).length ≤ n)
    (body : ∀ (p : Program) (e : Env) (s : State) (m : MethodId) (args : Array Value) (below : List Frame) (meth : Method) (c : Code) (ls : Array Slot), ZB D g y.cls cc n ret p s m args c meth → HP D q g σ s.heap → va_S (aQ q) s.heap s.heap [] → lv_has ls n (lv_args 0 As) →
      W p l e (zRm f k) s m args below meth c s.heap [] 0 0 (MQ below (qRW D q g vf post) args s 0 0 (aQ q)) (F0 m 0 ls [])) : RW l y cc n ret f k D q g σ As vf post := by
  refine zMetF (cc := cc) (maxL := n) (ret := ret) hy rfl ?_
  intro p e s m args below meth c s₁ B hml hv
  obtain ⟨rfl, hP, hK⟩ := hv
  have hts := atoms_spec (ws := Cond.code y cc n ret :: gw) B.pre
  have hl := lv_entry As (n := n) hn
  rw [lg_entry_eq]
  exact body p e s m _ below meth c _ ⟨⟨⟨B.exec, B.bytes, hml, findClass_of_methodNamed B.named, fun w hw => hts w (List.mem_cons_of_mem _ hw)⟩, hK⟩, B.returns, B.notSynchronized⟩ hP va_S.rf hl
abbrev WO (p : Program) (l : Launch) (e : Env) (f k : Nat) (s : State) (m : MethodId) (args : Array Value) (below : List Frame) (meth : Method) (c : Code) (v : Option Value) (fr : JFrame) : Prop := W p l e (zRm f k) s m args below meth c s.heap [] 0 0 (MQ below (qRO v) args s 0 0 (fun _ => False)) fr
abbrev WW (p : Program) (l : Launch) (e : Env) (f k : Nat) (s : State) (m : MethodId) (args : Array Value) (below : List Frame) (meth : Method) (c : Code) (H : Heap) (locs : List Loc) (D : va_G) (q : Nat → Nat) (g : Nat → ClassId) (vf : Int → Option Value) (post : Int → Mem → Prop) (fr : JFrame) : Prop := W p l e (zRm f k) s m args below meth c H locs 0 0 (MQ below (qRW D q g vf post) args s 0 0 (aQ q)) fr
section ZC
variable {p : Program} {l : Launch} {e : Env} {R : Room} {s : State} {m : MethodId} {args : Array Value} {below : List Frame} {meth : Method} {c : Code} {H : Heap} {locs : List Loc} {Q : State → Prop}
variable {cc : ByteArray} {pc : Nat} {ls : Array Slot} {rest : List Value} {D : va_G} {q : Nat → Nat} {g : Nat → ClassId} {σ : Mem} {own : String} {nL : Nat} {lv : List (Nat × Value)}
variable {y : MethodName} {bytes : ByteArray} {maxL n index f k : Nat} {ret : Option FieldType} {As : List Value} {v : Value} {vf : Int → Option Value} {post : Int → Mem → Prop} {H0 : Heap} {host : String}
/-! returns -/
theorem z_iret {x z : Int} (B : ZB D g own cc nL (some .int) p s m args c meth) (h : x = z) (d : decode cc pc = .ok (.ireturn, 1)) : W p l e R s m args below meth c s.heap [] 0 0 (MQ below (qRO (some (.int (zI z)))) args s 0 0 (fun _ => False)) (F0 m pc ls [.int (zI x)]) := by
  subst h
  exact W.iret B.1.1.1 B.1.1.2.1 B.2.1 (fun t ht _ => ⟨rfl, ht⟩) (fun _ h => by cases h) d B.2.2
theorem z_bret {P Z : Prop} [Decidable P] [Decidable Z] (B : ZB D g own cc nL (some .boolean) p s m args c meth) (h : P ↔ Z) (d : decode cc pc = .ok (.ireturn, 1)) : W p l e R s m args below meth c s.heap [] 0 0 (MQ below (qRO (some (.int (zI (bz Z))))) args s 0 0 (fun _ => False)) (F0 m pc ls [.int (zI (bz P))]) := by
  have e : bz P = bz Z := by unfold bz; simp only [h]
  rw [← e]
  exact W.zret B.1.1.1 B.1.1.2.1 B.2.1 bz_nb (fun t ht _ => ⟨rfl, ht⟩) (fun _ h => by cases h) d B.2.2
theorem z_bret1 {Z : Prop} [Decidable Z] (B : ZB D g own cc nL (some .boolean) p s m args c meth) (h : Z) (d : decode cc pc = .ok (.ireturn, 1)) : W p l e R s m args below meth c s.heap [] 0 0 (MQ below (qRO (some (.int (zI (bz Z))))) args s 0 0 (fun _ => False)) (F0 m pc ls [.int (zI 1)]) := by
  rw [bz_t h]
  exact W.zret B.1.1.1 B.1.1.2.1 B.2.1 rfl (fun t ht _ => ⟨rfl, ht⟩) (fun _ h => by cases h) d B.2.2
theorem z_bret0 {Z : Prop} [Decidable Z] (B : ZB D g own cc nL (some .boolean) p s m args c meth) (h : ¬ Z) (d : decode cc pc = .ok (.ireturn, 1)) : W p l e R s m args below meth c s.heap [] 0 0 (MQ below (qRO (some (.int (zI (bz Z))))) args s 0 0 (fun _ => False)) (F0 m pc ls [.int (zI 0)]) := by
  rw [bz_f h]
  exact W.zret B.1.1.1 B.1.1.2.1 B.2.1 rfl (fun t ht _ => ⟨rfl, ht⟩) (fun _ h => by cases h) d B.2.2
theorem z_lret {x z : Int} (B : ZB D g own cc nL (some .long) p s m args c meth) (h : x = z) (d : decode cc pc = .ok (.lreturn, 1)) : W p l e R s m args below meth c s.heap [] 0 0 (MQ below (qRO (some (.long (zJ z)))) args s 0 0 (fun _ => False)) (F0 m pc ls [.long (zJ x)]) := by
  subst h
  exact W.lret B.1.1.1 B.1.1.2.1 B.2.1 (fun t ht _ => ⟨rfl, ht⟩) (fun _ h => by cases h) d B.2.2
theorem z_iretW {x : Int} (B : ZB D g own cc nL (some .int) p s m args c meth) (hP : HP D q g σ H) (hS : va_S (aQ q) s.heap H locs) (h : post x σ) (d : decode cc pc = .ok (.ireturn, 1)) : W p l e R s m args below meth c H locs 0 0 (MQ below (qRW D q g vI post) args s 0 0 (aQ q)) (F0 m pc ls [.int (zI x)]) :=
  W.iret B.1.1.1 B.1.1.2.1 B.2.1 (fun t ht _ => ⟨⟨_, σ, rfl, h, by rw [ht]; exact hP⟩, hS.F ht⟩) hS.2.2 d B.2.2
theorem z_bretW {P : Prop} [Decidable P] (B : ZB D g own cc nL (some .boolean) p s m args c meth) (hP : HP D q g σ H) (hS : va_S (aQ q) s.heap H locs) (h : post (bz P) σ) (d : decode cc pc = .ok (.ireturn, 1)) : W p l e R s m args below meth c H locs 0 0 (MQ below (qRW D q g vI post) args s 0 0 (aQ q)) (F0 m pc ls [.int (zI (bz P))]) :=
  W.zret B.1.1.1 B.1.1.2.1 B.2.1 bz_nb (fun t ht _ => ⟨⟨_, σ, rfl, h, by rw [ht]; exact hP⟩, hS.F ht⟩) hS.2.2 d B.2.2
theorem z_bretWz {x : Int} (B : ZB D g own cc nL (some .boolean) p s m args c meth) (hx : x = 0 ∨ x = 1) (hP : HP D q g σ H) (hS : va_S (aQ q) s.heap H locs) (h : post x σ) (d : decode cc pc = .ok (.ireturn, 1)) : W p l e R s m args below meth c H locs 0 0 (MQ below (qRW D q g vI post) args s 0 0 (aQ q)) (F0 m pc ls [.int (zI x)]) :=
  W.zret B.1.1.1 B.1.1.2.1 B.2.1 (by rcases hx with rfl | rfl <;> rfl) (fun t ht _ => ⟨⟨_, σ, rfl, h, by rw [ht]; exact hP⟩, hS.F ht⟩) hS.2.2 d B.2.2
theorem z_vretW (B : ZB D g own cc nL none p s m args c meth) (hP : HP D q g σ H) (hS : va_S (aQ q) s.heap H locs) (h : post 0 σ) (d : decode cc pc = .ok (.return_, 1)) : W p l e R s m args below meth c H locs 0 0 (MQ below (qRW D q g vV post) args s 0 0 (aQ q)) (F0 m pc ls []) :=
  W.vret B.1.1.1 B.1.1.2.1 B.2.1 (fun t ht _ => ⟨⟨0, σ, rfl, h, by rw [ht]; exact hP⟩, hS.F ht⟩) hS.2.2 d B.2.2
/-! behind a call -/
theorem z_runRO {a : Array Value} {st0 : List Value} (hr : va_Run p l e R s m args below meth c H locs 0 0 0 0 (F0 m pc ls st0) rest (qRO (some v) a) (fun _ => False))
    (kk : W p l e R s m args below meth c H locs 0 0 Q (F0 m (pc + 3) ls (v :: rest))) : W p l e R s m args below meth c H locs 0 0 Q (F0 m pc ls st0) := by
  intro T hT X
  obtain ⟨v1, st₀, t, T', L, h0, X', hL, e1, e2, ⟨hv, hh⟩, st⟩ := hr T hT X
  cases hv
  obtain ⟨t2, a1, b1⟩ := kk T' (by rw [e1, hh, h0]) (Stand.forget X' (fun q h => (hL q h).elim))
  exact ⟨t2, st t2 a1, b1⟩
theorem z_runRWi {a : Array Value} {st0 : List Value} (hr : va_Run p l e R s m args below meth c H locs 0 0 0 0 (F0 m pc ls st0) rest (qRW D q g vI post a) (aQ q)) (hS : va_S (aQ q) H0 H locs)
    (kk : ∀ (r : Int) (σ' : Mem) (H1 : Heap) (locs1 : List Loc), post r σ' → HP D q g σ' H1 → va_S (aQ q) H0 H1 locs1 → W p l e R s m args below meth c H1 locs1 0 0 Q (F0 m (pc + 3) ls (.int (zI r) :: rest))) : W p l e R s m args below meth c H locs 0 0 Q (F0 m pc ls st0) := by
  intro T hT X
  obtain ⟨v1, st₀, t, T', L, h0, X', hL, e1, e2, ⟨⟨r, σ', hv, hp, hP⟩, hF⟩, st⟩ := hr T hT X
  cases hv
  obtain ⟨t2, a1, b1⟩ := kk r σ' t.heap (locs ++ L) hp hP ⟨Nat.le_trans hS.1 (by rw [← h0]; exact hF.1), fun x h1 h2 => (by have := hF.2 x (by rw [h0]; exact Nat.lt_of_lt_of_le h1 hS.1) h2; rw [h0] at this; exact this.trans (hS.2.1 x h1 h2)), fun z hz => by
    rcases List.mem_append.mp hz with h | h
    · exact hS.2.2 z h
    · exact hL z h⟩ T' e1 X'
  exact ⟨t2, st t2 a1, b1⟩
theorem z_runRWv {a : Array Value} {st0 : List Value} (hr : va_Run p l e R s m args below meth c H locs 0 0 0 0 (F0 m pc ls st0) rest (qRW D q g vV post a) (aQ q)) (hS : va_S (aQ q) H0 H locs)
    (kk : ∀ (r : Int) (σ' : Mem) (H1 : Heap) (locs1 : List Loc), post r σ' → HP D q g σ' H1 → va_S (aQ q) H0 H1 locs1 → W p l e R s m args below meth c H1 locs1 0 0 Q (F0 m (pc + 3) ls rest)) : W p l e R s m args below meth c H locs 0 0 Q (F0 m pc ls st0) := by
  intro T hT X
  obtain ⟨v1, st₀, t, T', L, h0, X', hL, e1, e2, ⟨⟨r, σ', hv, hp, hP⟩, hF⟩, st⟩ := hr T hT X
  cases hv
  obtain ⟨t2, a1, b1⟩ := kk r σ' t.heap (locs ++ L) hp hP ⟨Nat.le_trans hS.1 (by rw [← h0]; exact hF.1), fun x h1 h2 => (by have := hF.2 x (by rw [h0]; exact Nat.lt_of_lt_of_le h1 hS.1) h2; rw [h0] at this; exact this.trans (hS.2.1 x h1 h2)), fun z hz => by
    rcases List.mem_append.mp hz with h | h
    · exact hS.2.2 z h
    · exact hL z h⟩ T' e1 X'
  exact ⟨t2, st t2 a1, b1⟩
/-! words of a call, all out of gw -/
abbrev cwd (y : MethodName) (n : Nat) : Prop := y.cls ≠ "java/lang/invoke/MethodHandle" ∧ y.cls ≠ "java/lang/invoke/VarHandle" ∧ (parseMethodDescriptor y.desc).map (fun d => d.parameters.length) = some n
theorem z_B (C : Cx D g own cc nL p s m args c) (wc : Cond.code y bytes maxL ret ∈ gw) (wi : Cond.initialized y.cls ∈ gw) (wl : Cond.methodLink own index y ∈ gw) (hd : cwd y n) (hR : f + 1 ≤ R.frames ∧ 8 + (maxL + 11) + k ≤ R.locals) : CallB R s args own index y bytes maxL ret (Cond.code y bytes maxL ret :: gw) (zRm f k) 0 0 n :=
  callB_of n C.1.2.2.2.2 (gw_good wc) rfl rfl rfl (C.1.2.2.2.2 _ wi) (C.1.2.2.2.2 _ wl) hd hR
theorem z_N (C : Cx D g own cc nL p s m args c) (wc : Cond.code y bytes maxL ret ∈ gw) (wi : Cond.initialized y.cls ∈ gw) (wl : Cond.methodLinkNest own index y host ∈ lw_tbl) (hd : cwd y n) (hR : f + 1 ≤ R.frames ∧ 8 + (maxL + 11) + k ≤ R.locals) : va_CN R s args own index y host bytes maxL ret (Cond.code y bytes maxL ret :: gw) (zRm f k) 0 0 n :=
  va_cnB n C.1.2.2.2.2 (gw_good wc) rfl rfl rfl (C.2.2 _ wl rfl) (C.1.2.2.2.2 _ wi) hd hR
theorem z_recv (C : Cx D g own cc nL p s m args c) (hP : HP D q g σ H) {i ci : Nat} {fs : List Value} {r : vw_C} (hi : i < 62) (hE : cE q g (σ i) i = .inr (ci, fs)) (hc : vwCl[ci]? = some r) : ∃ cell : Cell, H[q i]? = some cell ∧ cell.vm.isStatics = false ∧ s.vm.findClass r.1 = some cell.cls :=
  va_recv C.2.1 hP hc (by rw [zw_get hi, hE])
theorem z_preS (C : Cx D g own cc nL p s m args c) (hP : HP D q g σ H) : PreS s H (va_Pc As (pW D q g σ)) As := ⟨pW_blind, fun _ hU hW => ⟨rfl, by rw [hU]; exact hP, C.2.moved hW⟩⟩
theorem z_preV (C : Cx D g own cc nL p s m args c) (hP : HP D q g σ H) {b : Nat} {CN : String} (hr : ∃ cell : Cell, H[b]? = some cell ∧ cell.vm.isStatics = false ∧ s.vm.findClass CN = some cell.cls) : PreV s H CN b (va_Pc (.ref b :: As) (pW D q g σ)) As := ⟨pW_blind, hr, fun _ hU hW => ⟨rfl, by rw [hU]; exact hP, C.2.moved hW⟩⟩
/-! the calls: RO static, RO static of a nest mate, RO virtual; RW virtual -/
theorem z_sRO (C : Cx D g own cc nL p s m args c) (hP : HP D q g σ H) (hl : lv_has ls nL lv) (hM : RO l y bytes maxL ret f k D q g σ As (some v)) (wc : Cond.code y bytes maxL ret ∈ gw) (wi : Cond.initialized y.cls ∈ gw) (wl : Cond.methodLink own index y ∈ gw) (wt : Cond.static y ∈ gw) (hd : cwd y n) (hR : f + 1 ≤ R.frames ∧ 8 + (maxL + 11) + k ≤ R.locals) (hn : As.length = n) {st0 : List Value} (hst : st0 = As.reverse ++ rest) (hr : (rest.map fun v => v.category).sum ≤ 8) (d : decode cc pc = .ok (.invokestatic index, 3))
    (kk : W p l e R s m args below meth c H locs 0 0 Q (F0 m (pc + 3) ls (v :: rest))) : W p l e R s m args below meth c H locs 0 0 Q (F0 m pc ls st0) :=
  z_runRO (va_runS (rest := rest) C.1 hM ⟨z_B C wc wi wl hd hR, C.1.2.2.2.2 _ wt⟩ (z_preS C hP) rfl hn hl.1 hst (lv_room hr) d ⟨Nat.zero_le _, Nat.zero_le _⟩) kk
theorem z_snRO (C : Cx D g own cc nL p s m args c) (hP : HP D q g σ H) (hl : lv_has ls nL lv) (hM : RO l y bytes maxL ret f k D q g σ As (some v)) (wc : Cond.code y bytes maxL ret ∈ gw) (wi : Cond.initialized y.cls ∈ gw) (wl : Cond.methodLinkNest own index y host ∈ lw_tbl) (wt : Cond.static y ∈ gw) (hd : cwd y n) (hR : f + 1 ≤ R.frames ∧ 8 + (maxL + 11) + k ≤ R.locals) (hn : As.length = n) {st0 : List Value} (hst : st0 = As.reverse ++ rest) (hr : (rest.map fun v => v.category).sum ≤ 8) (d : decode cc pc = .ok (.invokestatic index, 3))
    (kk : W p l e R s m args below meth c H locs 0 0 Q (F0 m (pc + 3) ls (v :: rest))) : W p l e R s m args below meth c H locs 0 0 Q (F0 m pc ls st0) :=
  z_runRO (va_runSN (rest := rest) C.1 hM ⟨z_N C wc wi wl hd hR, C.1.2.2.2.2 _ wt, trivial⟩ (z_preS C hP) rfl hn hl.1 hst (lv_room hr) d ⟨Nat.zero_le _, Nat.zero_le _⟩) kk
theorem z_vRO (C : Cx D g own cc nL p s m args c) (hP : HP D q g σ H) (hl : lv_has ls nL lv) {b : Nat} (hM : RO l y bytes maxL ret f k D q g σ (.ref b :: As) (some v)) (hrv : ∃ cell : Cell, H[b]? = some cell ∧ cell.vm.isStatics = false ∧ s.vm.findClass y.cls = some cell.cls) (wc : Cond.code y bytes maxL ret ∈ gw) (wi : Cond.initialized y.cls ∈ gw) (wl : Cond.methodLink own index y ∈ gw) (wt : Cond.instanceMethod y ∈ gw) (wv : Cond.selects y.cls y y ∈ gw) (hd : cwd y n) (hR : f + 1 ≤ R.frames ∧ 8 + (maxL + 11) + k ≤ R.locals) (hn : As.length = n) {st0 : List Value} (hst : st0 = As.reverse ++ .ref b :: rest) (hr : (rest.map fun v => v.category).sum ≤ 8) (d : decode cc pc = .ok (.invokevirtual index, 3))
    (kk : W p l e R s m args below meth c H locs 0 0 Q (F0 m (pc + 3) ls (v :: rest))) : W p l e R s m args below meth c H locs 0 0 Q (F0 m pc ls st0) :=
  z_runRO (va_runV (rest := rest) C.1 hM ⟨z_B C wc wi wl hd hR, C.1.2.2.2.2 _ wt, C.1.2.2.2.2 _ wv⟩ (z_preV C hP hrv) rfl hn hl.1 hst (lv_room hr) d ⟨Nat.zero_le _, Nat.zero_le _⟩) kk
theorem z_vRWi (C : Cx D g own cc nL p s m args c) (hP : HP D q g σ H) (hS : va_S (aQ q) H0 H locs) (hl : lv_has ls nL lv) {b : Nat} (hM : RW l y bytes maxL ret f k D q g σ (.ref b :: As) vI post) (hrv : ∃ cell : Cell, H[b]? = some cell ∧ cell.vm.isStatics = false ∧ s.vm.findClass y.cls = some cell.cls) (wc : Cond.code y bytes maxL ret ∈ gw) (wi : Cond.initialized y.cls ∈ gw) (wl : Cond.methodLink own index y ∈ gw) (wt : Cond.instanceMethod y ∈ gw) (wv : Cond.selects y.cls y y ∈ gw) (hd : cwd y n) (hR : f + 1 ≤ R.frames ∧ 8 + (maxL + 11) + k ≤ R.locals) (hn : As.length = n) {st0 : List Value} (hst : st0 = As.reverse ++ .ref b :: rest) (hr : (rest.map fun v => v.category).sum ≤ 8) (d : decode cc pc = .ok (.invokevirtual index, 3))
    (kk : ∀ (r : Int) (σ' : Mem) (H1 : Heap) (locs1 : List Loc), post r σ' → HP D q g σ' H1 → va_S (aQ q) H0 H1 locs1 → W p l e R s m args below meth c H1 locs1 0 0 Q (F0 m (pc + 3) ls (.int (zI r) :: rest))) : W p l e R s m args below meth c H locs 0 0 Q (F0 m pc ls st0) :=
  z_runRWi (va_runV (rest := rest) C.1 hM ⟨z_B C wc wi wl hd hR, C.1.2.2.2.2 _ wt, C.1.2.2.2.2 _ wv⟩ (z_preV C hP hrv) rfl hn hl.1 hst (lv_room hr) d ⟨Nat.zero_le _, Nat.zero_le _⟩) hS kk
theorem z_vRWv (C : Cx D g own cc nL p s m args c) (hP : HP D q g σ H) (hS : va_S (aQ q) H0 H locs) (hl : lv_has ls nL lv) {b : Nat} (hM : RW l y bytes maxL ret f k D q g σ (.ref b :: As) vV post) (hrv : ∃ cell : Cell, H[b]? = some cell ∧ cell.vm.isStatics = false ∧ s.vm.findClass y.cls = some cell.cls) (wc : Cond.code y bytes maxL ret ∈ gw) (wi : Cond.initialized y.cls ∈ gw) (wl : Cond.methodLink own index y ∈ gw) (wt : Cond.instanceMethod y ∈ gw) (wv : Cond.selects y.cls y y ∈ gw) (hd : cwd y n) (hR : f + 1 ≤ R.frames ∧ 8 + (maxL + 11) + k ≤ R.locals) (hn : As.length = n) {st0 : List Value} (hst : st0 = As.reverse ++ .ref b :: rest) (hr : (rest.map fun v => v.category).sum ≤ 8) (d : decode cc pc = .ok (.invokevirtual index, 3))
    (kk : ∀ (r : Int) (σ' : Mem) (H1 : Heap) (locs1 : List Loc), post r σ' → HP D q g σ' H1 → va_S (aQ q) H0 H1 locs1 → W p l e R s m args below meth c H1 locs1 0 0 Q (F0 m (pc + 3) ls rest)) : W p l e R s m args below meth c H locs 0 0 Q (F0 m pc ls st0) :=
  z_runRWv (va_runV (rest := rest) C.1 hM ⟨z_B C wc wi wl hd hR, C.1.2.2.2.2 _ wt, C.1.2.2.2.2 _ wv⟩ (z_preV C hP hrv) rfl hn hl.1 hst (lv_room hr) d ⟨Nat.zero_le _, Nat.zero_le _⟩) hS kk
/-! arrays of the world -/
variable {cells slots : Nat}
theorem z_iald (C : Cx D g own cc nL p s m args c) (hP : HP D q g σ H) {i N : Nat} (hi : i < 62) (hE : ∀ r, cE q g r i = .inl (g 0, N, .inl (fun j => zI (r j)))) {a : Int} (h : 0 ≤ a ∧ a < N) (hN : N ≤ 1000) (d : decode cc pc = .ok (.iaload, 1)) (k : W p l e R s m args below meth c H locs cells slots Q (F0 m (pc + 1) ls (.int (zI (σ i a.toNat)) :: rest))) : W p l e R s m args below meth c H locs cells slots Q (F0 m pc ls (.int (zI a) :: .ref (q i) :: rest)) := by
  have hr : zR a := ⟨by omega, by omega⟩
  refine va_iald (f := fun j => zI (σ i j)) C.1.1 C.1.2.1 C.2.1 hP i 0 (n := N) (cA := g 0) (by rw [zw_get hi, hE]) rfl (zI_vin h.1 h.2 hr) d ?_
  rw [zI_clamp h.1 hr]; exact k
theorem z_ialk (C : Cx D g own cc nL p s m args c) (hP : HP D q g σ H) {i N : Nat} (hi : i < 62) (hE : ∀ r, cE q g r i = .inl (g 0, N, .inl (fun j => zI (r j)))) {a : Int} (n : Nat) (ha : a = (n : Int)) (h : n < N) (hN : N ≤ 1000) (d : decode cc pc = .ok (.iaload, 1)) (k : W p l e R s m args below meth c H locs cells slots Q (F0 m (pc + 1) ls (.int (zI (σ i n)) :: rest))) : W p l e R s m args below meth c H locs cells slots Q (F0 m pc ls (.int (zI a) :: .ref (q i) :: rest)) := by
  subst ha
  exact z_iald C hP hi hE ⟨by omega, by omega⟩ hN d (by rw [Int.toNat_natCast]; exact k)
theorem z_zald (C : Cx D g own cc nL p s m args c) (hP : HP D q g σ H) {i N : Nat} (hi : i < 62) (hE : ∀ r, cE q g r i = .inl (g 1, N, .inl (fun j => zI (r j)))) {a : Int} (h : 0 ≤ a ∧ a < N) (hN : N ≤ 1000) (d : decode cc pc = .ok (.baload, 1)) (k : W p l e R s m args below meth c H locs cells slots Q (F0 m (pc + 1) ls (.int (zI (σ i a.toNat)) :: rest))) : W p l e R s m args below meth c H locs cells slots Q (F0 m pc ls (.int (zI a) :: .ref (q i) :: rest)) := by
  have hr : zR a := ⟨by omega, by omega⟩
  refine va_zald (f := fun j => zI (σ i j)) C.1.1 C.1.2.1 C.2.1 hP i 1 (n := N) (cA := g 1) (by rw [zw_get hi, hE]) rfl (zI_vin h.1 h.2 hr) d ?_
  rw [zI_clamp h.1 hr]; exact k
theorem z_aald (C : Cx D g own cc nL p s m args c) (hP : HP D q g σ H) {i N t b : Nat} {CN : String} (hi : i < 62) (ht : (zT g)[t]? = some (g t, .object CN)) (hE : ∀ r, cE q g r i = .inl (g t, N, .inr (.inr (.inr (.inr (fun j => some (q (b + j)))))))) {a : Int} (h : 0 ≤ a ∧ a < N) (hN : N ≤ 1000) (d : decode cc pc = .ok (.aaload, 1)) (k : W p l e R s m args below meth c H locs cells slots Q (F0 m (pc + 1) ls (.ref (q (b + a.toNat)) :: rest))) : W p l e R s m args below meth c H locs cells slots Q (F0 m pc ls (.int (zI a) :: .ref (q i) :: rest)) := by
  have hr : zR a := ⟨by omega, by omega⟩
  refine va_aldq (f := fun j => some (q (b + j))) C.1.1 C.1.2.1 C.2.1 hP i t (n := N) (cA := g t) (C := CN) (by rw [zw_get hi, hE]) ht (zI_vin h.1 h.2 hr) d ?_
  rw [zI_clamp h.1 hr]; exact k
theorem z_alen (C : Cx D g own cc nL p s m args c) (hP : HP D q g σ H) {i N : Nat} (hi : i < 62) (hE : ∀ r, cE q g r i = .inl (g 0, N, .inl (fun j => zI (r j)))) (d : decode cc pc = .ok (.arraylength, 1)) (k : W p l e R s m args below meth c H locs cells slots Q (F0 m (pc + 1) ls (.int (zI N) :: rest))) : W p l e R s m args below meth c H locs cells slots Q (F0 m pc ls (.ref (q i) :: rest)) :=
  va_alen (x := (N, .inl (fun j => zI (σ i j)))) (v := zI N) C.1.1 C.1.2.1 C.2.1 hP i 0 (cA := g 0) (by rw [zw_get hi, hE]) rfl (zI_nI N).symm d k
theorem upd_um {σ : Mem} {i : Nat} {a : Int} {x : Int} : upd (fun j => zI (σ i j)) a.toNat (zI x) = fun j => zI (um σ i a.toNat x i j) := by
  funext j
  unfold upd um
  by_cases h : j = a.toNat <;> simp [h]
theorem z_iast (C : Cx D g own cc nL p s m args c) (hq : qok q) (hP : HP D q g σ H) (hS : va_S (aQ q) H0 H locs) {i N : Nat} (hi : i < 62) (hE : ∀ r, cE q g r i = .inl (g 0, N, .inl (fun j => zI (r j)))) {a x : Int} (h : 0 ≤ a ∧ a < N) (hN : N ≤ 1000) (d : decode cc pc = .ok (.iastore, 1)) (k : ∀ (H1 : Heap) (locs1 : List Loc), HP D q g (um σ i a.toNat x) H1 → va_S (aQ q) H0 H1 locs1 → W p l e R s m args below meth c H1 locs1 cells slots Q (F0 m (pc + 1) ls rest)) : W p l e R s m args below meth c H locs cells slots Q (F0 m pc ls (.int (zI x) :: .int (zI a) :: .ref (q i) :: rest)) := by
  have hr : zR a := ⟨by omega, by omega⟩
  refine va_iast (f := fun j => zI (σ i j)) C.1.1 C.1.2.1 C.2.1 hP (zw_D hq) hS i 0 (n := N) (cA := g 0) (by rw [zw_get hi, hE]) rfl (zI_vin h.1 h.2 hr) d (fun H1 locs1 h1 _ h3 => k H1 locs1 ?_ h3)
  rw [zI_clamp h.1 hr, upd_um, zw_set hi (hE _)] at h1; exact h1
theorem z_zast (C : Cx D g own cc nL p s m args c) (hq : qok q) (hP : HP D q g σ H) (hS : va_S (aQ q) H0 H locs) {i N : Nat} (hi : i < 62) (hE : ∀ r, cE q g r i = .inl (g 1, N, .inl (fun j => zI (r j)))) {a x : Int} (h : 0 ≤ a ∧ a < N) (hN : N ≤ 1000) (hx : x = 0 ∨ x = 1) (d : decode cc pc = .ok (.bastore, 1)) (k : ∀ (H1 : Heap) (locs1 : List Loc), HP D q g (um σ i a.toNat x) H1 → va_S (aQ q) H0 H1 locs1 → W p l e R s m args below meth c H1 locs1 cells slots Q (F0 m (pc + 1) ls rest)) : W p l e R s m args below meth c H locs cells slots Q (F0 m pc ls (.int (zI x) :: .int (zI a) :: .ref (q i) :: rest)) := by
  have hr : zR a := ⟨by omega, by omega⟩
  refine va_zast (f := fun j => zI (σ i j)) C.1.1 C.1.2.1 C.2.1 hP (zw_D hq) hS i 1 (n := N) (cA := g 1) (by rw [zw_get hi, hE]) rfl (zI_vin h.1 h.2 hr) d (fun H1 locs1 h1 _ h3 => k H1 locs1 ?_ h3)
  rw [zI_clamp h.1 hr, show vp_nar .boolean (zI x) = zI x by rcases hx with rfl | rfl <;> rfl, upd_um, zw_set hi (hE _)] at h1; exact h1
/-! switches -/
theorem z_tsI (C : Cx D g own cc nL p s m args c) {dflt lo hi off a : Int} {offs : Array Int} {len : Nat} (k : Nat) (ha : zR a) (h : a = lo + k ∧ a ≤ hi) (ho : offs[k]? = some off) (tgt : Nat) (ht : (pc : Int) + off = (tgt : Int)) (d : decode cc pc = .ok (.tableswitch dflt lo hi offs, len)) (kk : W p l e R s m args below meth c H locs cells slots Q (F0 m tgt ls rest)) : W p l e R s m args below meth c H locs cells slots Q (F0 m pc ls (.int (zI a) :: rest)) :=
  lv_tableIn C.1.1 C.1.2.1 d (by rw [zI_toInt ha]; omega) (by rw [zI_toInt ha]; omega) (by rw [zI_toInt ha, show (a - lo).toNat = k by omega]; exact ho) ht kk
theorem z_tsO (C : Cx D g own cc nL p s m args c) {dflt lo hi a : Int} {offs : Array Int} {len : Nat} (ha : zR a) (h : a < lo ∨ hi < a) (tgt : Nat) (ht : (pc : Int) + dflt = (tgt : Int)) (d : decode cc pc = .ok (.tableswitch dflt lo hi offs, len)) (kk : W p l e R s m args below meth c H locs cells slots Q (F0 m tgt ls rest)) : W p l e R s m args below meth c H locs cells slots Q (F0 m pc ls (.int (zI a) :: rest)) :=
  lv_tableOut C.1.1 C.1.2.1 d (by rw [zI_toInt ha]; exact h) ht kk
theorem z_lk (C : Cx D g own cc nL p s m args c) {dflt a off : Int} {ps : Array (Int × Int)} {len : Nat} (ha : zR a) (hp : (ps.toList.zip (ps.toList.drop 1)).all (fun (a, next) => a.1 < next.1) = true) (ho : Op.lookupswitch.offset ps.toList dflt a = off) (tgt : Nat) (ht : (pc : Int) + off = (tgt : Int)) (d : decode cc pc = .ok (.lookupswitch dflt ps, len)) (kk : W p l e R s m args below meth c H locs cells slots Q (F0 m tgt ls rest)) : W p l e R s m args below meth c H locs cells slots Q (F0 m pc ls (.int (zI a) :: rest)) :=
  lv_lookup C.1.1 C.1.2.1 d hp (by rw [zI_toInt ha]; exact ho) ht kk
/-! fields -/
theorem z_getf (C : Cx D g own cc nL p s m args c) (hP : HP D q g σ H) {i ci N kf idx : Nat} {CN : String} {T : u_T} {fs : List Value} {v : Value} (hi : i < 62) (hE : cE q g (σ i) i = .inr (ci, fs)) (hc : vwCl[ci]? = some (CN, T, N)) (hin : ∀ w ∈ u_ws CN T N, w ∈ gw) (hk : kf < N) (hT : (T kf).1 = CN) (hl : Cond.fieldLink own idx CN (T kf).2.1 (T kf).2.2.1 ∈ gw) (hv : fs[kf]? = some v) (d : decode cc pc = .ok (.getfield idx, 3)) (k : W p l e R s m args below meth c H locs cells slots Q (F0 m (pc + 3) ls (v :: rest))) : W p l e R s m args below meth c H locs cells slots Q (F0 m pc ls (.ref (q i) :: rest)) :=
  va_get C.1.1 C.1.2.1 C.1.2.2.2.2 hin C.1.2.2.2.1 C.2.1 hP i (by rw [zw_get hi, hE]) hc kf hk (C.1.2.2.2.2 _ hl) (by rw [hT]; exact fun _ h => h) hv d k
theorem z_getn (C : Cx D g own cc nL p s m args c) (hP : HP D q g σ H) {i ci N kf idx : Nat} {CN : String} {T : u_T} {fs : List Value} {v : Value} (hi : i < 62) (hE : cE q g (σ i) i = .inr (ci, fs)) (hc : vwCl[ci]? = some (CN, T, N)) (hin : ∀ w ∈ u_ws CN T N, w ∈ gw) (hk : kf < N) (hT : (T kf).1 = CN) (hl : Cond.fieldLinkNest own idx CN (T kf).2.1 (T kf).2.2.1 host ∈ lw_tbl) (hv : fs[kf]? = some v) (d : decode cc pc = .ok (.getfield idx, 3)) (k : W p l e R s m args below meth c H locs cells slots Q (F0 m (pc + 3) ls (v :: rest))) : W p l e R s m args below meth c H locs cells slots Q (F0 m pc ls (.ref (q i) :: rest)) :=
  va_getN C.1.1 C.1.2.1 C.1.2.2.2.2 hin C.1.2.2.2.1 C.2.1 hP i (by rw [zw_get hi, hE]) hc kf hk (va_Nw.use rfl (C.2.2 _ hl rfl)) (by rw [hT]; exact fun _ h => h) hv d k
theorem z_putf (C : Cx D g own cc nL p s m args c) (hq : qok q) (hP : HP D q g σ H) (hS : va_S (aQ q) H0 H locs) {i ci N kf idx : Nat} {CN : String} {T : u_T} {ty0 : Nat → FieldType} {fs : List Value} {x : Int} (hi : i < 62) (hE : cE q g (σ i) i = .inr (ci, fs)) (hE2 : cE q g (um σ i kf x i) i = .inr (ci, fs.set kf (.int (zI x)))) (hc : vwCl[ci]? = some (CN, T, N)) (hin : ∀ w ∈ u_ws CN T N, w ∈ gw) (hty : ∀ k, k < N → parseFieldDescriptor (T k).2.2.1 = some (ty0 k)) (hnm : ∀ a, a < N → ∀ b, b < N → a ≠ b → (T a).2.1 ≠ (T b).2.1) (hk : kf < N) (hT : (T kf).1 = CN) (hfin : (T kf).2.2.2 = false) (hd : parseFieldDescriptor (T kf).2.2.1 = some .int) (hfl : kf < fs.length) (hl : Cond.fieldLink own idx CN (T kf).2.1 (T kf).2.2.1 ∈ gw) (d : decode cc pc = .ok (.putfield idx, 3)) (k : ∀ (H1 : Heap) (locs1 : List Loc), HP D q g (um σ i kf x) H1 → va_S (aQ q) H0 H1 locs1 → W p l e R s m args below meth c H1 locs1 cells slots Q (F0 m (pc + 3) ls rest)) : W p l e R s m args below meth c H locs cells slots Q (F0 m pc ls (.int (zI x) :: .ref (q i) :: rest)) := by
  refine va_put C.1.1 C.1.2.1 C.1.2.2.2.2 hin ty0 hty hnm C.1.2.2.2.1 C.2.1 hP (zw_D hq) hS i (by rw [zw_get hi, hE]) hc kf hk (C.1.2.2.2.2 _ hl) (by rw [hT]; exact fun _ h => h) hfin hd (by rfl) (by rfl) hfl d (fun H1 locs1 h1 _ h3 => k H1 locs1 ?_ h3)
  rw [zw_set hi hE2] at h1; exact h1
theorem z_putn (C : Cx D g own cc nL p s m args c) (hq : qok q) (hP : HP D q g σ H) (hS : va_S (aQ q) H0 H locs) {i ci N kf idx : Nat} {CN : String} {T : u_T} {ty0 : Nat → FieldType} {fs : List Value} {x : Int} (hi : i < 62) (hE : cE q g (σ i) i = .inr (ci, fs)) (hE2 : cE q g (um σ i kf x i) i = .inr (ci, fs.set kf (.int (zI x)))) (hc : vwCl[ci]? = some (CN, T, N)) (hin : ∀ w ∈ u_ws CN T N, w ∈ gw) (hty : ∀ k, k < N → parseFieldDescriptor (T k).2.2.1 = some (ty0 k)) (hnm : ∀ a, a < N → ∀ b, b < N → a ≠ b → (T a).2.1 ≠ (T b).2.1) (hk : kf < N) (hT : (T kf).1 = CN) (hfin : (T kf).2.2.2 = false) (hd : parseFieldDescriptor (T kf).2.2.1 = some .int) (hfl : kf < fs.length) (hl : Cond.fieldLinkNest own idx CN (T kf).2.1 (T kf).2.2.1 host ∈ lw_tbl) (d : decode cc pc = .ok (.putfield idx, 3)) (k : ∀ (H1 : Heap) (locs1 : List Loc), HP D q g (um σ i kf x) H1 → va_S (aQ q) H0 H1 locs1 → W p l e R s m args below meth c H1 locs1 cells slots Q (F0 m (pc + 3) ls rest)) : W p l e R s m args below meth c H locs cells slots Q (F0 m pc ls (.int (zI x) :: .ref (q i) :: rest)) := by
  refine va_putN C.1.1 C.1.2.1 C.1.2.2.2.2 hin ty0 hty hnm C.1.2.2.2.1 C.2.1 hP (zw_D hq) hS i (by rw [zw_get hi, hE]) hc kf hk (va_Nw.use rfl (C.2.2 _ hl rfl)) (by rw [hT]; exact fun _ h => h) hfin hd (by rfl) (by rfl) hfl d (fun H1 locs1 h1 _ h3 => k H1 locs1 ?_ h3)
  rw [zw_set hi hE2] at h1; exact h1
end ZC
