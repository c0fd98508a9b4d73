/-! Contracts of methods that may throw: what a call comes to; how a walk of a body gives a contract; how a call uses one. -/
section GQ
variable {p : Program} {l : Launch} {e : Env} {R : Room} {s : State} {m : MethodId} {args : Array Value} {below : List Frame} {meth : Method} {c : Code} {H : Heap} {locs : List Loc} {cells slots : Nat} {Q : State → Prop}
/-- the end of a call: what lies outside A stands as it stood, at most mc cells of ms slots are new; it came back with a value (Qv), or threw an object of a class (Qx) -/
def gQ (A : Nat → Prop) (mc ms : Nat) (Qv : Option Value → State → Prop) (Qx : String → State → Prop) : Array Value → State → Outcome → State → Prop := fun _ st o t =>
  va_F A st t ∧ st.WarmedH t.vm ∧ (∃ L, st.sameButNew ({ t with vm := st.vm } : State) L mc ms ∧ ∀ q ∈ L, A q.base) ∧
  ((∃ v, o = .returned v ∧ Qv v t) ∨ ∃ q X ce, o = .threw q ∧ Qx X t ∧ t.heap[q]? = some ce ∧ ce.vm = .none ∧ st.vm.findClass X = some ce.cls)
/-- a contract: w is the method's word of its code -/
def gK (l : Launch) (y : MethodName) (w : Cond) (rm : Room) (Pc : Array Value → State → Prop) (A : Nat → Prop) (mc ms : Nat) (Qv : Option Value → State → Prop) (Qx : String → State → Prop) : Prop :=
  MetFree l y (headSpec [w] rm) Pc (fun _ _ _ _ _ => True) (gQ A mc ms Qv Qx)
/-- what a body's walk owes -/
def gM (below : List Frame) (A : Nat → Prop) (mc ms : Nat) (Qv : Option Value → State → Prop) (Qx : String → State → Prop) (a : Array Value) (s : State) : State → Prop := fun t =>
  ∃ o, t.status = .running ∧ Ended t below o ∧ gQ A mc ms Qv Qx a s o t
theorem gK_of {y : MethodName} {cc : ByteArray} {maxL : Nat} {ret : Option FieldType} {rm : Room} {Pc : Array Value → State → Prop} {A : Nat → Prop} {mc ms : Nat} {Qv : Option Value → State → Prop} {Qx : String → State → Prop}
    (hy : plainName y.cls = true)
    (body : ∀ p e s m args below meth c s₁, BodyLoose p l y (headSpec [Cond.code y cc maxL ret] rm) cc maxL ret e s m args below meth c s₁ → c.maxLocals = maxL → Pc args s →
      W p l e rm s m args below meth c s.heap [] 0 0 (gM below A mc ms Qv Qx args s) (entryFrame m args maxL)) : gK l y (.code y cc maxL ret) rm Pc A mc ms Qv Qx := by
  refine MetFree.of_bodyS (code := cc) (maxLocals := maxL) (ret := ret) hy ?_ ?_
  · intro args s m h hn
    obtain ⟨meth, c, h1, h2, h3, h4, h5, h6, -, -⟩ := Cond.code_spec hn (atoms_spec (ws := [Cond.code y cc maxL ret]) h _ List.mem_cons_self)
    exact ⟨meth, c, h1, h2, h3, h4, h5, h6⟩
  · intro p e s m args below meth c s₁ B hml hP _
    have hh0 : s₁.heap = s.heap := by rw [B.state]; rfl
    obtain ⟨t, a1, o, b1, b2, b3⟩ := body p e s m args below meth c s₁ B hml hP s₁ hh0 (Stand.of_body B)
    exact ⟨t, o, a1, b1, b2, b3⟩
theorem gK_ofW {y : MethodName} {cc : ByteArray} {maxL : Nat} {ret : Option FieldType} {hh : List (Nat × Nat × Nat × Nat)} {rm : Room} {Pc : Array Value → State → Prop} {A : Nat → Prop} {mc ms : Nat} {Qv : Option Value → State → Prop} {Qx : String → State → Prop}
    (hy : plainName y.cls = true)
    (body : ∀ p e s m args below meth c s₁, BodyLoose p l y (headSpec [Cond.codeWith y cc maxL ret hh] rm) cc maxL ret e s m args below meth c s₁ → c.maxLocals = maxL → Pc args s →
      W p l e rm s m args below meth c s.heap [] 0 0 (gM below A mc ms Qv Qx args s) (entryFrame m args maxL)) : gK l y (.codeWith y cc maxL ret hh) rm Pc A mc ms Qv Qx := by
  refine MetFree.of_bodyS (code := cc) (maxLocals := maxL) (ret := ret) hy ?_ ?_
  · intro args s m h hn
    obtain ⟨m9, meth, c, hn9, h1, h2, h3, h4, -, h5, h6, -⟩ := Cond.codeWith_spec (atoms_spec (ws := [Cond.codeWith y cc maxL ret hh]) h _ List.mem_cons_self)
    cases hn.symm.trans hn9
    exact ⟨meth, c, h1, h2, h3, h4, h5, h6⟩
  · intro p e s m args below meth c s₁ B hml hP _
    have hh0 : s₁.heap = s.heap := by rw [B.state]; rfl
    obtain ⟨t, a1, o, b1, b2, b3⟩ := body p e s m args below meth c s₁ B hml hP s₁ hh0 (Stand.of_body B)
    exact ⟨t, o, a1, b1, b2, b3⟩
/-- a weaker promise -/
theorem gK_mono {y : MethodName} {w : Cond} {rm : Room} {Pc : Array Value → State → Prop} {A : Nat → Prop} {mc ms : Nat} {Qv Qv' : Option Value → State → Prop} {Qx Qx' : String → State → Prop}
    (h : gK l y w rm Pc A mc ms Qv Qx) (hv : ∀ v t, Qv v t → Qv' v t) (hx : ∀ X t, Qx X t → Qx' X t) : gK l y w rm Pc A mc ms Qv' Qx' := by
  intro p e ha hc hk s m args below hf happ hP hK
  obtain ⟨n, o, h1, h2, h3, f1, f2, f3, f4⟩ := h p e ha hc hk s m args below hf happ hP hK
  refine ⟨n, o, h1, h2, h3, f1, f2, f3, ?_⟩
  rcases f4 with ⟨v, e1, e2⟩ | ⟨q, X, ce, e1, e2, e3⟩
  · exact Or.inl ⟨v, e1, hv _ _ e2⟩
  · exact Or.inr ⟨q, X, ce, e1, hx _ _ e2, e3⟩
/-- the frame g of this method, an object thrown over it -/
def gX (p : Program) (l : Launch) (e : Env) (R : Room) (s : State) (m : MethodId) (args : Array Value) (below : List Frame) (meth : Method) (c : Code) (H : Heap) (locs : List Loc) (cells slots : Nat) (Q : State → Prop) (g : JFrame) (q : Addr) : Prop :=
  ∀ T : State, T.heap = H → Stand p l e R s m args below meth c T locs cells slots → ∃ t, Steps p.tables e below ((T.setTop g).pushFrame (.throwing q)) t ∧ Q t
/-- the callee's end, seen from the frame that called -/
theorem g_end {y : MethodName} {w : Cond} {rm : Room} {Pc : Array Value → State → Prop} {A : Nat → Prop} {mc ms : Nat} {Qv : Option Value → State → Prop} {Qx : String → State → Prop}
    (hM : gK l y w rm Pc A mc ms Qv Qx) {U : State} (X : Stand p l e R s m args below meth c U locs cells slots) {g : JFrame} (hg : g.method = m) (hsize : g.locals.size = c.maxLocals)
    {ig : Instr} (hdg : decode c.code g.pc = .ok (ig, 3)) {maxL : Nat} (hW : 2 * g.monitorRoom + (g.stack.map fun v => v.category).sum ≤ 8) (hfr : rm.frames + 1 ≤ R.frames) (hlo : 8 + (maxL + 11) + rm.locals ≤ R.locals)
    (hce : cells + rm.cells ≤ R.cells) (hsl : slots + rm.slots ≤ R.slots) {mk : MethodId} (hn : U.methodNamed? y = some mk) {a : Array Value}
    (hw : w.before a U = true) (hfact : ∃ (mY : Method) (cY : Code), U.vm.method? mk = some mY ∧ mY.code = some cY ∧ cY.maxLocals = maxL) (hini : (Cond.initialized y.cls).before a U = true) (hP : Pc a (U.calling g mk a)) :
    (∃ (v : Option Value) (t T' : State) (L : List Loc), Stand p l e R s m args below meth c T' (locs ++ L) (cells + mc) (slots + ms) ∧ (∀ q ∈ L, A q.base) ∧ T'.heap = t.heap ∧ va_F A U t ∧ Qv v t ∧
      Steps p.tables e below (doInvoke e (U.setTop g) [] mk a).1 (T'.setTop { g with pc := g.pc + 3, stack := v.toList ++ g.stack })) ∨
    (∃ (q : Addr) (x : String) (ce : Cell) (t T' : State) (L : List Loc), Stand p l e R s m args below meth c T' (locs ++ L) (cells + mc) (slots + ms) ∧ (∀ q ∈ L, A q.base) ∧ T'.heap = t.heap ∧ va_F A U t ∧ Qx x t ∧
      t.heap[q]? = some ce ∧ ce.vm = .none ∧ U.vm.findClass x = some ce.cls ∧ Steps p.tables e below (doInvoke e (U.setTop g) [] mk a).1 ((T'.setTop g).pushFrame (.throwing q))) := by
  obtain ⟨mY, cY, hmY, hcY, hlY⟩ := hfact
  obtain ⟨kY, hkY, -⟩ := className_of_methodNamed hn
  have hinitY : kY.init = .initialized := Cond.initialized_spec (findClass_of_methodNamed hn) hkY hini
  have h : At U g.method c below := by rw [hg]; exact X.here
  have hpre : (headSpec [w] rm).pre.before a U = true := atoms_intro fun z hz => by rw [List.mem_singleton.mp hz]; exact hw
  have happ : (headSpec [w] rm).appliesLoose y e.platform (U.calling g mk a) = true :=
    Spec.appliesLoose_calling (g := g) h hdg hn hkY hinitY
      (X.room_calling (g := g) (R' := rm) hsize hmY hcY hfr (by rw [hlY]; omega) hce hsl) hpre
  obtain ⟨mid, hmid⟩ := h.above
  have hf0 : (U.setTop g).frames = (.java g :: mid) ++ below := by rw [State.frames_setTop' g h.top, hmid]; rfl
  obtain ⟨o, t, hsteps, -, hend, hF, hWt, ⟨L, hsm, hL⟩, hq⟩ := Steps.callFree hM p X.admits X.cas X.clock (acts := []) hf0 happ hP trivial
  rw [State.frames_setTop' g h.top] at hend
  obtain ⟨g₀, hg0⟩ := Option.isSome_iff_exists.mp h.top
  obtain ⟨r, hr⟩ := State.topJava?_eq_some.mp hg0
  have hr' : (({ U with heap := t.heap, slotsUsed := t.slotsUsed } : State).setVm t.vm).frames = .java g₀ :: r := hr
  obtain ⟨e2, q2, q3, q4, q5, q6⟩ := id hsm
  have e3 : t = ({ (U.calling g mk a).setFrames t.frames with heap := t.heap, slotsUsed := t.slotsUsed } : State).setVm t.vm := by
    have e4 : t = ({ t with vm := (U.calling g mk a).vm } : State).setVm t.vm := rfl
    rw [show ({ t with vm := (U.calling g mk a).vm } : State) = _ from e2] at e4
    exact e4
  have hW' : U.WarmedH t.vm := hWt
  have hsame : U.sameButNew ({ U with heap := t.heap, slotsUsed := t.slotsUsed } : State) L mc ms := by
    refine ⟨?_, q2, q3, q4, q5, q6⟩
    obtain ⟨z, hz, -⟩ := State.frames_cons hr
    show ({ U with heap := t.heap, slotsUsed := t.slotsUsed } : State) = { U.setFrames U.frames with heap := t.heap, slotsUsed := t.slotsUsed }
    rw [State.setFrames_self hz]
  have X' : Stand p l e R s m args below meth c (({ U with heap := t.heap, slotsUsed := t.slotsUsed } : State).setVm t.vm) (locs ++ L) (cells + mc) (slots + ms) :=
    ⟨X.admits, X.cas, X.clock, X.frames, X.room, X.hears, X.method, X.code, (X.here.setHeapUsed t.heap t.slotsUsed).setVm hW'.alike, X.tail, State.WarmedH.trans X.warmed hW', X.limits, X.bytes, X.same.trans (hsame.setVm s.vm)⟩
  rcases hq with ⟨v, rfl, hv⟩ | ⟨q, x, ce, rfl, hx, hce', hcv, hcl⟩
  · obtain ⟨c₂, i₂, len₂, hc₂, hd₂, hf₂⟩ := hend
    have hcc : c₂ = c := by
      have h1 : t.code? g.method = U.code? g.method := by
        rw [State.code?_eq, State.code?_eq, hW'.alike.method?]
      exact Option.some.inj (hc₂.symm.trans (h1.trans h.code))
    subst hcc
    have hlen : len₂ = 3 := by rw [hdg] at hd₂; cases hd₂; rfl
    subst hlen
    have ht : t = (({ U with heap := t.heap, slotsUsed := t.slotsUsed } : State).setVm t.vm).setTop { g with pc := g.pc + 3, stack := v.toList ++ g.stack } := by
      refine e3.trans ?_
      rw [hf₂, State.calling_eq h.top, State.setFrames_setFrames, State.setTop_of_frames _ hr', hr]
      rfl
    refine Or.inl ⟨v, t, _, L, X', hL, rfl, hF, hv, ?_⟩
    rw [← ht]
    exact hsteps
  · have hf₂ : t.frames = .throwing q :: .java g :: U.frames.tail := hend
    have ht : t = ((({ U with heap := t.heap, slotsUsed := t.slotsUsed } : State).setVm t.vm).setTop g).pushFrame (.throwing q) := by
      refine e3.trans ?_
      rw [hf₂, State.calling_eq h.top, State.setFrames_setFrames, State.pushFrame, State.frames_setTop _ hr', State.setTop_of_frames _ hr', State.setFrames_setFrames, hr]
      rfl
    refine Or.inr ⟨q, x, ce, t, _, L, X', hL, rfl, hF, hx, hce', hcv, hcl, ?_⟩
    rw [← ht]
    exact hsteps
end GQ
section GC
variable {p : Program} {l : Launch} {e : Env} {R : Room} {s : State} {m : MethodId} {args : Array Value} {below : List Frame} {meth : Method} {c : Code} {H : Heap} {locs : List Loc} {cells slots : Nat} {Q : State → Prop}
variable {y : MethodName} {bytes cc : ByteArray} {maxL nL mc ms index pc : Nat} {ret : Option FieldType} {rm : Room} {Pc : Array Value → State → Prop} {A A1 : Nat → Prop} {Qv : Option Value → State → Prop} {Qx : String → State → Prop} {own : String} {b : Addr} {As rest : List Value} {ls : Array Slot}
theorem gts_at {a : Array Value} {U : State} (hts : ∀ w ∈ gts, w.before args s = true) (hW : s.WarmedH U.vm) {w : Cond} (hw : w ∈ gts) : w.before a U = true := word_at hW (good_of_word (List.mem_filter.mp hw).2) (hts w hw)
/-- what is left of the frame when a callee is back -/
theorem g_back {U t T' : State} {L : List Loc} (hU : U.heap = H) (hT' : T'.heap = t.heap) (hF : va_F A1 U t) (hL : ∀ q ∈ L, A1 q.base) (hS : va_S A s.heap H locs) (hA : ∀ q, A1 q → A q) :
    H.size ≤ T'.heap.size ∧ (∀ q : Nat, q < H.size → ¬ A1 q → T'.heap[q]? = H[q]?) ∧ va_S A s.heap T'.heap (locs ++ L) := by
  obtain ⟨z1, z2⟩ := hF
  rw [hU] at z1 z2
  rw [hT']
  refine ⟨z1, z2, Nat.le_trans hS.1 z1, fun q h1 h2 => ?_, fun q hq => ?_⟩
  · rw [z2 q (Nat.lt_of_lt_of_le h1 hS.1) (fun z => h2 (hA q z))]
    exact hS.2.1 q h1 h2
  · rcases List.mem_append.mp hq with h | h
    · exact hS.2.2 q h
    · exact hA _ (hL q h)
theorem g_none {L : List Loc} (h : ∀ q ∈ L, False) : L = [] := by
  cases L with
  | nil => rfl
  | cons a r => exact absurd (h a List.mem_cons_self) id
theorem g_code {a : Array Value} {U : State} {mk : MethodId} (hn : U.methodNamed? y = some mk) (h : (Cond.code y bytes maxL ret).before a U = true) : ∃ (mY : Method) (cY : Code), U.vm.method? mk = some mY ∧ mY.code = some cY ∧ cY.maxLocals = maxL := by
  obtain ⟨mY, cY, h1, h2, -, h4, -⟩ := Cond.code_spec hn h
  exact ⟨mY, cY, h1, h2, h4⟩
/-- invokevirtual of a method of the receiver's own class -/
theorem g_V (S : CallFix p m c cc nL s args gts own) (hM : gK l y (.code y bytes maxL ret) rm Pc A1 mc ms Qv Qx) (hl : Cond.methodLink own index y ∈ gts) (hi : Cond.instanceMethod y ∈ gts) (hs : Cond.selects y.cls y y ∈ gts) (ht : Cond.initialized y.cls ∈ gts) (hc : Cond.code y bytes maxL ret ∈ gts)
    (hy : y.cls ≠ "java/lang/invoke/MethodHandle" ∧ y.cls ≠ "java/lang/invoke/VarHandle") (hlen : (parseMethodDescriptor y.desc).map (fun d => d.parameters.length) = some As.length)
    (hb : ∃ cellB : Cell, H[b]? = some cellB ∧ cellB.vm.isStatics = false ∧ s.vm.findClass y.cls = some cellB.cls) (hbl : FrameBlind Pc) (hp : ∀ U : State, U.heap = H → s.WarmedH U.vm → Pc (Value.ref b :: As).toArray U)
    (hsz : ls.size = nL) (hrest : (rest.map fun v => v.category).sum ≤ 8) (hfr : rm.frames + 1 ≤ R.frames) (hlo : 8 + (maxL + 11) + rm.locals ≤ R.locals) (hce : cells + rm.cells ≤ R.cells) (hsl : slots + rm.slots ≤ R.slots)
    (hS : va_S A s.heap H locs) (hA : ∀ q, A1 q → A q) (hdg : decode cc pc = .ok (.invokevirtual index, 3))
    (kx : ∀ (q : Addr) (x : String) (ce : Cell) (t : State) (H1 : Heap) (L : List Loc), t.heap = H1 → Qx x t → H.size ≤ H1.size → (∀ q : Nat, q < H.size → ¬ A1 q → H1[q]? = H[q]?) → (∀ q ∈ L, A1 q.base) → va_S A s.heap H1 (locs ++ L) → H1[q]? = some ce → ce.vm = .none → s.vm.findClass x = some ce.cls → gX p l e R s m args below meth c H1 (locs ++ L) (cells + mc) (slots + ms) Q (F0 m pc ls rest) q)
    (kk : ∀ (v : Option Value) (t : State) (H1 : Heap) (L : List Loc), t.heap = H1 → Qv v t → H.size ≤ H1.size → (∀ q : Nat, q < H.size → ¬ A1 q → H1[q]? = H[q]?) → (∀ q ∈ L, A1 q.base) → va_S A s.heap H1 (locs ++ L) → W p l e R s m args below meth c H1 (locs ++ L) (cells + mc) (slots + ms) Q (F0 m (pc + 3) ls (v.toList ++ rest))) :
    W p l e R s m args below meth c H locs cells slots Q (F0 m pc ls (As.reverse ++ .ref b :: rest)) := by
  obtain ⟨hx, hbc, hml, hown, hts⟩ := S
  intro T hT X
  obtain ⟨cellB, hcell, hobj, hcls⟩ := hb
  obtain ⟨mk, methM, hnamed, hmethM, hstM, habM⟩ := Cond.instanceMethod_spec (hts _ hi)
  obtain ⟨methM', cM, hmethM', -, -, -, -, -, -, hsigM⟩ := Cond.code_spec hnamed (hts _ hc)
  cases hmethM.symm.trans hmethM'
  obtain ⟨c2, r2, m2, q1, q2, q3, q4, kP, hkP, hkPi⟩ := Cond.selects_spec (hts _ hs)
  cases hcls.symm.trans q1
  cases (State.methodFound?_of_named hnamed hy).symm.trans q2
  cases hnamed.symm.trans q3
  have hselP : selectMethod e.platform s.vm cellB.cls mk = .method mk := by rw [Launch.admits_selectMethod X.admits]; exact q4
  have hln : As.length = methM.sig.parameters.length := by
    rw [hsigM] at hlen
    exact (Option.some.inj hlen).symm
  obtain ⟨vm₁, X₁, hstep₁⟩ := X.invokevirtual hx hown (hts _ hl) hnamed hmethM hstM hkP hkPi hy (a := b) (cell := cellB) (by rw [hT]; exact hcell)
    (fun z h => by rw [h] at hobj; cases hobj) hselP hmethM habM hkP hkPi (g := F0 m pc ls (As.reverse ++ .ref b :: rest)) rfl (argsL := As) (rest := rest) hln rfl (by rw [hbc]; exact hdg)
  have hn1 : (T.setVm vm₁).methodNamed? y = some mk := X₁.named hnamed
  have hW1 : s.WarmedH (T.setVm vm₁).vm := X₁.warmed
  rcases g_end hM X₁ (g := F0 m pc ls rest) (ig := .invokevirtual index) (maxL := maxL) (mk := mk) (a := (Value.ref b :: As).toArray) rfl (hsz.trans hml.symm) (by rw [hbc]; exact hdg) (lv_room hrest) hfr hlo hce hsl hn1 (gts_at hts hW1 hc) (g_code hn1 (gts_at (a := #[]) hts hW1 hc)) (gts_at hts hW1 ht) (hbl _ _ _ _ (hp (T.setVm vm₁) hT hW1)) with
    ⟨v, t, T', L, X', hL, e1, hF, hv, st⟩ | ⟨q, x, ce, t, T', L, X', hL, e1, hF, hx9, hce9, hcv, hcl, st⟩
  · obtain ⟨k1, k2, k3⟩ := g_back (hT : (T.setVm vm₁).heap = H) e1 hF hL hS hA
    obtain ⟨t2, a1, b1⟩ := kk v t T'.heap L e1.symm hv k1 k2 hL k3 T' rfl X'
    exact ⟨t2, hstep₁ _ (fun acts => by rw [doInvoke_state]; exact st.trans a1), b1⟩
  · obtain ⟨k1, k2, k3⟩ := g_back (hT : (T.setVm vm₁).heap = H) e1 hF hL hS hA
    obtain ⟨t2, a1, b1⟩ := kx q x ce t T'.heap L e1.symm hx9 k1 k2 hL k3 (by rw [e1]; exact hce9) hcv (by rw [← hW1.alike.findClass]; exact hcl) T' rfl X'
    exact ⟨t2, hstep₁ _ (fun acts => by rw [doInvoke_state]; exact st.trans a1), b1⟩
/-- invokestatic -/
theorem g_S {w : Cond} (S : CallFix p m c cc nL s args gts own) (hM : gK l y w rm Pc A1 mc ms Qv Qx) (hl : Cond.methodLink own index y ∈ gts) (hs : Cond.static y ∈ gts) (ht : Cond.initialized y.cls ∈ gts) (hc : w ∈ gts) (hcf : ∀ (a : Array Value) (U : State), w.before a U = true → ∃ (mk : MethodId) (mY : Method) (cY : Code), U.methodNamed? y = some mk ∧ U.vm.method? mk = some mY ∧ mY.code = some cY ∧ cY.maxLocals = maxL ∧ parseMethodDescriptor y.desc = some mY.sig)
    (hy : y.cls ≠ "java/lang/invoke/MethodHandle" ∧ y.cls ≠ "java/lang/invoke/VarHandle") (hlen : (parseMethodDescriptor y.desc).map (fun d => d.parameters.length) = some As.length)
    (hbl : FrameBlind Pc) (hp : ∀ U : State, U.heap = H → s.WarmedH U.vm → Pc As.toArray U)
    (hsz : ls.size = nL) (hrest : (rest.map fun v => v.category).sum ≤ 8) (hfr : rm.frames + 1 ≤ R.frames) (hlo : 8 + (maxL + 11) + rm.locals ≤ R.locals) (hce : cells + rm.cells ≤ R.cells) (hsl : slots + rm.slots ≤ R.slots)
    (hS : va_S A s.heap H locs) (hA : ∀ q, A1 q → A q) (hdg : decode cc pc = .ok (.invokestatic index, 3))
    (kx : ∀ (q : Addr) (x : String) (ce : Cell) (t : State) (H1 : Heap) (L : List Loc), t.heap = H1 → Qx x t → H.size ≤ H1.size → (∀ q : Nat, q < H.size → ¬ A1 q → H1[q]? = H[q]?) → (∀ q ∈ L, A1 q.base) → va_S A s.heap H1 (locs ++ L) → H1[q]? = some ce → ce.vm = .none → s.vm.findClass x = some ce.cls → gX p l e R s m args below meth c H1 (locs ++ L) (cells + mc) (slots + ms) Q (F0 m pc ls rest) q)
    (kk : ∀ (v : Option Value) (t : State) (H1 : Heap) (L : List Loc), t.heap = H1 → Qv v t → H.size ≤ H1.size → (∀ q : Nat, q < H.size → ¬ A1 q → H1[q]? = H[q]?) → (∀ q ∈ L, A1 q.base) → va_S A s.heap H1 (locs ++ L) → W p l e R s m args below meth c H1 (locs ++ L) (cells + mc) (slots + ms) Q (F0 m (pc + 3) ls (v.toList ++ rest))) :
    W p l e R s m args below meth c H locs cells slots Q (F0 m pc ls (As.reverse ++ rest)) := by
  obtain ⟨hx, hbc, hml, hown, hts⟩ := S
  intro T hT X
  obtain ⟨mk, methM, cM, hnamed, hmethM, -, -, hsigM⟩ := hcf _ _ (hts _ hc)
  have hstatic : methM.isStatic = true := Cond.static_spec hnamed hmethM (hts _ hs)
  obtain ⟨kP, hkP, -⟩ := className_of_methodNamed hnamed
  have hinitP : kP.init = .initialized := Cond.initialized_spec (findClass_of_methodNamed hnamed) hkP (hts _ ht)
  have hln : As.length = methM.sig.parameters.length := by
    rw [hsigM] at hlen
    exact (Option.some.inj hlen).symm
  obtain ⟨vm₁, X₁, hstep₁⟩ := X.invokestatic hx hown (hts _ hl) hnamed hmethM hstatic hkP hinitP hy (g := F0 m pc ls (As.reverse ++ rest)) rfl (argsL := As) (rest := rest) hln rfl (by rw [hbc]; exact hdg)
  have hn1 : (T.setVm vm₁).methodNamed? y = some mk := X₁.named hnamed
  have hW1 : s.WarmedH (T.setVm vm₁).vm := X₁.warmed
  have hf1 : ∃ (mY : Method) (cY : Code), (T.setVm vm₁).vm.method? mk = some mY ∧ mY.code = some cY ∧ cY.maxLocals = maxL := by
    obtain ⟨mk', mY, cY, h1, h2, h3, h4, -⟩ := hcf #[] _ (gts_at hts hW1 hc)
    cases hn1.symm.trans h1
    exact ⟨mY, cY, h2, h3, h4⟩
  rcases g_end hM X₁ (g := F0 m pc ls rest) (ig := .invokestatic index) (maxL := maxL) (mk := mk) (a := As.toArray) rfl (hsz.trans hml.symm) (by rw [hbc]; exact hdg) (lv_room hrest) hfr hlo hce hsl hn1 (gts_at hts hW1 hc) hf1 (gts_at hts hW1 ht) (hbl _ _ _ _ (hp (T.setVm vm₁) hT hW1)) with
    ⟨v, t, T', L, X', hL, e1, hF, hv, st⟩ | ⟨q, x, ce, t, T', L, X', hL, e1, hF, hx9, hce9, hcv, hcl, st⟩
  · obtain ⟨k1, k2, k3⟩ := g_back (hT : (T.setVm vm₁).heap = H) e1 hF hL hS hA
    obtain ⟨t2, a1, b1⟩ := kk v t T'.heap L e1.symm hv k1 k2 hL k3 T' rfl X'
    exact ⟨t2, hstep₁ _ (fun acts => by rw [doInvoke_state]; exact st.trans a1), b1⟩
  · obtain ⟨k1, k2, k3⟩ := g_back (hT : (T.setVm vm₁).heap = H) e1 hF hL hS hA
    obtain ⟨t2, a1, b1⟩ := kx q x ce t T'.heap L e1.symm hx9 k1 k2 hL k3 (by rw [e1]; exact hce9) hcv (by rw [← hW1.alike.findClass]; exact hcl) T' rfl X'
    exact ⟨t2, hstep₁ _ (fun acts => by rw [doInvoke_state]; exact st.trans a1), b1⟩
theorem g_cfC (a : Array Value) (U : State) (h : (Cond.code y bytes maxL ret).before a U = true) : ∃ (mk : MethodId) (mY : Method) (cY : Code), U.methodNamed? y = some mk ∧ U.vm.method? mk = some mY ∧ mY.code = some cY ∧ cY.maxLocals = maxL ∧ parseMethodDescriptor y.desc = some mY.sig := by
  obtain ⟨mk, hn⟩ := Cond.code_named h
  obtain ⟨mY, cY, h1, h2, -, h4, -, -, -, h8⟩ := Cond.code_spec hn h
  exact ⟨mk, mY, cY, hn, h1, h2, h4, h8⟩
theorem g_cfW {hh : List (Nat × Nat × Nat × Nat)} (a : Array Value) (U : State) (h : (Cond.codeWith y bytes maxL ret hh).before a U = true) : ∃ (mk : MethodId) (mY : Method) (cY : Code), U.methodNamed? y = some mk ∧ U.vm.method? mk = some mY ∧ mY.code = some cY ∧ cY.maxLocals = maxL ∧ parseMethodDescriptor y.desc = some mY.sig := by
  obtain ⟨mk, mY, cY, hn, h1, h2, -, h4, -, -, -, h8⟩ := Cond.codeWith_spec h
  exact ⟨mk, mY, cY, hn, h1, h2, h4, h8⟩
/-- the returns -/
theorem g_ret {g : JFrame} {Qc : Array Value → State → Outcome → State → Prop} (h : ∀ o t, Qc args s o t → va_F A s t ∧ ∃ v, o = .returned v ∧ Qv v t) (hc : cells ≤ mc) (hs : slots ≤ ms)
    (k : W p l e R s m args below meth c H locs mc ms (MQ below Qc args s mc ms A) g) : W p l e R s m args below meth c H locs cells slots (gM below A mc ms Qv Qx args s) g := by
  refine W.widen hc hs ?_
  intro T hT X
  obtain ⟨t, a1, o, b1, b2, b3, L, ⟨-, hW, hsm⟩, hL⟩ := k T hT X
  obtain ⟨h1, h2⟩ := h o t b3
  exact ⟨t, a1, o, b1, b2, h1, hW, ⟨L, hsm, hL⟩, Or.inl h2⟩
theorem g_iret {v : Int32} (S : CallFix p m c cc nL s args gts own) (hr : meth.sig.returnType = some .int) (hlocks : meth.locks = false) (hS : va_S A s.heap H locs) (hq : ∀ t : State, t.heap = H → Qv (some (.int v)) t) (hc : cells ≤ mc) (hs : slots ≤ ms) (hdg : decode cc pc = .ok (.ireturn, 1)) :
    W p l e R s m args below meth c H locs cells slots (gM below A mc ms Qv Qx args s) (F0 m pc ls [.int v]) :=
  g_ret (Qc := fun _ st o t => va_F A st t ∧ ∃ v, o = .returned v ∧ Qv v t) (fun _ _ h => h) hc hs (W.iret S.1 S.2.1 hr (fun t ht _ => ⟨hS.F ht, _, rfl, hq t ht⟩) hS.2.2 hdg hlocks)
theorem g_zret {v : Int32} (S : CallFix p m c cc nL s args gts own) (hr : meth.sig.returnType = some .boolean) (hlocks : meth.locks = false) (hS : va_S A s.heap H locs) (hn : v = 0 ∨ v = 1) (hq : ∀ t : State, t.heap = H → Qv (some (.int v)) t) (hc : cells ≤ mc) (hs : slots ≤ ms) (hdg : decode cc pc = .ok (.ireturn, 1)) :
    W p l e R s m args below meth c H locs cells slots (gM below A mc ms Qv Qx args s) (F0 m pc ls [.int v]) :=
  g_ret (Qc := fun _ st o t => va_F A st t ∧ ∃ v, o = .returned v ∧ Qv v t) (fun _ _ h => h) hc hs (W.zret (ty := .boolean) S.1 S.2.1 hr (by rcases hn with rfl | rfl <;> rfl) (fun t ht _ => ⟨hS.F ht, _, rfl, hq t ht⟩) hS.2.2 hdg hlocks)
theorem g_vret (S : CallFix p m c cc nL s args gts own) (hr : meth.sig.returnType = none) (hlocks : meth.locks = false) (hS : va_S A s.heap H locs) (hq : ∀ t : State, t.heap = H → Qv none t) (hc : cells ≤ mc) (hs : slots ≤ ms) (hdg : decode cc pc = .ok (.return_, 1)) :
    W p l e R s m args below meth c H locs cells slots (gM below A mc ms Qv Qx args s) (F0 m pc ls []) :=
  g_ret (Qc := fun _ st o t => va_F A st t ∧ ∃ v, o = .returned v ∧ Qv v t) (fun _ _ h => h) hc hs (W.vret S.1 S.2.1 hr (fun t ht _ => ⟨hS.F ht, _, rfl, hq t ht⟩) hS.2.2 hdg hlocks)
/-- thrown by a callee, not caught here -/
theorem g_xout {q : Addr} {x : String} {ce : Cell} (hout : ∀ z ∈ c.exceptionTable.toList, covers z pc = false) (hlocks : meth.locks = false) (hS : va_S A s.heap H locs) (hcell : H[q]? = some ce) (hv : ce.vm = .none) (hcl : s.vm.findClass x = some ce.cls)
    (hx : ∀ t : State, t.heap = H → Qx x t) (hc : cells ≤ mc) (hs : slots ≤ ms) : gX p l e R s m args below meth c H locs cells slots (gM below A mc ms Qv Qx args s) (F0 m pc ls rest) q := by
  intro T hT X
  obtain ⟨st1, hrun, hend, hW, hsm⟩ := X.leaveThrown q (g := F0 m pc ls rest) rfl rfl rfl hout hlocks
  have hh : (T.setFrames (.throwing q :: below)).heap = H := hT
  exact ⟨_, st1, .threw q, hrun, hend, hS.F hh, hW, ⟨locs, hsm.mono hc hs, hS.2.2⟩, Or.inr ⟨q, x, ce, rfl, hx _ hh, by rw [hh]; exact hcell, hv, hcl⟩⟩
end GC
