/-! How a method's walk begins and ends, over the full world (159 cells) in the state σ, τ. -/
abbrev gpu (l : Launch) (y : MethodName) (cc : ByteArray) (nL : Nat) (ret : Option FieldType) (rm : Room) (G : gP) (ad : Nat → Nat) (σ : Nat → Nat → Int32) (τ : Nat → Nat → Int64) (av : List Value) (mc ms : Nat) (post : Option Value → Prop) (xp : String → Prop) : Prop :=
  gPu l y (.code y cc nL ret) rm G 159 ad (enc G ad σ τ) av mc ms post xp
abbrev gim (l : Launch) (y : MethodName) (cc : ByteArray) (nL : Nat) (ret : Option FieldType) (rm : Room) (G : gP) (ad : Nat → Nat) (σ : Nat → Nat → Int32) (τ : Nat → Nat → Int64) (av : List Value) (mc ms : Nat) (post : Option Value → (Nat → Nat → Int32) → (Nat → Nat → Int64) → Prop) (xp : String → Prop) : Prop :=
  gIm l y (.code y cc nL ret) rm G 159 ad (enc G ad σ τ) av mc ms (fun v E1 => ∃ σ1 τ1, E1 = enc G ad σ1 τ1 ∧ post v σ1 τ1) xp
section GST
variable {l : Launch} {y : MethodName} {cc : ByteArray} {nL : Nat} {ret : Option FieldType} {rm : Room} {G : gP} {n : Nat} {ad : Nat → Nat} {E : Nat → va_E} {av : List Value} {mc ms : Nat} {A : Nat → Prop} {Qv : Option Value → State → Prop} {Qx : String → State → Prop}
theorem gs_of (hA : ∀ q, A q → gA G q) (hy : plainName y.cls = true) (hn : (lg_sl av).length ≤ nL)
    (body : ∀ (p : Program) (e : Env) (s : State) (m : MethodId) (args : Array Value) (below : List Frame) (meth : Method) (c : Code) (ls : Array Slot), CallFix p m c cc nL s args gts y.cls → meth.locks = false → meth.sig.returnType = ret → c.exceptionTable.isEmpty = true → lv_has ls nL (lv_args 0 av) → gO G A n ad E s s.heap [] →
      W p l e rm s m args below meth c s.heap [] 0 0 (gM below A mc ms Qv Qx args s) (F0 m 0 ls [])) : gK l y (.code y cc nL ret) rm (va_Pc av (gI G n ad E)) A mc ms Qv Qx := by
  refine gK_of hy ?_
  intro p e s m args below meth c s₁ B hml hP
  obtain ⟨rfl, hI⟩ := hP
  have hcode : (Cond.code y cc nL ret).before av.toArray s = true := atoms_spec (ws := [Cond.code y cc nL ret]) B.pre _ List.mem_cons_self
  rw [lg_entry_eq]
  exact body p e s m _ below meth c _ ⟨B.exec, B.bytes, hml, findClass_of_methodNamed B.named, hI.2.2.2.2.at _⟩ B.notSynchronized B.returns (B.noHandlers hcode) (lv_entry av hn) (hI.start hA)
end GST
section GEN
variable {p : Program} {l : Launch} {e : Env} {R : Room} {s : State} {m : MethodId} {args : Array Value} {below : List Frame} {meth : Method} {c : Code} {H : Heap} {locs : List Loc} {cells slots : Nat}
variable {cc : ByteArray} {pc nL mc ms : Nat} {ls : Array Slot} {rest : List Value} {own : String} {G : gP} {A : Nat → Prop} {n : Nat} {ad : Nat → Nat} {E : Nat → va_E} {σ : Nat → Nat → Int32} {τ : Nat → Nat → Int64} {v : Int32} {x : String} {ce : Cell} {q : Addr}
variable {post : Option Value → Prop} {xp : String → Prop} {posi : Option Value → (Nat → Nat → Int32) → (Nat → Nat → Int64) → Prop}
/-- the ends of a pure method: an int, a boolean, nothing; a callee's throw goes on -/
theorem pu_i (S : CallFix p m c cc nL s args gts own) (hk : meth.locks = false) (hr : meth.sig.returnType = some .int) (hO : gO G (fun _ => False) n ad E s H locs) (hq : post (some (.int v))) (hc : cells ≤ mc) (hs : slots ≤ ms) (hdg : decode cc pc = .ok (.ireturn, 1)) :
    W p l e R s m args below meth c H locs cells slots (gM below (fun _ => False) mc ms (fun v _ => post v) (fun x _ => xp x) args s) (F0 m pc ls [.int v]) := g_iret S hr hk hO.S (fun _ _ => hq) hc hs hdg
theorem pu_z (S : CallFix p m c cc nL s args gts own) (hk : meth.locks = false) (hr : meth.sig.returnType = some .boolean) (hO : gO G (fun _ => False) n ad E s H locs) (hv : v = 0 ∨ v = 1) (hq : post (some (.int v))) (hc : cells ≤ mc) (hs : slots ≤ ms) (hdg : decode cc pc = .ok (.ireturn, 1)) :
    W p l e R s m args below meth c H locs cells slots (gM below (fun _ => False) mc ms (fun v _ => post v) (fun x _ => xp x) args s) (F0 m pc ls [.int v]) := g_zret S hr hk hO.S hv (fun _ _ => hq) hc hs hdg
theorem pu_v (S : CallFix p m c cc nL s args gts own) (hk : meth.locks = false) (hr : meth.sig.returnType = none) (hO : gO G (fun _ => False) n ad E s H locs) (hq : post none) (hc : cells ≤ mc) (hs : slots ≤ ms) (hdg : decode cc pc = .ok (.return_, 1)) :
    W p l e R s m args below meth c H locs cells slots (gM below (fun _ => False) mc ms (fun v _ => post v) (fun x _ => xp x) args s) (F0 m pc ls []) := g_vret S hr hk hO.S (fun _ _ => hq) hc hs hdg
theorem pu_x (hx : c.exceptionTable.isEmpty = true) (hk : meth.locks = false) (hO : gO G (fun _ => False) n ad E s H locs) (hce : H[q]? = some ce) (hcv : ce.vm = .none) (hcl : s.vm.findClass x = some ce.cls) (hq : xp x) (hc : cells ≤ mc) (hs : slots ≤ ms) :
    gX p l e R s m args below meth c H locs cells slots (gM below (fun _ => False) mc ms (fun v _ => post v) (fun x _ => xp x) args s) (F0 m pc ls rest) q := g_xout (covers_of_empty hx _) hk hO.S hce hcv hcl (fun _ _ => hq) hc hs
/-- the ends of a method that writes -/
theorem im_i (S : CallFix p m c cc nL s args gts own) (hk : meth.locks = false) (hr : meth.sig.returnType = some .int) (hO : gO G (gA G) n ad (enc G ad σ τ) s H locs) (hq : posi (some (.int v)) σ τ) (hc : cells ≤ mc) (hs : slots ≤ ms) (hdg : decode cc pc = .ok (.ireturn, 1)) :
    W p l e R s m args below meth c H locs cells slots (gM below (gA G) mc ms (fun v t => ∃ E1, (∃ σ1 τ1, E1 = enc G ad σ1 τ1 ∧ posi v σ1 τ1) ∧ va_P G.1 gcl (gw n ad E1) t.heap) (fun x t => xp x ∧ va_P G.1 gcl (gw n ad E) t.heap) args s) (F0 m pc ls [.int v]) :=
  g_iret S hr hk hO.S (fun _ ht => ⟨_, ⟨σ, τ, rfl, hq⟩, by rw [ht]; exact hO.2.1⟩) hc hs hdg
theorem im_z (S : CallFix p m c cc nL s args gts own) (hk : meth.locks = false) (hr : meth.sig.returnType = some .boolean) (hO : gO G (gA G) n ad (enc G ad σ τ) s H locs) (hv : v = 0 ∨ v = 1) (hq : posi (some (.int v)) σ τ) (hc : cells ≤ mc) (hs : slots ≤ ms) (hdg : decode cc pc = .ok (.ireturn, 1)) :
    W p l e R s m args below meth c H locs cells slots (gM below (gA G) mc ms (fun v t => ∃ E1, (∃ σ1 τ1, E1 = enc G ad σ1 τ1 ∧ posi v σ1 τ1) ∧ va_P G.1 gcl (gw n ad E1) t.heap) (fun x t => xp x ∧ va_P G.1 gcl (gw n ad E) t.heap) args s) (F0 m pc ls [.int v]) :=
  g_zret S hr hk hO.S hv (fun _ ht => ⟨_, ⟨σ, τ, rfl, hq⟩, by rw [ht]; exact hO.2.1⟩) hc hs hdg
theorem im_v (S : CallFix p m c cc nL s args gts own) (hk : meth.locks = false) (hr : meth.sig.returnType = none) (hO : gO G (gA G) n ad (enc G ad σ τ) s H locs) (hq : posi none σ τ) (hc : cells ≤ mc) (hs : slots ≤ ms) (hdg : decode cc pc = .ok (.return_, 1)) :
    W p l e R s m args below meth c H locs cells slots (gM below (gA G) mc ms (fun v t => ∃ E1, (∃ σ1 τ1, E1 = enc G ad σ1 τ1 ∧ posi v σ1 τ1) ∧ va_P G.1 gcl (gw n ad E1) t.heap) (fun x t => xp x ∧ va_P G.1 gcl (gw n ad E) t.heap) args s) (F0 m pc ls []) :=
  g_vret S hr hk hO.S (fun _ ht => ⟨_, ⟨σ, τ, rfl, hq⟩, by rw [ht]; exact hO.2.1⟩) hc hs hdg
theorem im_x (hx : c.exceptionTable.isEmpty = true) (hk : meth.locks = false) (hO : gO G (gA G) n ad E s H locs) (hce : H[q]? = some ce) (hcv : ce.vm = .none) (hcl : s.vm.findClass x = some ce.cls) (hq : xp x) (hc : cells ≤ mc) (hs : slots ≤ ms) :
    gX p l e R s m args below meth c H locs cells slots (gM below (gA G) mc ms (fun v t => ∃ E1, (∃ σ1 τ1, E1 = enc G ad σ1 τ1 ∧ posi v σ1 τ1) ∧ va_P G.1 gcl (gw n ad E1) t.heap) (fun x t => xp x ∧ va_P G.1 gcl (gw n ad E) t.heap) args s) (F0 m pc ls rest) q := g_xout (covers_of_empty hx _) hk hO.S hce hcv hcl (fun _ ht => ⟨hq, by rw [ht]; exact hO.2.1⟩) hc hs
end GEN
