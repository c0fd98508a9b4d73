/-! Rows over the one world: fields, arrays, calls, throws. -/
abbrev gC (ci : Nat) : vw_C := gcl.getD ci ("", fun _ => ("", "", "", false), 0)
/-- the field j of the class ci, as the method's class 'own' names it by its pool's entry -/
def gF (own : String) (index ci j : Nat) : Prop := gcl[ci]? = some (gC ci) ∧ (∀ w ∈ u_ws (gC ci).1 (gC ci).2.1 (gC ci).2.2, w ∈ gts) ∧ j < (gC ci).2.2 ∧ Cond.fieldLink own index (gC ci).1 ((gC ci).2.1 j).2.1 ((gC ci).2.1 j).2.2.1 ∈ gts ∧ ((gC ci).2.1 j).1 = (gC ci).1
/-- .. and it may be written -/
def gFp (own : String) (index ci j : Nat) (ty0 : Nat → FieldType) : Prop := gF own index ci j ∧ (∀ k, k < (gC ci).2.2 → parseFieldDescriptor ((gC ci).2.1 k).2.2.1 = some (ty0 k)) ∧ (∀ a, a < (gC ci).2.2 → ∀ b, b < (gC ci).2.2 → a ≠ b → ((gC ci).2.1 a).2.1 ≠ ((gC ci).2.1 b).2.1) ∧ ((gC ci).2.1 j).2.2.2 = false
section GR
variable {p : Program} {l : Launch} {e : Env} {R : Room} {s : State} {m : MethodId} {args : Array Value} {below : List Frame} {meth : Method} {c : Code} {H : Heap} {locs : List Loc} {cells slots : Nat} {Q : State → Prop}
variable {cc : ByteArray} {pc nL : Nat} {ls : Array Slot} {rest : List Value} {own : String} {G : gP} {A : Nat → Prop} {n : Nat} {ad : Nat → Nat} {E E2 : Nat → va_E}
theorem g_get (S : CallFix p m c cc nL s args gts own) (hO : gO G A n ad E s H locs) {index ci j k : Nat} (hF : gF own index ci j) (hk : k < n) {fs : List Value} (hE : E k = .inr (ci, fs)) {v : Value} (hv : fs[j]? = some v) (hdg : decode cc pc = .ok (.getfield index, 3))
    (kk : W p l e R s m args below meth c H locs cells slots Q (F0 m (pc + 3) ls (v :: rest))) : W p l e R s m args below meth c H locs cells slots Q (F0 m pc ls (.ref (ad k) :: rest)) := by
  obtain ⟨hc, hin, hj, hl, hT⟩ := hF
  exact va_get (D := G.1) (ref := (gC ci).1) S.1 S.2.1 S.2.2.2.2 hin S.2.2.2.1 hO.1 hO.2.1 k (by rw [gw_at hk, hE]) hc j hj (S.2.2.2.2 _ hl) (fun x h => by rw [← hT]; rw [hT] at h ⊢; exact h) hv hdg kk
theorem g_put (S : CallFix p m c cc nL s args gts own) (hO : gO G A n ad E s H locs) (hA : ∀ q, gA G q → A q) {index ci j k : Nat} {ty0 : Nat → FieldType} (hF : gFp own index ci j ty0) (hk : k < n) {fs : List Value} (hE : E k = .inr (ci, fs)) {v : Value} (hn : narrow (ty0 j) v = v) (hfit : fits (ty0 j) v = true) (hl : j < fs.length) (hE2 : va_up E k (.inr (ci, fs.set j v)) = E2) (hdg : decode cc pc = .ok (.putfield index, 3))
    (kk : ∀ (H1 : Heap) (locs1 : List Loc), gO G A n ad E2 s H1 locs1 → W p l e R s m args below meth c H1 locs1 cells slots Q (F0 m (pc + 3) ls rest)) : W p l e R s m args below meth c H locs cells slots Q (F0 m pc ls (v :: .ref (ad k) :: rest)) := by
  obtain ⟨⟨hc, hin, hj, hlk, hT⟩, hty, hnm, hfin⟩ := hF
  refine va_put (D := G.1) (ref := (gC ci).1) (ty := ty0 j) (A := A) S.1 S.2.1 S.2.2.2.2 hin ty0 hty hnm S.2.2.2.1 hO.1 hO.2.1 (hO.2.2.1.weaken (fun _ q _ h => hA q.1 h)) hO.S k (by rw [gw_at hk, hE]) hc j hj (S.2.2.2.2 _ hlk) (fun x h => by rw [← hT]; rw [hT] at h ⊢; exact h) hfin (hty j hj) hn hfit hl hdg (fun H1 locs1 h1 _ h3 => kk H1 locs1 (hO.next ?_ h3))
  rw [gw_set hk, hE2] at h1
  exact h1
theorem g_ial (S : CallFix p m c cc nL s args gts own) (hO : gO G A n ad E s H locs) {k N : Nat} {f : Nat → Int32} (hk : k < n) (hE : E k = .inl (G.2.1 0, N, .inl f)) {i : Int32} (hi : vp_in i N) (hdg : decode cc pc = .ok (.iaload, 1))
    (kk : W p l e R s m args below meth c H locs cells slots Q (F0 m (pc + 1) ls (.int (f i.toNatClampNeg) :: rest))) : W p l e R s m args below meth c H locs cells slots Q (F0 m pc ls (.int i :: .ref (ad k) :: rest)) :=
  va_iald S.1 S.2.1 hO.1 hO.2.1 k 0 (by rw [gw_at hk, hE]) rfl hi hdg kk
theorem g_zal (S : CallFix p m c cc nL s args gts own) (hO : gO G A n ad E s H locs) {k N : Nat} {f : Nat → Int32} (hk : k < n) (hE : E k = .inl (G.2.1 2, N, .inl f)) {i : Int32} (hi : vp_in i N) (hdg : decode cc pc = .ok (.baload, 1))
    (kk : W p l e R s m args below meth c H locs cells slots Q (F0 m (pc + 1) ls (.int (f i.toNatClampNeg) :: rest))) : W p l e R s m args below meth c H locs cells slots Q (F0 m pc ls (.int i :: .ref (ad k) :: rest)) :=
  va_zald S.1 S.2.1 hO.1 hO.2.1 k 2 (by rw [gw_at hk, hE]) rfl hi hdg kk
theorem g_lal (S : CallFix p m c cc nL s args gts own) (hO : gO G A n ad E s H locs) {k N : Nat} {f : Nat → Int64} (hk : k < n) (hE : E k = .inl (G.2.1 1, N, .inr (.inl f))) {i : Int32} (hi : vp_in i N) (hdg : decode cc pc = .ok (.laload, 1))
    (kk : W p l e R s m args below meth c H locs cells slots Q (F0 m (pc + 1) ls (.long (f i.toNatClampNeg) :: rest))) : W p l e R s m args below meth c H locs cells slots Q (F0 m pc ls (.int i :: .ref (ad k) :: rest)) :=
  va_lald S.1 S.2.1 hO.1 hO.2.1 k 1 (by rw [gw_at hk, hE]) rfl hi hdg kk
theorem g_aal (S : CallFix p m c cc nL s args gts own) (hO : gO G A n ad E s H locs) {k N t0 : Nat} {C : String} {f : Nat → Option Nat} {cA : ClassId} (hk : k < n) (hE : E k = .inl (cA, N, .inr (.inr (.inr (.inr f))))) (ht : (gtys G)[t0]? = some (cA, .object C)) {i : Int32} (hi : vp_in i N) {v : Value} (hv : va_rf (f i.toNatClampNeg) = v) (hdg : decode cc pc = .ok (.aaload, 1))
    (kk : W p l e R s m args below meth c H locs cells slots Q (F0 m (pc + 1) ls (v :: rest))) : W p l e R s m args below meth c H locs cells slots Q (F0 m pc ls (.int i :: .ref (ad k) :: rest)) := by
  subst hv
  exact va_aldq S.1 S.2.1 hO.1 hO.2.1 k t0 (by rw [gw_at hk, hE]) ht hi hdg kk
theorem g_ias (S : CallFix p m c cc nL s args gts own) (hO : gO G A n ad E s H locs) (hA : ∀ q, gA G q → A q) {k N : Nat} {f : Nat → Int32} (hk : k < n) (hE : E k = .inl (G.2.1 0, N, .inl f)) {i x : Int32} (hi : vp_in i N) (hE2 : va_up E k (.inl (G.2.1 0, N, .inl (upd f i.toNatClampNeg x))) = E2) (hdg : decode cc pc = .ok (.iastore, 1))
    (kk : ∀ (H1 : Heap) (locs1 : List Loc), gO G A n ad E2 s H1 locs1 → W p l e R s m args below meth c H1 locs1 cells slots Q (F0 m (pc + 1) ls rest)) : W p l e R s m args below meth c H locs cells slots Q (F0 m pc ls (.int x :: .int i :: .ref (ad k) :: rest)) := by
  refine va_iast (A := A) S.1 S.2.1 hO.1 hO.2.1 (hO.2.2.1.weaken (fun _ q _ h => hA q.1 h)) hO.S k 0 (by rw [gw_at hk, hE]) rfl hi hdg (fun H1 locs1 h1 _ h3 => kk H1 locs1 (hO.next ?_ h3))
  rw [gw_set hk, hE2] at h1
  exact h1
theorem g_zas (S : CallFix p m c cc nL s args gts own) (hO : gO G A n ad E s H locs) (hA : ∀ q, gA G q → A q) {k N : Nat} {f : Nat → Int32} (hk : k < n) (hE : E k = .inl (G.2.1 2, N, .inl f)) {i x : Int32} (hi : vp_in i N) (hE2 : va_up E k (.inl (G.2.1 2, N, .inl (upd f i.toNatClampNeg (vp_nar .boolean x)))) = E2) (hdg : decode cc pc = .ok (.bastore, 1))
    (kk : ∀ (H1 : Heap) (locs1 : List Loc), gO G A n ad E2 s H1 locs1 → W p l e R s m args below meth c H1 locs1 cells slots Q (F0 m (pc + 1) ls rest)) : W p l e R s m args below meth c H locs cells slots Q (F0 m pc ls (.int x :: .int i :: .ref (ad k) :: rest)) := by
  refine va_zast (A := A) S.1 S.2.1 hO.1 hO.2.1 (hO.2.2.1.weaken (fun _ q _ h => hA q.1 h)) hO.S k 2 (by rw [gw_at hk, hE]) rfl hi hdg (fun H1 locs1 h1 _ h3 => kk H1 locs1 (hO.next ?_ h3))
  rw [gw_set hk, hE2] at h1
  exact h1
theorem g_las (S : CallFix p m c cc nL s args gts own) (hO : gO G A n ad E s H locs) (hA : ∀ q, gA G q → A q) {k N : Nat} {f : Nat → Int64} (hk : k < n) (hE : E k = .inl (G.2.1 1, N, .inr (.inl f))) {i : Int32} {x : Int64} (hi : vp_in i N) (hE2 : va_up E k (.inl (G.2.1 1, N, .inr (.inl (vp_updL f i.toNatClampNeg x)))) = E2) (hdg : decode cc pc = .ok (.lastore, 1))
    (kk : ∀ (H1 : Heap) (locs1 : List Loc), gO G A n ad E2 s H1 locs1 → W p l e R s m args below meth c H1 locs1 cells slots Q (F0 m (pc + 1) ls rest)) : W p l e R s m args below meth c H locs cells slots Q (F0 m pc ls (.long x :: .int i :: .ref (ad k) :: rest)) := by
  refine va_last (A := A) S.1 S.2.1 hO.1 hO.2.1 (hO.2.2.1.weaken (fun _ q _ h => hA q.1 h)) hO.S k 1 (by rw [gw_at hk, hE]) rfl hi hdg (fun H1 locs1 h1 _ h3 => kk H1 locs1 (hO.next ?_ h3))
  rw [gw_set hk, hE2] at h1
  exact h1
end GR
/-! Contracts over the one world. Pure: nothing is written. Else: E goes to E', or it throws and nothing of the world has changed. -/
def gPu (l : Launch) (y : MethodName) (w : Cond) (rm : Room) (G : gP) (n : Nat) (ad : Nat → Nat) (E : Nat → va_E) (av : List Value) (mc ms : Nat) (post : Option Value → Prop) (xp : String → Prop) : Prop :=
  gK l y w rm (va_Pc av (gI G n ad E)) (fun _ => False) mc ms (fun v _ => post v) (fun x _ => xp x)
def gIm (l : Launch) (y : MethodName) (w : Cond) (rm : Room) (G : gP) (n : Nat) (ad : Nat → Nat) (E : Nat → va_E) (av : List Value) (mc ms : Nat) (post : Option Value → (Nat → va_E) → Prop) (xp : String → Prop) : Prop :=
  gK l y w rm (va_Pc av (gI G n ad E)) (gA G) mc ms (fun v t => ∃ E1, post v E1 ∧ va_P G.1 gcl (gw n ad E1) t.heap) (fun x t => xp x ∧ va_P G.1 gcl (gw n ad E) t.heap)
section GCW
variable {p : Program} {l : Launch} {e : Env} {R : Room} {s : State} {m : MethodId} {args : Array Value} {below : List Frame} {meth : Method} {c : Code} {H : Heap} {locs : List Loc} {cells slots : Nat} {Q : State → Prop}
variable {y : MethodName} {bytes cc : ByteArray} {maxL nL mc ms index pc : Nat} {ret : Option FieldType} {rm : Room} {A : Nat → Prop} {own : String} {As rest : List Value} {ls : Array Slot} {G : gP} {n : Nat} {ad : Nat → Nat} {E : Nat → va_E} {xp : String → Prop}
/-- the words of a virtual call, and of a static one -/
def gWV (own : String) (index : Nat) (y : MethodName) (w : Cond) (k : Nat) : Prop := Cond.methodLink own index y ∈ gts ∧ Cond.instanceMethod y ∈ gts ∧ Cond.selects y.cls y y ∈ gts ∧ Cond.initialized y.cls ∈ gts ∧ w ∈ gts ∧ (y.cls ≠ "java/lang/invoke/MethodHandle" ∧ y.cls ≠ "java/lang/invoke/VarHandle") ∧ (parseMethodDescriptor y.desc).map (fun d => d.parameters.length) = some k
def gWS (own : String) (index : Nat) (y : MethodName) (w : Cond) (k : Nat) : Prop := Cond.methodLink own index y ∈ gts ∧ Cond.static y ∈ gts ∧ Cond.initialized y.cls ∈ gts ∧ w ∈ gts ∧ (y.cls ≠ "java/lang/invoke/MethodHandle" ∧ y.cls ≠ "java/lang/invoke/VarHandle") ∧ (parseMethodDescriptor y.desc).map (fun d => d.parameters.length) = some k
theorem g_VP {post : Option Value → Prop} (S : CallFix p m c cc nL s args gts own) (hO : gO G A n ad E s H locs) {k ci : Nat} (hM : gPu l y (.code y bytes maxL ret) rm G n ad E (.ref (ad k) :: As) mc ms post xp) (hw : gWV own index y (.code y bytes maxL ret) As.length) (hk : k < n) {fs : List Value} (hE : E k = .inr (ci, fs)) {q : vw_C} (hc : gcl[ci]? = some q) (hq : q.1 = y.cls)
    (hsz : ls.size = nL) (hrest : (rest.map fun v => v.category).sum ≤ 8) (hR : rm.frames + 1 ≤ R.frames ∧ 8 + (maxL + 11) + rm.locals ≤ R.locals) (hR2 : cells + rm.cells ≤ R.cells ∧ slots + rm.slots ≤ R.slots) (hdg : decode cc pc = .ok (.invokevirtual index, 3))
    (kx : ∀ (q : Addr) (x : String) (ce : Cell) (H1 : Heap), xp x → gO G A n ad E s H1 locs → H1[q]? = some ce → ce.vm = .none → s.vm.findClass x = some ce.cls → gX p l e R s m args below meth c H1 locs (cells + mc) (slots + ms) Q (F0 m pc ls rest) q)
    (kk : ∀ (v : Option Value) (H1 : Heap), post v → gO G A n ad E s H1 locs → W p l e R s m args below meth c H1 locs (cells + mc) (slots + ms) Q (F0 m (pc + 3) ls (v.toList ++ rest))) :
    W p l e R s m args below meth c H locs cells slots Q (F0 m pc ls (As.reverse ++ .ref (ad k) :: rest)) := by
  obtain ⟨w1, w2, w3, w4, w5, w6, w7⟩ := hw
  refine g_V (A := A) S hM w1 w2 w3 w4 w5 w6 w7 (by rw [← hq]; exact hO.recv hk hE hc) gI.blind (fun U hU hW => ⟨rfl, hO.to hU hW⟩) hsz hrest hR.1 hR.2 hR2.1 hR2.2 hO.S (fun _ h => h.elim) hdg (fun q x ce t H1 L ht hx z1 z2 hL hS hce hcv hcl => ?_) (fun v t H1 L ht hv z1 z2 hL hS => ?_)
  · have e1 := g_none hL
    subst e1
    rw [List.append_nil] at hS ⊢
    exact kx q x ce H1 hx (hO.keep (fun q h => z2 q h id) hS) hce hcv hcl
  · have e1 := g_none hL
    subst e1
    rw [List.append_nil] at hS ⊢
    exact kk v H1 hv (hO.keep (fun q h => z2 q h id) hS)
theorem g_SP {w : Cond} {post : Option Value → Prop} (S : CallFix p m c cc nL s args gts own) (hO : gO G A n ad E s H locs) (hM : gPu l y w rm G n ad E As mc ms post xp) (hw : gWS own index y w As.length) (hcf : ∀ (a : Array Value) (U : State), w.before a U = true → ∃ (mk : MethodId) (mY : Method) (cY : Code), U.methodNamed? y = some mk ∧ U.vm.method? mk = some mY ∧ mY.code = some cY ∧ cY.maxLocals = maxL ∧ parseMethodDescriptor y.desc = some mY.sig)
    (hsz : ls.size = nL) (hrest : (rest.map fun v => v.category).sum ≤ 8) (hR : rm.frames + 1 ≤ R.frames ∧ 8 + (maxL + 11) + rm.locals ≤ R.locals) (hR2 : cells + rm.cells ≤ R.cells ∧ slots + rm.slots ≤ R.slots) (hdg : decode cc pc = .ok (.invokestatic index, 3))
    (kx : ∀ (q : Addr) (x : String) (ce : Cell) (H1 : Heap), xp x → gO G A n ad E s H1 locs → H1[q]? = some ce → ce.vm = .none → s.vm.findClass x = some ce.cls → gX p l e R s m args below meth c H1 locs (cells + mc) (slots + ms) Q (F0 m pc ls rest) q)
    (kk : ∀ (v : Option Value) (H1 : Heap), post v → gO G A n ad E s H1 locs → W p l e R s m args below meth c H1 locs (cells + mc) (slots + ms) Q (F0 m (pc + 3) ls (v.toList ++ rest))) :
    W p l e R s m args below meth c H locs cells slots Q (F0 m pc ls (As.reverse ++ rest)) := by
  obtain ⟨w1, w3, w4, w5, w6, w7⟩ := hw
  refine g_S (A := A) S hM w1 w3 w4 w5 hcf w6 w7 gI.blind (fun U hU hW => ⟨rfl, hO.to hU hW⟩) hsz hrest hR.1 hR.2 hR2.1 hR2.2 hO.S (fun _ h => h.elim) hdg (fun q x ce t H1 L ht hx z1 z2 hL hS hce hcv hcl => ?_) (fun v t H1 L ht hv z1 z2 hL hS => ?_)
  · have e1 := g_none hL
    subst e1
    rw [List.append_nil] at hS ⊢
    exact kx q x ce H1 hx (hO.keep (fun q h => z2 q h id) hS) hce hcv hcl
  · have e1 := g_none hL
    subst e1
    rw [List.append_nil] at hS ⊢
    exact kk v H1 hv (hO.keep (fun q h => z2 q h id) hS)
theorem g_VI {post : Option Value → (Nat → va_E) → Prop} (S : CallFix p m c cc nL s args gts own) (hO : gO G A n ad E s H locs) (hA : ∀ q, gA G q → A q) {k ci : Nat} (hM : gIm l y (.code y bytes maxL ret) rm G n ad E (.ref (ad k) :: As) mc ms post xp) (hw : gWV own index y (.code y bytes maxL ret) As.length) (hk : k < n) {fs : List Value} (hE : E k = .inr (ci, fs)) {q : vw_C} (hc : gcl[ci]? = some q) (hq : q.1 = y.cls)
    (hsz : ls.size = nL) (hrest : (rest.map fun v => v.category).sum ≤ 8) (hR : rm.frames + 1 ≤ R.frames ∧ 8 + (maxL + 11) + rm.locals ≤ R.locals) (hR2 : cells + rm.cells ≤ R.cells ∧ slots + rm.slots ≤ R.slots) (hdg : decode cc pc = .ok (.invokevirtual index, 3))
    (kx : ∀ (q : Addr) (x : String) (ce : Cell) (H1 : Heap) (locs1 : List Loc), xp x → gO G A n ad E s H1 locs1 → H1[q]? = some ce → ce.vm = .none → s.vm.findClass x = some ce.cls → gX p l e R s m args below meth c H1 locs1 (cells + mc) (slots + ms) Q (F0 m pc ls rest) q)
    (kk : ∀ (v : Option Value) (E1 : Nat → va_E) (H1 : Heap) (locs1 : List Loc), post v E1 → gO G A n ad E1 s H1 locs1 → W p l e R s m args below meth c H1 locs1 (cells + mc) (slots + ms) Q (F0 m (pc + 3) ls (v.toList ++ rest))) :
    W p l e R s m args below meth c H locs cells slots Q (F0 m pc ls (As.reverse ++ .ref (ad k) :: rest)) := by
  obtain ⟨w1, w2, w3, w4, w5, w6, w7⟩ := hw
  refine g_V (A := A) S hM w1 w2 w3 w4 w5 w6 w7 (by rw [← hq]; exact hO.recv hk hE hc) gI.blind (fun U hU hW => ⟨rfl, hO.to hU hW⟩) hsz hrest hR.1 hR.2 hR2.1 hR2.2 hO.S hA hdg (fun q x ce t H1 L ht hx z1 z2 hL hS hce hcv hcl => ?_) (fun v t H1 L ht hv z1 z2 hL hS => ?_)
  · exact kx q x ce H1 _ hx.1 (hO.next (by rw [← ht]; exact hx.2) hS) hce hcv hcl
  · obtain ⟨E1, h1, h2⟩ := hv
    exact kk v E1 H1 _ h1 (hO.next (by rw [← ht]; exact h2) hS)
theorem g_SI {w : Cond} {post : Option Value → (Nat → va_E) → Prop} (S : CallFix p m c cc nL s args gts own) (hO : gO G A n ad E s H locs) (hA : ∀ q, gA G q → A q) (hM : gIm l y w rm G n ad E As mc ms post xp) (hw : gWS own index y w As.length) (hcf : ∀ (a : Array Value) (U : State), w.before a U = true → ∃ (mk : MethodId) (mY : Method) (cY : Code), U.methodNamed? y = some mk ∧ U.vm.method? mk = some mY ∧ mY.code = some cY ∧ cY.maxLocals = maxL ∧ parseMethodDescriptor y.desc = some mY.sig)
    (hsz : ls.size = nL) (hrest : (rest.map fun v => v.category).sum ≤ 8) (hR : rm.frames + 1 ≤ R.frames ∧ 8 + (maxL + 11) + rm.locals ≤ R.locals) (hR2 : cells + rm.cells ≤ R.cells ∧ slots + rm.slots ≤ R.slots) (hdg : decode cc pc = .ok (.invokestatic index, 3))
    (kx : ∀ (q : Addr) (x : String) (ce : Cell) (H1 : Heap) (locs1 : List Loc), xp x → gO G A n ad E s H1 locs1 → H1[q]? = some ce → ce.vm = .none → s.vm.findClass x = some ce.cls → gX p l e R s m args below meth c H1 locs1 (cells + mc) (slots + ms) Q (F0 m pc ls rest) q)
    (kk : ∀ (v : Option Value) (E1 : Nat → va_E) (H1 : Heap) (locs1 : List Loc), post v E1 → gO G A n ad E1 s H1 locs1 → W p l e R s m args below meth c H1 locs1 (cells + mc) (slots + ms) Q (F0 m (pc + 3) ls (v.toList ++ rest))) :
    W p l e R s m args below meth c H locs cells slots Q (F0 m pc ls (As.reverse ++ rest)) := by
  obtain ⟨w1, w3, w4, w5, w6, w7⟩ := hw
  refine g_S (A := A) S hM w1 w3 w4 w5 hcf w6 w7 gI.blind (fun U hU hW => ⟨rfl, hO.to hU hW⟩) hsz hrest hR.1 hR.2 hR2.1 hR2.2 hO.S hA hdg (fun q x ce t H1 L ht hx z1 z2 hL hS hce hcv hcl => ?_) (fun v t H1 L ht hv z1 z2 hL hS => ?_)
  · exact kx q x ce H1 _ hx.1 (hO.next (by rw [← ht]; exact hx.2) hS) hce hcv hcl
  · obtain ⟨E1, h1, h2⟩ := hv
    exact kk v E1 H1 _ h1 (hO.next (by rw [← ht]; exact h2) hS)
end GCW
