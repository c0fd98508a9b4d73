/-! The world is built: cell k lies at the world's first address and k; rows that make cells and fill them, and know the heap's size. -/
abbrev adG (G : gP) : Nat → Nat := fun k => gb G + k
theorem gw_c {n : Nat} {ad : Nat → Nat} {E E1 : Nat → va_E} (h : ∀ k, k < n → E k = E1 k) : gw n ad E = gw n ad E1 := by
  unfold gw
  apply List.map_congr_left
  intro k hk
  rw [h k (List.mem_range.mp hk)]
theorem gw_lt {n : Nat} {ad : Nat → Nat} {E : Nat → va_E} {i : Nat} {q : Nat × va_E} (h : (gw n ad E)[i]? = some q) : i < n ∧ q = (ad i, E i) := by
  have hi : i < n := by
    have h1 := (List.getElem?_eq_some_iff.mp h).1
    rw [gw_len] at h1
    exact h1
  rw [gw_at hi] at h
  cases h
  exact ⟨hi, rfl⟩
theorem adG_D {G : gP} {n : Nat} {E : Nat → va_E} : va_D (gA G) (gw n (adG G) E) := by
  refine ⟨fun i j p q hi hj hpq => ?_, fun k q hk => ?_⟩
  · obtain ⟨-, rfl⟩ := gw_lt hi
    obtain ⟨-, rfl⟩ := gw_lt hj
    have h1 : gb G + i = gb G + j := hpq
    omega
  · obtain ⟨-, rfl⟩ := gw_lt hk
    exact Nat.le_add_right _ _
theorem vu_s {E : Nat → va_E} {k : Nat} {e : va_E} : va_up E k e k = e := if_pos rfl
theorem vu_n {E : Nat → va_E} {k j : Nat} {e : va_E} (h : j ≠ k) : va_up E k e j = E j := if_neg h
def aoJ (U : State) : Prop := va_AO "PlaceRules$Place" U ∧ va_AO "PlaceRules$Unit" U ∧ va_AO "PlaceRules$Waiver" U ∧ va_AO "PlaceRules$Rule" U
theorem aoJ.moved {u U : State} (hvm : u.vm.Alike U.vm) (h : aoJ u) : aoJ U := ⟨h.1.moved hvm, h.2.1.moved hvm, h.2.2.1.moved hvm, h.2.2.2.moved hvm⟩
/-- at a constructor's entry, and in its walk -/
def gJ (G : gP) (n : Nat) (E : Nat → va_E) (U : State) : Prop := gI G n (adG G) E U ∧ U.heap.size = gb G + n ∧ aoJ U
def gN (G : gP) (n : Nat) (E : Nat → va_E) (s : State) (H : Heap) (locs : List Loc) : Prop := gO G (gA G) n (adG G) E s H locs ∧ H.size = gb G + n ∧ aoJ s
theorem gJ.blind {G : gP} {n : Nat} {E : Nat → va_E} {av : List Value} : FrameBlind (va_Pc av (gJ G n E)) := by
  intro a U g mk ⟨h0, h1, h2, h3⟩
  have hb : va_Pc av (gI G n (adG G) E) a (U.calling g mk a) := gI.blind a U g mk ⟨h0, h1⟩
  exact ⟨h0, hb.2, h2, h3.moved (U := U.calling g mk a) (Vm.Alike.refl U.vm)⟩
section GNS
variable {G : gP} {n : Nat} {E E1 : Nat → va_E} {s : State} {H H1 : Heap} {locs locs1 : List Loc}
theorem gN.to (h : gN G n E s H locs) {U : State} (hU : U.heap = H) (hW : s.WarmedH U.vm) : gJ G n E U := ⟨h.1.to hU hW, by rw [hU]; exact h.2.1, h.2.2.moved hW.alike⟩
theorem gN.c (h : gN G n E s H locs) (he : ∀ k, k < n → E k = E1 k) : gN G n E1 s H locs := by
  obtain ⟨⟨h1, h2, h3, h4⟩, h5⟩ := h
  rw [gw_c he] at h2 h3
  exact ⟨⟨h1, h2, h3, h4⟩, h5⟩
/-- the world has grown or changed -/
theorem gN.next {n1 : Nat} (h : gN G n E s H locs) (hP : va_P G.1 gcl (gw n1 (adG G) E1) H1) (hz : H1.size = gb G + n1) (hS : va_S (gA G) s.heap H1 locs1) : gN G n1 E1 s H1 locs1 :=
  ⟨⟨h.1.1, hP, adG_D, hS, h.1.2.2.2.2⟩, hz, h.2.2⟩
theorem gN.hA (h : gN G n E s H locs) : ∀ q, s.heap.size ≤ q → gA G q := fun _ hq => Nat.le_trans h.1.2.2.2.2.2.1 hq
end GNS
section GZR
variable {p : Program} {l : Launch} {e : Env} {R : Room} {s : State} {m : MethodId} {args : Array Value} {below : List Frame} {meth : Method} {c : Code} {H : Heap} {locs : List Loc} {cells slots : Nat} {Q : State → Prop}
variable {cc : ByteArray} {pc nL : Nat} {ls : Array Slot} {rest : List Value} {own : String} {G : gP} {n : Nat} {E : Nat → va_E}
theorem z_grow {e1 : va_E} {H1 : Heap} (hO : gN G n E s H locs) (he : va_at G.1 gcl (H.size, e1) H1) (z1 : H1.size = H.size + 1) (o1 : ∀ q : Nat, q < H.size → H1[q]? = H[q]?) : gN G (n + 1) (va_up E n e1) s H1 locs := by
  have hk : ∀ (k : Nat) (x : Nat × va_E), (gw n (adG G) E)[k]? = some x → H1[x.1]? = H[x.1]? := fun k x hx => o1 x.1 ((hO.1.2.1 k x hx).lt)
  have hS := hO.1.S
  have hz := hO.2.1
  have hq : adG G n = H.size := hz.symm
  have had : va_up (adG G) n H.size = adG G := by
    funext k
    unfold va_up
    split
    · rename_i h
      rw [h]
      exact hz
    · rfl
  refine hO.next ?_ (by rw [z1, hz]; omega) ⟨Nat.le_trans hS.1 (by omega), fun x h1 h2 => (o1 x (Nat.lt_of_lt_of_le h1 hS.1)).trans (hS.2.1 x h1 h2), hS.2.2⟩
  have h1 : va_P G.1 gcl (gw n (adG G) E ++ [(H.size, e1)]) H1 := (hO.1.2.1.kept hk).app (fun k x hx => by
    have hz : k < 1 := (List.getElem?_eq_some_iff.mp hx).1
    rw [show k = 0 by omega] at hx
    cases hx
    exact he)
  rw [gw_push, had] at h1
  exact h1
theorem z_new (S : CallFix p m c cc nL s args gts own) (hO : gN G n E s H locs) {index ci : Nat} (hc : gcl[ci]? = some (gC ci)) (hin : ∀ w ∈ u_ws (gC ci).1 (gC ci).2.1 (gC ci).2.2, w ∈ gts) {ty0 : Nat → FieldType} (hty : ∀ k, k < (gC ci).2.2 → parseFieldDescriptor ((gC ci).2.1 k).2.2.1 = some (ty0 k)) (hl : Cond.classLink own index (gC ci).1 ∈ gts) (hi : Cond.instantiable (gC ci).1 (gC ci).2.2 ∈ gts) (ht : Cond.initialized (gC ci).1 ∈ gts)
    {fs : List Value} (hfs : ∀ j, j < (gC ci).2.2 → defaultValue (ty0 j) = vp_V fs j) (hR : cells + 1 ≤ R.cells ∧ slots + (gC ci).2.2 ≤ R.slots) (hdg : decode cc pc = .ok (.new index, 3))
    (kk : ∀ H1 : Heap, gN G (n + 1) (va_up E n (.inr (ci, fs))) s H1 locs → W p l e R s m args below meth c H1 locs (cells + 1) (slots + (gC ci).2.2) Q (F0 m (pc + 3) ls (.ref (adG G n) :: rest))) : W p l e R s m args below meth c H locs cells slots Q (F0 m pc ls rest) := by
  have hKn := hO.1.1.1 ci _ hc
  refine W.newcK S.1 S.2.1 S.2.2.2.1 (S.2.2.2.2 _ hl) (S.2.2.2.2 _ hi) (S.2.2.2.2 _ ht) rfl hdg hR.1 hR.2 hKn.2.1 hO.2.1 fun H1 kC hkC e1 z1 o1 => ?_
  refine kk H1 (z_grow hO ?_ (by rw [z1, hO.2.1]) (fun q hq => o1 q (by rw [← hO.2.1]; exact hq)))
  rw [hO.2.1]
  exact ⟨_, hc, (u_born ty0 S.2.2.2.2 hin hKn hkC e1 hty).to hfs⟩
theorem z_newa (S : CallFix p m c cc nL s args gts own) (hO : gN G n E s H locs) {atype : ArrayType} {ty : FieldType} (hty : newarray.typeOf atype = ty) (hw : Cond.arrayClass ty ∈ gts) {t0 : Nat} {cA : ClassId} (ht : (gtys G)[t0]? = some (cA, ty)) (hns : ∀ C, ty ≠ .object C)
    {x : Int32} {N' : Nat} {a0 : vp_A} (ha : ∀ cA : ClassId, vp_cell cA a0 = arrV cA N' (fun _ => defaultValue ty)) (hn : ¬ x < 0) (hN : x.toNatClampNeg = N') (hbytes : N' * componentBytes ty ≤ 536870912) (hR : cells + 1 ≤ R.cells ∧ slots + N' ≤ R.slots) (hdg : decode cc pc = .ok (.newarray atype, 2))
    (kk : ∀ H1 : Heap, gN G (n + 1) (va_up E n (.inl (cA, a0))) s H1 locs → W p l e R s m args below meth c H1 locs (cells + 1) (slots + N') Q (F0 m (pc + 2) ls (.ref (adG G n) :: rest))) : W p l e R s m args below meth c H locs cells slots Q (F0 m pc ls (.int x :: rest)) := by
  subst hty
  refine va_newaK S.1 S.2.1 (S.2.2.2.2 _ hw) rfl hdg rfl hn hN hbytes hR.1 hR.2 hO.2.1 fun H1 cB e1 z1 o1 hAr hNm => ?_
  have hRA := (hO.1.1.2 t0 _ ht).2
  have hcc : cB = cA := by
    have h2 : s.vm.findClass ("[" ++ (newarray.typeOf atype).toString) = some cA := by
      cases atype <;> exact hRA
    exact Option.some.inj (hNm.symm.trans h2)
  subst hcc
  refine kk H1 (z_grow hO ?_ (by rw [z1, hO.2.1]) (fun q hq => o1 q (by rw [← hO.2.1]; exact hq)))
  show H1[H.size]? = some (vp_cell _ _)
  rw [hO.2.1, ha]
  exact e1
theorem z_newq (S : CallFix p m c cc nL s args gts own) (hO : gN G n E s H locs) {C : String} {index : Nat} (hl : Cond.classLink own index C ∈ gts) (hover : va_AO C s) {t0 : Nat} {cA : ClassId} (ht : (gtys G)[t0]? = some (cA, .object C))
    {x : Int32} {N' : Nat} (hn : ¬ x < 0) (hN : x.toNatClampNeg = N') (hbytes : N' * 4 ≤ 536870912) (hR : cells + 1 ≤ R.cells ∧ slots + N' ≤ R.slots) (hdg : decode cc pc = .ok (.anewarray index, 3))
    (kk : ∀ H1 : Heap, gN G (n + 1) (va_up E n (.inl (cA, N', .inr (.inr (.inr (.inr (fun _ => none))))))) s H1 locs → W p l e R s m args below meth c H1 locs (cells + 1) (slots + N') Q (F0 m (pc + 3) ls (.ref (adG G n) :: rest))) : W p l e R s m args below meth c H locs cells slots Q (F0 m pc ls (.int x :: rest)) := by
  subst hN
  refine W.anew S.1 S.2.1 S.2.2.2.1 (S.2.2.2.2 _ hl) (va_AO.use hover) rfl hdg rfl hn hbytes hR.1 hR.2 fun cB kA comp f1 f2 f3 f4 => ?_
  obtain ⟨kB, cm, r1, r2, r3, r4⟩ := (hO.1.1.2 t0 _ ht).2
  have hcc : cB = cA := Option.some.inj (f1.symm.trans r4)
  subst hcc
  generalize hH1 : H.push ({ cls := cB, slots := Array.replicate x.toNatClampNeg .null, vm := .none } : Cell) = H1
  have z1 : H1.size = H.size + 1 := by rw [← hH1, Array.size_push]
  have e1 : H1[H.size]? = some (arrV cB x.toNatClampNeg (fun _ => .null)) := by rw [← hH1, Array.getElem?_push_size, ← arrV_new]
  have o1 : ∀ q : Nat, q < H.size → H1[q]? = H[q]? := fun q hq => by rw [← hH1, Array.getElem?_push, if_neg (Nat.ne_of_lt hq)]
  have hq : H.size = adG G n := hO.2.1
  have hg := z_grow (e1 := .inl (cB, x.toNatClampNeg, .inr (.inr (.inr (.inr (fun _ => none)))))) hO (by
    show H1[H.size]? = some (vp_cell _ _)
    rw [vp_cell_q]
    exact e1) z1 o1
  have hk := kk H1 hg
  rw [← hq] at hk
  exact hk
/-- a field is written; of a final one in a constructor alone -/
theorem z_put (S : CallFix p m c cc nL s args gts own) (hO : gN G n E s H locs) {index ci j k : Nat} {ty0 : Nat → FieldType} (hF : gFp own index ci j ty0) (hk : k < n) {fs : List Value} (hE : E k = .inr (ci, fs)) {v : Value} (hn : narrow (ty0 j) v = v) (hfit : fits (ty0 j) v = true) (hl : j < fs.length) (hdg : decode cc pc = .ok (.putfield index, 3))
    (kk : ∀ (H1 : Heap) (locs1 : List Loc), gN G n (va_up E k (.inr (ci, fs.set j v))) s H1 locs1 → W p l e R s m args below meth c H1 locs1 cells slots Q (F0 m (pc + 3) ls rest)) : W p l e R s m args below meth c H locs cells slots Q (F0 m pc ls (v :: .ref (adG G k) :: rest)) := by
  obtain ⟨⟨hc, hin, hj, hlk, hT⟩, hty, hnm, hfin⟩ := hF
  have hts := S.2.2.2.2
  have hap := va_apart (own := own) hts hin ty0 hty hnm hO.1.1 hc
  have he : (gw n (adG G) E)[k]? = some (adG G k, .inr (ci, fs)) := by rw [gw_at hk, hE]
  obtain ⟨r, h1, cell, q1, q2, q3, q4⟩ := hO.1.2.1 k _ he
  have hr : r = gC ci := Option.some.inj (h1.symm.trans hc)
  subst hr
  obtain ⟨hS, hfc, kC, hkC, hkind⟩ := hO.1.1.1 ci _ hc
  obtain ⟨cf, kf, fi, f, hi, hsl⟩ := hS j hj
  have hlay := hts _ (hin _ (u_in_lay hj))
  unfold u_lay at hlay
  rw [if_neg (by rw [hfin]; decide)] at hlay
  have hst := (u_facts hfc hkC (u_lays hts hin hj) hi).1
  have h6 := u_store hfc hkC hkind hlay hi (hty j hj) hn hfit
  refine W.putK (ref := (gC ci).1) S.1 S.2.1 (f := f) ⟨S.2.2.2.1, hts _ hlk, ⟨_, _, _, by rw [← hT]; rw [hT] at hi ⊢; exact hi⟩, hst⟩ (by rw [q2]; exact h6) q1 q3 (by rw [hsl]; exact k2_hasslot (q4 j hj)) rfl rfl hdg fun H' e1 e2 e3 => ?_
  rw [hsl] at e1 ⊢
  refine kk H' _ (hO.next ?_ (e2.trans hO.2.1) (hO.1.S.put e2 e3 (adG_D.2 k _ he)))
  have h2 := hO.1.2.1.set adG_D he (e := .inr (ci, fs.set j v)) ⟨_, hc, t_OB.to (V := updV (vp_V fs) j v) ⟨_, e1, q2, q3, t_set q4 hap hj v⟩ (fun j _ => vp_updV_set hl v j)⟩ e3
  rw [gw_set hk] at h2
  exact h2
theorem z_putF (S : CallFix p m c cc nL s args gts own) (hO : gN G n E s H locs) (hin2 : meth.name = "<init>") {index ci j k : Nat} {ty0 : Nat → FieldType} (hF : gF own index ci j) (hty : ∀ k, k < (gC ci).2.2 → parseFieldDescriptor ((gC ci).2.1 k).2.2.1 = some (ty0 k)) (hnm : ∀ a, a < (gC ci).2.2 → ∀ b, b < (gC ci).2.2 → a ≠ b → ((gC ci).2.1 a).2.1 ≠ ((gC ci).2.1 b).2.1) (hfin : ((gC ci).2.1 j).2.2.2 = true) (hdecl : ((gC ci).2.1 j).1 = own) (hk : k < n) {fs : List Value} (hE : E k = .inr (ci, fs)) {v : Value} (hn : narrow (ty0 j) v = v) (hfit : fits (ty0 j) v = true) (hl : j < fs.length) (hdg : decode cc pc = .ok (.putfield index, 3))
    (kk : ∀ (H1 : Heap) (locs1 : List Loc), gN G n (va_up E k (.inr (ci, fs.set j v))) s H1 locs1 → W p l e R s m args below meth c H1 locs1 cells slots Q (F0 m (pc + 3) ls rest)) : W p l e R s m args below meth c H locs cells slots Q (F0 m pc ls (v :: .ref (adG G k) :: rest)) := by
  obtain ⟨hc, hin, hj, hlk, hT⟩ := hF
  have hts := S.2.2.2.2
  have hown := S.2.2.2.1
  have hap := va_apart (own := own) hts hin ty0 hty hnm hO.1.1 hc
  have he : (gw n (adG G) E)[k]? = some (adG G k, .inr (ci, fs)) := by rw [gw_at hk, hE]
  obtain ⟨r, h1, cell, q1, q2, q3, q4⟩ := hO.1.2.1 k _ he
  have hr : r = gC ci := Option.some.inj (h1.symm.trans hc)
  subst hr
  obtain ⟨hS, hfc, kC, hkC, hkind⟩ := hO.1.1.1 ci _ hc
  obtain ⟨cf, kf, fi, f, hi, hsl⟩ := hS j hj
  have hlay := hts _ (hin _ (u_in_lay hj))
  unfold u_lay at hlay
  rw [if_pos hfin] at hlay
  have hst := (u_facts hfc hkC (u_lays hts hin hj) hi).1
  have hcf : m.cls = cf := by
    obtain ⟨_, _, c', _, _, _, -, -, hf', -, -, -, hown2, -⟩ := Cond.laysFinal_spec hlay
    have e1 : c' = cf := by have := hi.symm.trans hf'; simp at this; exact this.1.symm
    rw [hdecl] at hown2
    rw [← e1]; exact Option.some.inj (hown.symm.trans hown2)
  have h6 := u_fits hfc hkC hkind (Or.inr hlay) hi (hty j hj) hn hfit
  refine W.putFinK (ref := (gC ci).1) S.1 S.2.1 hown (hts _ hlk) (by rw [← hT]; rw [hT] at hi ⊢; exact hi) hst hcf hin2 (by rw [q2]; exact h6) q1 q3 (by rw [hsl]; exact k2_hasslot (q4 j hj)) rfl rfl hdg fun H' e1 e2 e3 => ?_
  rw [hsl] at e1 ⊢
  refine kk H' _ (hO.next ?_ (e2.trans hO.2.1) (hO.1.S.put e2 e3 (adG_D.2 k _ he)))
  have h2 := hO.1.2.1.set adG_D he (e := .inr (ci, fs.set j v)) ⟨_, hc, t_OB.to (V := updV (vp_V fs) j v) ⟨_, e1, q2, q3, t_set q4 hap hj v⟩ (fun j _ => vp_updV_set hl v j)⟩ e3
  rw [gw_set hk] at h2
  exact h2
theorem z_ias (S : CallFix p m c cc nL s args gts own) (hO : gN G n E s H locs) {k N : Nat} {f : Nat → Int32} (hk : k < n) (hE : E k = .inl (G.2.1 0, N, .inl f)) {i x : Int32} (hi : vp_in i N) (hdg : decode cc pc = .ok (.iastore, 1))
    (kk : ∀ (H1 : Heap) (locs1 : List Loc), gN G n (va_up E k (.inl (G.2.1 0, N, .inl (upd f i.toNatClampNeg x)))) s H1 locs1 → W p l e R s m args below meth c H1 locs1 cells slots Q (F0 m (pc + 1) ls rest)) : W p l e R s m args below meth c H locs cells slots Q (F0 m pc ls (.int x :: .int i :: .ref (adG G k) :: rest)) := by
  have he : (gw n (adG G) E)[k]? = some (adG G k, .inl (G.2.1 0, N, .inl f)) := by rw [gw_at hk, hE]
  refine W.iast S.1 S.2.1 (hO.1.2.1 k _ he) ((hO.1.1.2 0 (G.2.1 0, .int) rfl).1 N (fun j => .int (f j))) (fun q => by cases q) (by show ¬ (i < 0 ∨ (arrV _ _ _).slots.size ≤ _); rw [arrV_size]; exact hi) rfl rfl hdg fun H1 e z oq => ?_
  refine kk H1 _ (hO.next ?_ (z.trans hO.2.1) (hO.1.S.put z oq (adG_D.2 k _ he)))
  have h2 := hO.1.2.1.set adG_D he (e := .inl (G.2.1 0, N, .inl (upd f i.toNatClampNeg x))) (by
    show H1[adG G k]? = some (vp_cell _ _)
    rw [e]
    rw [vp_cell_i, vp_cell_i, arrV_store]
    congr 2
    funext q
    by_cases hq : q = i.toNatClampNeg
    · subst hq
      simp [updV, upd]
    · simp [updV, upd, hq]) oq
  rw [gw_set hk] at h2
  exact h2
theorem z_aas (S : CallFix p m c cc nL s args gts own) (hO : gN G n E s H locs) {k N k2 ci t0 : Nat} {cA : ClassId} {f : Nat → Option Nat} {vs : List Value} (hk : k < n) (hE : E k = .inl (cA, N, .inr (.inr (.inr (.inr f))))) (ht : (gtys G)[t0]? = some (cA, .object (gC ci).1)) (hk2 : k2 < n) (hE2 : E k2 = .inr (ci, vs)) (hc : gcl[ci]? = some (gC ci)) {i : Int32} (hi : vp_in i N) (hdg : decode cc pc = .ok (.aastore, 1))
    (kk : ∀ (H1 : Heap) (locs1 : List Loc), gN G n (va_up E k (.inl (cA, N, .inr (.inr (.inr (.inr (va_up f i.toNatClampNeg (some (adG G k2))))))))) s H1 locs1 → W p l e R s m args below meth c H1 locs1 cells slots Q (F0 m (pc + 1) ls rest)) : W p l e R s m args below meth c H locs cells slots Q (F0 m pc ls (.ref (adG G k2) :: .int i :: .ref (adG G k) :: rest)) := by
  have he : (gw n (adG G) E)[k]? = some (adG G k, .inl (cA, N, .inr (.inr (.inr (.inr f))))) := by rw [gw_at hk, hE]
  have hv : (gw n (adG G) E)[k2]? = some (adG G k2, .inr (ci, vs)) := by rw [gw_at hk2, hE2]
  have hlt : i.toNatClampNeg < N := Nat.not_le.mp fun q => hi (Or.inr q)
  have h0 : ¬ i < 0 := fun q => hi (Or.inl q)
  obtain ⟨r', hr', cellV, g1, g2, g3, -⟩ := hO.1.2.1 k2 _ hv
  have hcls := (hO.1.1.1 ci _ hc).2
  obtain ⟨kA, comp, k1, k3, k4, -⟩ := (hO.1.1.2 t0 _ ht).2
  have hcomp : comp = G.1.1 ci := Option.some.inj (k4.symm.trans hcls.1)
  subst hcomp
  obtain ⟨kC, hkC, -⟩ := hcls.2
  refine W.aast S.1 S.2.1 (hO.1.2.1 k _ he) (fun q h => by cases h) (fun h => by cases h) k1 k3 rfl hkC ⟨h0, by show _ < (arrV _ _ _).slots.size; rw [arrV_size]; exact hlt⟩ g1 (fun q h => by rw [g3] at h; cases h) (by rw [g2]; exact hkC) (by rw [g2]; exact va_assign hcls) rfl rfl hdg fun H1 e z oq => ?_
  refine kk H1 _ (hO.next ?_ (z.trans hO.2.1) (hO.1.S.put z oq (adG_D.2 k _ he)))
  have h2 := hO.1.2.1.set adG_D he (e := .inl (cA, N, .inr (.inr (.inr (.inr (va_up f i.toNatClampNeg (some (adG G k2)))))))) (by
    show H1[adG G k]? = some (vp_cell _ _)
    rw [e]
    rw [vp_cell_q, vp_cell_q, arrV_store]
    congr 2
    funext q
    by_cases hq : q = i.toNatClampNeg
    · subst hq
      simp [updV, va_up, va_rf]
    · simp [updV, va_up, hq]) oq
  rw [gw_set hk] at h2
  exact h2
end GZR
/-! Constructors: contracts, calls. -/
/-- a constructor of the cell k0 makes the cells k0+1 .. n1-1 and leaves the cells from k0 on as F has them -/
def gCt (l : Launch) (y : MethodName) (cc : ByteArray) (nL : Nat) (rm : Room) (G : gP) (k0 n1 mc ms : Nat) (E F : Nat → va_E) : Prop :=
  Met l y [.code y cc nL none] rm (va_Pc [.ref (adG G k0)] (gJ G (k0 + 1) E)) (va_Qv (fun _ : Unit => True) (fun _ t => va_P G.1 gcl (gw n1 (adG G) (fun k => if k < k0 then E k else F k)) t.heap ∧ t.heap.size = gb G + n1) (gA G)) mc ms (gA G)
section GCT
variable {l : Launch} {y : MethodName} {cc : ByteArray} {nL : Nat} {rm : Room} {G : gP} {k0 n1 mc ms : Nat} {E F : Nat → va_E}
theorem z_of (hy : plainName y.cls = true) (hyn : y.name = "<init>") (hn : 1 ≤ nL)
    (body : ∀ (p : Program) (e : Env) (s : State) (m : MethodId) (args : Array Value) (below : List Frame) (meth : Method) (c : Code) (ls : Array Slot), CallFix p m c cc nL s args gts y.cls → meth.locks = false → meth.sig.returnType = none → meth.name = "<init>" → lv_has ls nL [(0, .ref (adG G k0))] → gN G (k0 + 1) E s s.heap [] →
      W p l e rm s m args below meth c s.heap [] 0 0 (MQ below (va_Qv (fun _ : Unit => True) (fun _ t => va_P G.1 gcl (gw n1 (adG G) (fun k => if k < k0 then E k else F k)) t.heap ∧ t.heap.size = gb G + n1) (gA G)) args s mc ms (gA G)) (F0 m 0 ls [])) : gCt l y cc nL rm G k0 n1 mc ms E F := by
  refine Met.ofW (cc := cc) (maxL := nL) (ret := none) hy rfl ?_
  intro p e s m args below meth c s₁ B hml hP
  obtain ⟨rfl, hI, hz, ha⟩ := hP
  have hnm : meth.name = "<init>" := ((name_of_methodNamed B.named B.method).1).trans hyn
  rw [lg_entry_eq]
  exact body p e s m _ below meth c _ ⟨B.exec, B.bytes, hml, findClass_of_methodNamed B.named, hI.2.2.2.2.at _⟩ B.notSynchronized B.returns hnm (lv_entry [.ref (adG G k0)] hn) ⟨hI.start (fun _ h => h), hz, ha⟩
theorem z_ret {p : Program} {e : Env} {R : Room} {s : State} {m : MethodId} {args : Array Value} {below : List Frame} {meth : Method} {c : Code} {H : Heap} {locs : List Loc} {cells slots pc : Nat} {ls : Array Slot} {own : String} {E1 : Nat → va_E}
    (S : CallFix p m c cc nL s args gts own) (hk : meth.locks = false) (hr : meth.sig.returnType = none) (hO : gN G n1 E1 s H locs) (he : ∀ k, k < n1 → E1 k = if k < k0 then E k else F k) (hc : cells ≤ mc) (hs : slots ≤ ms) (hdg : decode cc pc = .ok (.return_, 1)) :
    W p l e R s m args below meth c H locs cells slots (MQ below (va_Qv (fun _ : Unit => True) (fun _ t => va_P G.1 gcl (gw n1 (adG G) (fun k => if k < k0 then E k else F k)) t.heap ∧ t.heap.size = gb G + n1) (gA G)) args s mc ms (gA G)) (F0 m pc ls []) := by
  have hO2 := hO.c he
  exact W.widen hc hs (W.vret S.1 S.2.1 hr (fun t ht _ => ⟨⟨(), rfl, trivial, (show va_P G.1 gcl (gw n1 (adG G) (fun k => if k < k0 then E k else F k)) t.heap ∧ t.heap.size = gb G + n1 from by rw [ht]; exact ⟨hO2.1.2.1, hO2.2.1⟩)⟩, hO.1.S.F ht⟩) hO.1.S.2.2 hdg hk)
end GCT
section GCI
variable {p : Program} {l : Launch} {e : Env} {R : Room} {s : State} {m : MethodId} {args : Array Value} {below : List Frame} {meth : Method} {c : Code} {H : Heap} {locs : List Loc} {cells slots : Nat} {Q : State → Prop}
variable {cc : ByteArray} {pc nL : Nat} {ls : Array Slot} {rest : List Value} {own : String} {G : gP} {E F : Nat → va_E} {y : MethodName} {bytes : ByteArray} {maxL mc ms index k0 n1 : Nat} {rm : Room}
theorem goodC (hc : Cond.code y bytes maxL none ∈ gts) : GoodIn gts [Cond.code y bytes maxL none] := fun w hw => by
  rw [List.mem_singleton.mp hw]
  exact ⟨hc, good_of_word (List.mem_filter.mp hc).2⟩
/-- a constructor is called: by its own link, or by a nest mate's -/
theorem z_ini (S : CallFix p m c cc nL s args gts own) (hO : gN G (k0 + 1) E s H locs) (hM : gCt l y bytes maxL rm G k0 n1 mc ms E F) (hrc : rm.cells = mc) (hrs : rm.slots = ms) (hc : Cond.code y bytes maxL none ∈ gts) (hini : Cond.initialized y.cls ∈ gts) (hl : Cond.methodLink own index y ∈ gts) (hin : Cond.instanceMethod y ∈ gts) (hy1 : y.name = "<init>") (hd : y.cls ≠ "java/lang/invoke/MethodHandle" ∧ y.cls ≠ "java/lang/invoke/VarHandle" ∧ (parseMethodDescriptor y.desc).map (fun d => d.parameters.length) = some 0)
    (hsz : ls.size = nL) (hrest : (rest.map fun v => v.category).sum ≤ 8) (hR : rm.frames + 1 ≤ R.frames ∧ 8 + (maxL + 11) + rm.locals ≤ R.locals) (hf : cells + mc ≤ R.cells ∧ slots + ms ≤ R.slots) (hdg : decode cc pc = .ok (.invokespecial index, 3))
    (kk : ∀ (H1 : Heap) (locs1 : List Loc), gN G n1 (fun k => if k < k0 then E k else F k) s H1 locs1 → W p l e R s m args below meth c H1 locs1 (cells + mc) (slots + ms) Q (F0 m (pc + 3) ls rest)) : W p l e R s m args below meth c H locs cells slots Q (F0 m pc ls (.ref (adG G k0) :: rest)) := by
  have hts := S.2.2.2.2
  refine va_callv (A0 := gA G) (A1 := gA G) (free := gA G) (va_runI (As := []) S hM (cwI 0 hts (goodC hc) rfl hrc hrs (hts _ hini) (hts _ hl) (hts _ hin) hy1 hd hR) ⟨gJ.blind, fun U hU hW => ⟨rfl, hO.to hU hW⟩⟩ rfl rfl hsz rfl (lv_room hrest) hdg hf) hO.1.S (fun _ _ h => h) (fun _ h => h) (fun u t H1 locs1 ht hv hp hb z1 z2 hS => ?_)
  rw [ht] at hb
  exact kk H1 locs1 (hO.next hb.1 hb.2 hS)
theorem z_iniN {host : String} (S : CallFix p m c cc nL s args gts own) (hO : gN G (k0 + 1) E s H locs) (hM : gCt l y bytes maxL rm G k0 n1 mc ms E F) (hrc : rm.cells = mc) (hrs : rm.slots = ms) (hc : Cond.code y bytes maxL none ∈ gts) (hini : Cond.initialized y.cls ∈ gts) (hl : Cond.methodLinkNest own index y host ∈ lw_tbl) (hin : Cond.instanceMethod y ∈ gts) (hy1 : y.name = "<init>") (hd : y.cls ≠ "java/lang/invoke/MethodHandle" ∧ y.cls ≠ "java/lang/invoke/VarHandle" ∧ (parseMethodDescriptor y.desc).map (fun d => d.parameters.length) = some 0)
    (hsz : ls.size = nL) (hrest : (rest.map fun v => v.category).sum ≤ 8) (hR : rm.frames + 1 ≤ R.frames ∧ 8 + (maxL + 11) + rm.locals ≤ R.locals) (hf : cells + mc ≤ R.cells ∧ slots + ms ≤ R.slots) (hdg : decode cc pc = .ok (.invokespecial index, 3))
    (kk : ∀ (H1 : Heap) (locs1 : List Loc), gN G n1 (fun k => if k < k0 then E k else F k) s H1 locs1 → W p l e R s m args below meth c H1 locs1 (cells + mc) (slots + ms) Q (F0 m (pc + 3) ls rest)) : W p l e R s m args below meth c H locs cells slots Q (F0 m pc ls (.ref (adG G k0) :: rest)) := by
  have hts := S.2.2.2.2
  have hnw := hO.1.2.2.2.2.2.2.2.1 _ hl rfl
  refine va_callv (A0 := gA G) (A1 := gA G) (free := gA G) (va_runIN (As := []) S hM ⟨va_cnB 0 hts (goodC hc) rfl hrc hrs hnw (hts _ hini) hd hR, hy1, hts _ hin⟩ ⟨gJ.blind, fun U hU hW => ⟨rfl, hO.to hU hW⟩⟩ rfl rfl hsz rfl (lv_room hrest) hdg hf) hO.1.S (fun _ _ h => h) (fun _ h => h) (fun u t H1 locs1 ht hv hp hb z1 z2 hS => ?_)
  rw [ht] at hb
  exact kk H1 locs1 (hO.next hb.1 hb.2 hS)
theorem z_obj (S : CallFix p m c cc nL s args gts own) {a : Addr} (hlink : Cond.methodLink own index Lib.objectInit ∈ gts) (hinst : Cond.instanceMethod Lib.objectInit ∈ gts) (hcode : Cond.code Lib.objectInit ⟨#[0xb1]⟩ 1 none ∈ gts) (hsz : ls.size = nL) (hframes : 1 ≤ R.frames) (hlocals : 20 ≤ R.locals) (hrest : (rest.map fun v => v.category).sum ≤ 8) (hdg : decode cc pc = .ok (.invokespecial index, 3))
    (kk : W p l e R s m args below meth c H locs cells slots Q (F0 m (pc + 3) ls rest)) : W p l e R s m args below meth c H locs cells slots Q (F0 m pc ls (.ref a :: rest)) := by
  have hm0 : 2 * (F0 m pc ls (.ref a :: rest)).monitorRoom + (rest.map fun v => v.category).sum ≤ 8 := lv_room hrest
  exact W.objInit S.1 S.2.1 S.2.2.2.1 (S.2.2.2.2 _ hlink) (S.2.2.2.2 _ hinst) (S.2.2.2.2 _ hcode) rfl (hsz.trans S.2.2.1.symm) rfl hdg hframes (by omega) kk
end GCI
