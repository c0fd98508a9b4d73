/-! The law's helpers: a call of the class, its exception turned into a number. Written by wip/tools/m54.py. -/
def ncJ (U : State) : Prop := va_Nc "java/lang/UnsupportedOperationException" "java/lang/IllegalArgumentException" U ∧ va_Nc "java/lang/IllegalArgumentException" "java/util/NoSuchElementException" U ∧ va_Nc "java/lang/IllegalStateException" "java/util/NoSuchElementException" U ∧ va_Nc "java/lang/IllegalStateException" "java/lang/IllegalArgumentException" U ∧ va_Nc "java/lang/UnsupportedOperationException" "java/util/NoSuchElementException" U
theorem ncJ.moved {u U : State} (hvm : u.vm.Alike U.vm) (h : ncJ u) : ncJ U := ⟨h.1.moved hvm, h.2.1.moved hvm, h.2.2.1.moved hvm, h.2.2.2.1.moved hvm, h.2.2.2.2.moved hvm⟩
theorem kq_IAE : Cond.castable "java/lang/IllegalArgumentException" "java/lang/IllegalArgumentException" ∈ lw_tbl := gd_3 63 rfl
theorem kq_UOE : Cond.castable "java/lang/UnsupportedOperationException" "java/lang/UnsupportedOperationException" ∈ lw_tbl := gd_3 151 rfl
theorem kq_ISE : Cond.castable "java/lang/IllegalStateException" "java/lang/IllegalStateException" ∈ lw_tbl := gd_3 201 rfl
theorem kq_NSE : Cond.castable "java/util/NoSuchElementException" "java/util/NoSuchElementException" ∈ lw_tbl := gd_3 180 rfl
def gH (l : Launch) (y : MethodName) (w : Cond) (rm : Room) (G : gP) (ad : Nat → Nat) (σ : Nat → Nat → Int32) (τ : Nat → Nat → Int64) (av : List Value) (mc ms : Nat) (post : Option Value → (Nat → Nat → Int32) → (Nat → Nat → Int64) → Prop) : Prop :=
  gK l y w rm (va_Pc av (fun U => gI G 159 ad (enc G ad σ τ) U ∧ ncJ U)) (gA G) mc ms (fun v t => ∃ σ1 τ1, post v σ1 τ1 ∧ va_P G.1 gcl (gw 159 ad (enc G ad σ1 τ1)) t.heap) (fun _ _ => False)
section HOF
variable {l : Launch} {y : MethodName} {cc : ByteArray} {nL : Nat} {ret : Option FieldType} {hh : List (Nat × Nat × Nat × Nat)} {rm : Room} {G : gP} {ad : Nat → Nat} {σ : Nat → Nat → Int32} {τ : Nat → Nat → Int64} {av : List Value} {mc ms : Nat} {post : Option Value → (Nat → Nat → Int32) → (Nat → Nat → Int64) → Prop}
theorem h_of (hy : plainName y.cls = true) (hn : (lg_sl av).length ≤ nL)
    (body : ∀ (p : Program) (e : Env) (s : State) (m : MethodId) (args : Array Value) (below : List Frame) (meth : Method) (c : Code) (ls : Array Slot), CallFix p m c cc nL s args gts y.cls → meth.locks = false → meth.sig.returnType = ret → c.exceptionTable.toList.map (fun h => (h.startPc, h.endPc, h.handlerPc, h.catchType)) = hh → ncJ s → lv_has ls nL (lv_args 0 av) → gO G (gA G) 159 ad (enc G ad σ τ) s s.heap [] →
      W p l e rm s m args below meth c s.heap [] 0 0 (gM below (gA G) mc ms (fun v t => ∃ σ1 τ1, post v σ1 τ1 ∧ va_P G.1 gcl (gw 159 ad (enc G ad σ1 τ1)) t.heap) (fun _ _ => False) args s) (F0 m 0 ls [])) : gH l y (.codeWith y cc nL ret hh) rm G ad σ τ av mc ms post := by
  refine gK_ofW hy ?_
  intro p e s m args below meth c s₁ B hml hP
  obtain ⟨rfl, hI, hN⟩ := hP
  have hcode : (Cond.codeWith y cc nL ret hh).before av.toArray s = true := atoms_spec (ws := [Cond.codeWith y cc nL ret hh]) B.pre _ List.mem_cons_self
  obtain ⟨m9, meth9, c9, hn9, h1, h2, h3, h4, hmap, h5, h6, -⟩ := Cond.codeWith_spec hcode
  have hmm := B.named.symm.trans hn9
  cases hmm
  have e1 := B.method.symm.trans h1
  cases e1
  have e2 := (Stand.of_body B).code.symm.trans h2
  cases e2
  rw [lg_entry_eq]
  exact body p e s m _ below meth c _ ⟨B.exec, B.bytes, hml, findClass_of_methodNamed B.named, hI.2.2.2.2.at _⟩ B.notSynchronized B.returns hmap hN (lv_entry av hn) (hI.start (fun _ h => h))
end HOF
theorem gH.blind {G : gP} {ad : Nat → Nat} {E : Nat → va_E} {n : Nat} {av : List Value} : FrameBlind (va_Pc av (fun U => gI G n ad E U ∧ ncJ U)) := by
  intro a U g mk ⟨h0, h1, h2⟩
  have hb : va_Pc av (gI G n ad E) a (U.calling g mk a) := gI.blind a U g mk ⟨h0, h1⟩
  exact ⟨h0, hb.2, h2.moved (U := U.calling g mk a) (Vm.Alike.refl U.vm)⟩
section HCA
variable {p : Program} {l : Launch} {e : Env} {R : Room} {s : State} {m : MethodId} {args : Array Value} {below : List Frame} {meth : Method} {c : Code} {H : Heap} {locs : List Loc} {cells slots : Nat} {Q : State → Prop}
variable {cc : ByteArray} {pc nL : Nat} {ls : Array Slot} {rest : List Value} {own : String} {G : gP} {A : Nat → Prop} {n : Nat} {ad : Nat → Nat} {E : Nat → va_E}
theorem h_catch (S : CallFix p m c cc nL s args gts own) (hO : gO G A n ad E s H locs) {X : String} {ce : Cell} {q : Addr} (pre0 : List (Nat × Nat × Nat × Nat)) {st en hp ct : Nat} {suf0 : List (Nat × Nat × Nat × Nat)} (hmap : c.exceptionTable.toList.map (fun h => (h.startPc, h.endPc, h.handlerPc, h.catchType)) = pre0 ++ (st, en, hp, ct) :: suf0)
    (hpass : ∀ z ∈ pre0, z.1 ≤ pc ∧ pc < z.2.1 ∧ z.2.2.2 ≠ 0 ∧ ∃ nm : String, Cond.classLink own z.2.2.2 nm ∈ gts ∧ va_Nc X nm s) (hst : st ≤ pc ∧ pc < en ∧ ct ≠ 0) (hlink : Cond.classLink own ct X ∈ gts) (hcast : Cond.castable X X ∈ lw_tbl) (hcell : H[q]? = some ce) (hv : ce.vm = .none) (hcl : s.vm.findClass X = some ce.cls)
    (kk : W p l e R s m args below meth c H locs cells slots Q (F0 m hp ls [.ref q])) : gX p l e R s m args below meth c H locs cells slots Q (F0 m pc ls rest) q := by
  obtain ⟨pre, l2, e1, e2, e3⟩ := List.map_eq_append_iff.mp hmap
  obtain ⟨x, suf, e4, e5, e6⟩ := List.map_eq_cons_iff.mp e3
  subst e4
  have f1 : x.startPc = st := congrArg (fun z => z.1) e5
  have f2 : x.endPc = en := congrArg (fun z => z.2.1) e5
  have f3 : x.handlerPc = hp := congrArg (fun z => z.2.2.1) e5
  have f4 : x.catchType = ct := congrArg (fun z => z.2.2.2) e5
  refine gh_catch (own := own) (name := X) (E9 := X) S.2.2.2.1 pre x suf e1 (fun z hz => ?_) ?_ (by rw [f4]; exact hst.2.2) (by rw [f4]; exact S.2.2.2.2 _ hlink) (va_Nw.use rfl (hO.2.2.2.2.2.2.2.1 _ hcast rfl)) hcell hv hcl (by rw [f3]; exact kk)
  · obtain ⟨g1, g2, g3, nm, g4, g5⟩ := hpass (z.startPc, z.endPc, z.handlerPc, z.catchType) (by rw [← e2]; exact List.mem_map_of_mem hz)
    refine ⟨?_, g3, nm, S.2.2.2.2 _ g4, g5⟩
    unfold covers
    rw [decide_eq_true g1, decide_eq_true g2]
    rfl
  · unfold covers
    rw [f1, f2, decide_eq_true hst.1, decide_eq_true hst.2.1]
    rfl
end HCA
theorem up2L_s {τ : Nat → Nat → Int64} {k j : Nat} {v : Int64} : up2L τ k j v k j = v := (up2L_at τ k j v k j).trans (if_pos ⟨rfl, rfl⟩)
theorem h_place (l : Launch) (hst : l.stackTraces = false) (G : gP) (ad : Nat → Nat) (σ : Nat → Nat → Int32) (τ : Nat → Nat → Int64) (a b d f : Int32) : gH l y_LW_place (.codeWith y_LW_place c_LW_place 6 (some .int) [(0, 9, 12, 13)]) { frames := 9, cells := 4, slots := 24, locals := 159 } G ad σ τ [.ref (ad 0), .int a, .int b, .int d, .int f] 4 24 (fun v σ1 τ1 => ∃ z, v = some (.int z) ∧ hpl σ a b d f z σ1) := by
  refine h_of (by decide) (Nat.le_of_ble_eq_true rfl) ?_
  intro p e s m args below meth c ls S hk hr hmap hN hl hO
  have hl : lv_has ls 6 [(0, .ref (ad 0)), (1, .int a), (2, .int b), (3, .int d), (4, .int f)] := hl
  refine lv_aload_n S.1 S.2.1 d_LW_place_0 rfl (lv_at hl 0 rfl) ?_
  refine lv_iload_n S.1 S.2.1 d_LW_place_1 rfl (lv_at hl 1 rfl) ?_
  refine lv_iload_n S.1 S.2.1 d_LW_place_2 rfl (lv_at hl 2 rfl) ?_
  refine lv_iload_n S.1 S.2.1 d_LW_place_3 rfl (lv_at hl 3 rfl) ?_
  refine lv_iload S.1 S.2.1 d_LW_place_4 (lv_at hl 4 rfl) ?_
  refine g_VI (As := [.int a, .int b, .int d, .int f]) (rest := []) S hO (fun _ h => h) (k_PR_place l hst G ad σ τ a b d f) cw_LW_7 (k := 0) (by decide) (sh_0 G ad _ _) rfl rfl hl.1 (Nat.le_of_ble_eq_true rfl) ⟨(Nat.le_of_ble_eq_true rfl), (Nat.le_of_ble_eq_true rfl)⟩ ⟨(Nat.le_of_ble_eq_true rfl), (Nat.le_of_ble_eq_true rfl)⟩ d_LW_place_6 (fun q x ce H locs hx hO hce hcv hcl => ?_) (fun v E1 H locs hp hO => ?_)
  · obtain ⟨rfl, hP⟩ := hx
    refine h_catch S hO [] (st := 0) (en := 9) (hp := 12) (ct := 13) hmap (fun z hz => absurd hz List.not_mem_nil) ⟨by decide, by decide, by decide⟩ kk_LW_13 kq_IAE hce hcv hcl ?_
    refine lv_astore (lv' := [(5, .ref q), (0, .ref (ad 0)), (1, .int a), (2, .int b), (3, .int d), (4, .int f)]) S.1 S.2.1 d_LW_place_12 hl (by decide) rfl (fun ls hl => ?_)
    refine lv_iconst (v := 1) S.1 S.2.1 d_LW_place_14 (by decide) ?_
    exact g_iret S hr hk hO.S (fun t ht => ⟨σ, τ, ⟨1, rfl, .inr ⟨rfl, hP, rfl⟩⟩, by rw [ht]; exact hO.2.1⟩) (Nat.le_of_ble_eq_true rfl) (Nat.le_of_ble_eq_true rfl) d_LW_place_15
  · obtain ⟨σ1, τ1, rfl, rfl, hP, rfl, -⟩ := hp
    refine W.eq (g2 := F0 m 9 ls []) rfl ?_
    refine lv_goto (tgt := 16) S.1 S.2.1 d_LW_place_9 (by decide) ?_
    refine lv_iconst (v := 0) S.1 S.2.1 d_LW_place_16 (by decide) ?_
    exact g_iret S hr hk hO.S (fun t ht => ⟨_, _, ⟨0, rfl, .inl ⟨rfl, hP, rfl⟩⟩, by rw [ht]; exact hO.2.1⟩) (Nat.le_of_ble_eq_true rfl) (Nat.le_of_ble_eq_true rfl) d_LW_place_17
theorem h_limit (l : Launch) (hst : l.stackTraces = false) (G : gP) (ad : Nat → Nat) (σ : Nat → Nat → Int32) (τ : Nat → Nat → Int64) (a b d : Int32) : gH l y_LW_limit (.codeWith y_LW_limit c_LW_limit 5 (some .int) [(0, 7, 10, 13)]) { frames := 9, cells := 3, slots := 18, locals := 155 } G ad σ τ [.ref (ad 0), .int a, .int b, .int d] 3 18 (fun v σ1 τ1 => ∃ z, v = some (.int z) ∧ hli σ a b d z σ1) := by
  refine h_of (by decide) (Nat.le_of_ble_eq_true rfl) ?_
  intro p e s m args below meth c ls S hk hr hmap hN hl hO
  have hl : lv_has ls 5 [(0, .ref (ad 0)), (1, .int a), (2, .int b), (3, .int d)] := hl
  refine lv_aload_n S.1 S.2.1 d_LW_limit_0 rfl (lv_at hl 0 rfl) ?_
  refine lv_iload_n S.1 S.2.1 d_LW_limit_1 rfl (lv_at hl 1 rfl) ?_
  refine lv_iload_n S.1 S.2.1 d_LW_limit_2 rfl (lv_at hl 2 rfl) ?_
  refine lv_iload_n S.1 S.2.1 d_LW_limit_3 rfl (lv_at hl 3 rfl) ?_
  refine g_VI (As := [.int a, .int b, .int d]) (rest := []) S hO (fun _ h => h) (k_PR_limit l hst G ad σ τ a b d) cw_LW_15 (k := 0) (by decide) (sh_0 G ad _ _) rfl rfl hl.1 (Nat.le_of_ble_eq_true rfl) ⟨(Nat.le_of_ble_eq_true rfl), (Nat.le_of_ble_eq_true rfl)⟩ ⟨(Nat.le_of_ble_eq_true rfl), (Nat.le_of_ble_eq_true rfl)⟩ d_LW_limit_4 (fun q x ce H locs hx hO hce hcv hcl => ?_) (fun v E1 H locs hp hO => ?_)
  · obtain ⟨rfl, hP⟩ := hx
    refine h_catch S hO [] (st := 0) (en := 7) (hp := 10) (ct := 13) hmap (fun z hz => absurd hz List.not_mem_nil) ⟨by decide, by decide, by decide⟩ kk_LW_13 kq_IAE hce hcv hcl ?_
    refine lv_astore (lv' := [(4, .ref q), (0, .ref (ad 0)), (1, .int a), (2, .int b), (3, .int d)]) S.1 S.2.1 d_LW_limit_10 hl (by decide) rfl (fun ls hl => ?_)
    refine lv_iconst (v := 1) S.1 S.2.1 d_LW_limit_12 (by decide) ?_
    exact g_iret S hr hk hO.S (fun t ht => ⟨σ, τ, ⟨1, rfl, .inr ⟨rfl, hP, rfl⟩⟩, by rw [ht]; exact hO.2.1⟩) (Nat.le_of_ble_eq_true rfl) (Nat.le_of_ble_eq_true rfl) d_LW_limit_13
  · obtain ⟨σ1, τ1, rfl, rfl, hP, rfl, -⟩ := hp
    refine W.eq (g2 := F0 m 7 ls []) rfl ?_
    refine lv_goto (tgt := 14) S.1 S.2.1 d_LW_limit_7 (by decide) ?_
    refine lv_iconst (v := 0) S.1 S.2.1 d_LW_limit_14 (by decide) ?_
    exact g_iret S hr hk hO.S (fun t ht => ⟨_, _, ⟨0, rfl, .inl ⟨rfl, hP, rfl⟩⟩, by rw [ht]; exact hO.2.1⟩) (Nat.le_of_ble_eq_true rfl) (Nat.le_of_ble_eq_true rfl) d_LW_limit_15
theorem h_unit (l : Launch) (hst : l.stackTraces = false) (G : gP) (ad : Nat → Nat) (σ : Nat → Nat → Int32) (τ : Nat → Nat → Int64) (a b d : Int32) (nu : Nat) (hnu : σ 0 2 = nI nu) (hn4 : nu ≤ 40) : gH l y_LW_unit (.codeWith y_LW_unit c_LW_unit 6 (some .int) [(0, 12, 15, 13), (0, 12, 19, 23)]) { frames := 8, cells := 4, slots := 24, locals := 136 } G ad σ τ [.ref (ad 0), .int a, .int b, .int d, .ref (ad 158)] 4 24 (fun v σ1 τ1 => ∃ z x, v = some (.int z) ∧ hun σ nu a b d z x σ1 ∧ (z = 0 → τ1 158 0 = x.toInt64)) := by
  refine h_of (by decide) (Nat.le_of_ble_eq_true rfl) ?_
  intro p e s m args below meth c ls S hk hr hmap hN hl hO
  have hl : lv_has ls 6 [(0, .ref (ad 0)), (1, .int a), (2, .int b), (3, .int d), (4, .ref (ad 158))] := hl
  refine lv_aload S.1 S.2.1 d_LW_unit_0 (lv_at hl 4 rfl) ?_
  refine lv_iconst (v := 0) S.1 S.2.1 d_LW_unit_2 (by decide) ?_
  refine lv_aload_n S.1 S.2.1 d_LW_unit_3 rfl (lv_at hl 0 rfl) ?_
  refine lv_iload_n S.1 S.2.1 d_LW_unit_4 rfl (lv_at hl 1 rfl) ?_
  refine lv_iload_n S.1 S.2.1 d_LW_unit_5 rfl (lv_at hl 2 rfl) ?_
  refine lv_iload_n S.1 S.2.1 d_LW_unit_6 rfl (lv_at hl 3 rfl) ?_
  refine g_VI (As := [.int a, .int b, .int d]) (rest := [.int 0, .ref (ad 158)]) S hO (fun _ h => h) (k_PR_unit l hst G ad σ τ a b d nu hnu hn4) cw_LW_19 (k := 0) (by decide) (sh_0 G ad _ _) rfl rfl hl.1 (Nat.le_of_ble_eq_true rfl) ⟨(Nat.le_of_ble_eq_true rfl), (Nat.le_of_ble_eq_true rfl)⟩ ⟨(Nat.le_of_ble_eq_true rfl), (Nat.le_of_ble_eq_true rfl)⟩ d_LW_unit_7 (fun q x ce H locs hx hO hce hcv hcl => ?_) (fun v E1 H locs hp hO => ?_)
  · rcases hx with ⟨rfl, hP⟩ | ⟨hP, rfl, hlt⟩
    · refine h_catch S hO [] (st := 0) (en := 12) (hp := 15) (ct := 13) hmap (fun z hz => absurd hz List.not_mem_nil) ⟨by decide, by decide, by decide⟩ kk_LW_13 kq_IAE hce hcv hcl ?_
      refine lv_astore (lv' := [(5, .ref q), (0, .ref (ad 0)), (1, .int a), (2, .int b), (3, .int d), (4, .ref (ad 158))]) S.1 S.2.1 d_LW_unit_15 hl (by decide) rfl (fun ls hl => ?_)
      refine lv_iconst (v := 1) S.1 S.2.1 d_LW_unit_17 (by decide) ?_
      exact g_iret S hr hk hO.S (fun t ht => ⟨σ, τ, ⟨1, 0, rfl, .inr (.inl ⟨rfl, hP, rfl⟩), fun h => absurd h (by decide)⟩, by rw [ht]; exact hO.2.1⟩) (Nat.le_of_ble_eq_true rfl) (Nat.le_of_ble_eq_true rfl) d_LW_unit_18
    · refine h_catch S hO [(0, 12, 15, 13)] (st := 0) (en := 12) (hp := 19) (ct := 23) hmap (fun z hz => by
        rcases List.mem_cons.mp hz with rfl | hz
        · exact ⟨by decide, by decide, by decide, _, kk_LW_13, hN.1⟩
        exact absurd hz List.not_mem_nil) ⟨by decide, by decide, by decide⟩ kk_LW_23 kq_UOE hce hcv hcl ?_
      refine lv_astore (lv' := [(5, .ref q), (0, .ref (ad 0)), (1, .int a), (2, .int b), (3, .int d), (4, .ref (ad 158))]) S.1 S.2.1 d_LW_unit_19 hl (by decide) rfl (fun ls hl => ?_)
      refine lv_iconst (v := 2) S.1 S.2.1 d_LW_unit_21 (by decide) ?_
      exact g_iret S hr hk hO.S (fun t ht => ⟨σ, τ, ⟨2, 0, rfl, .inr (.inr ⟨rfl, hP, hlt, rfl⟩), fun h => absurd h (by decide)⟩, by rw [ht]; exact hO.2.1⟩) (Nat.le_of_ble_eq_true rfl) (Nat.le_of_ble_eq_true rfl) d_LW_unit_22
  · obtain ⟨σ1, τ1, rfl, rfl, hP, hlt, rfl, -⟩ := hp
    refine W.eq (g2 := F0 m 10 ls [.int _, .int 0, .ref (ad 158)]) rfl ?_
    refine lv_i2l S.1 S.2.1 d_LW_unit_10 rfl ?_
    refine g_las S hO (fun _ h => h) (k := 158) (N := 1) (i := 0) (by decide) (sh_158 G ad _ _) (vp_in_nI (n := 0) (by decide) (by decide)) (enc_l (j := 0) rfl) d_LW_unit_11 (fun H locs hO => ?_)
    refine lv_goto (tgt := 23) S.1 S.2.1 d_LW_unit_12 (by decide) ?_
    refine lv_iconst (v := 0) S.1 S.2.1 d_LW_unit_23 (by decide) ?_
    exact g_iret S hr hk hO.S (fun t ht => ⟨_, _, ⟨0, _, rfl, .inl ⟨rfl, rfl, hP, hlt, rfl⟩, fun _ => up2L_s⟩, by rw [ht]; exact hO.2.1⟩) (Nat.le_of_ble_eq_true rfl) (Nat.le_of_ble_eq_true rfl) d_LW_unit_24
theorem h_size (l : Launch) (hst : l.stackTraces = false) (G : gP) (ad : Nat → Nat) (σ : Nat → Nat → Int32) (τ : Nat → Nat → Int64) (a b d f g : Int32) (nu : Nat) (hnu : σ 0 2 = nI nu) (hn4 : nu ≤ 40) : gH l y_LW_size (.codeWith y_LW_size c_LW_size 7 (some .int) [(0, 11, 14, 29), (0, 11, 18, 13), (0, 11, 22, 31)]) { frames := 9, cells := 6, slots := 36, locals := 160 } G ad σ τ [.ref (ad 0), .int a, .int b, .int d, .int f, .int g] 6 36 (fun v σ1 τ1 => ∃ z, v = some (.int z) ∧ hsz σ a b d f g z σ1) := by
  refine h_of (by decide) (Nat.le_of_ble_eq_true rfl) ?_
  intro p e s m args below meth c ls S hk hr hmap hN hl hO
  have hl : lv_has ls 7 [(0, .ref (ad 0)), (1, .int a), (2, .int b), (3, .int d), (4, .int f), (5, .int g)] := hl
  refine lv_aload_n S.1 S.2.1 d_LW_size_0 rfl (lv_at hl 0 rfl) ?_
  refine lv_iload_n S.1 S.2.1 d_LW_size_1 rfl (lv_at hl 1 rfl) ?_
  refine lv_iload_n S.1 S.2.1 d_LW_size_2 rfl (lv_at hl 2 rfl) ?_
  refine lv_iload_n S.1 S.2.1 d_LW_size_3 rfl (lv_at hl 3 rfl) ?_
  refine lv_iload S.1 S.2.1 d_LW_size_4 (lv_at hl 4 rfl) ?_
  refine lv_iload S.1 S.2.1 d_LW_size_6 (lv_at hl 5 rfl) ?_
  refine g_VI (As := [.int a, .int b, .int d, .int f, .int g]) (rest := []) S hO (fun _ h => h) (k_PR_size l hst G ad σ τ a b d f g nu hnu hn4) cw_LW_25 (k := 0) (by decide) (sh_0 G ad _ _) rfl rfl hl.1 (Nat.le_of_ble_eq_true rfl) ⟨(Nat.le_of_ble_eq_true rfl), (Nat.le_of_ble_eq_true rfl)⟩ ⟨(Nat.le_of_ble_eq_true rfl), (Nat.le_of_ble_eq_true rfl)⟩ d_LW_size_8 (fun q x ce H locs hx hO hce hcv hcl => ?_) (fun v E1 H locs hp hO => ?_)
  · rcases hx with ⟨rfl, hU⟩ | ⟨hU, rfl, hP⟩ | ⟨hU, hP, rfl, h10⟩
    · refine h_catch S hO [] (st := 0) (en := 11) (hp := 14) (ct := 29) hmap (fun z hz => absurd hz List.not_mem_nil) ⟨by decide, by decide, by decide⟩ kk_LW_29 kq_NSE hce hcv hcl ?_
      refine lv_astore (lv' := [(6, .ref q), (0, .ref (ad 0)), (1, .int a), (2, .int b), (3, .int d), (4, .int f), (5, .int g)]) S.1 S.2.1 d_LW_size_14 hl (by decide) rfl (fun ls hl => ?_)
      refine lv_iconst (v := 1) S.1 S.2.1 d_LW_size_16 (by decide) ?_
      exact g_iret S hr hk hO.S (fun t ht => ⟨σ, τ, ⟨1, rfl, .inr (.inl ⟨rfl, hU, rfl⟩)⟩, by rw [ht]; exact hO.2.1⟩) (Nat.le_of_ble_eq_true rfl) (Nat.le_of_ble_eq_true rfl) d_LW_size_17
    · refine h_catch S hO [(0, 11, 14, 29)] (st := 0) (en := 11) (hp := 18) (ct := 13) hmap (fun z hz => by
        rcases List.mem_cons.mp hz with rfl | hz
        · exact ⟨by decide, by decide, by decide, _, kk_LW_29, hN.2.1⟩
        exact absurd hz List.not_mem_nil) ⟨by decide, by decide, by decide⟩ kk_LW_13 kq_IAE hce hcv hcl ?_
      refine lv_astore (lv' := [(6, .ref q), (0, .ref (ad 0)), (1, .int a), (2, .int b), (3, .int d), (4, .int f), (5, .int g)]) S.1 S.2.1 d_LW_size_18 hl (by decide) rfl (fun ls hl => ?_)
      refine lv_iconst (v := 2) S.1 S.2.1 d_LW_size_20 (by decide) ?_
      exact g_iret S hr hk hO.S (fun t ht => ⟨σ, τ, ⟨2, rfl, .inr (.inr (.inl ⟨rfl, hU, hP, rfl⟩))⟩, by rw [ht]; exact hO.2.1⟩) (Nat.le_of_ble_eq_true rfl) (Nat.le_of_ble_eq_true rfl) d_LW_size_21
    · refine h_catch S hO [(0, 11, 14, 29), (0, 11, 18, 13)] (st := 0) (en := 11) (hp := 22) (ct := 31) hmap (fun z hz => by
        rcases List.mem_cons.mp hz with rfl | hz
        · exact ⟨by decide, by decide, by decide, _, kk_LW_29, hN.2.2.1⟩
        rcases List.mem_cons.mp hz with rfl | hz
        · exact ⟨by decide, by decide, by decide, _, kk_LW_13, hN.2.2.2.1⟩
        exact absurd hz List.not_mem_nil) ⟨by decide, by decide, by decide⟩ kk_LW_31 kq_ISE hce hcv hcl ?_
      refine lv_astore (lv' := [(6, .ref q), (0, .ref (ad 0)), (1, .int a), (2, .int b), (3, .int d), (4, .int f), (5, .int g)]) S.1 S.2.1 d_LW_size_22 hl (by decide) rfl (fun ls hl => ?_)
      refine lv_iconst (v := 3) S.1 S.2.1 d_LW_size_24 (by decide) ?_
      exact g_iret S hr hk hO.S (fun t ht => ⟨σ, τ, ⟨3, rfl, .inr (.inr (.inr ⟨rfl, hU, hP, h10, rfl⟩))⟩, by rw [ht]; exact hO.2.1⟩) (Nat.le_of_ble_eq_true rfl) (Nat.le_of_ble_eq_true rfl) d_LW_size_25
  · obtain ⟨σ1, τ1, rfl, rfl, hU, hP, h10, rfl, -⟩ := hp
    refine W.eq (g2 := F0 m 11 ls []) rfl ?_
    refine lv_goto (tgt := 26) S.1 S.2.1 d_LW_size_11 (by decide) ?_
    refine lv_iconst (v := 0) S.1 S.2.1 d_LW_size_26 (by decide) ?_
    exact g_iret S hr hk hO.S (fun t ht => ⟨_, _, ⟨0, rfl, .inl ⟨rfl, hU, hP, h10, rfl⟩⟩, by rw [ht]; exact hO.2.1⟩) (Nat.le_of_ble_eq_true rfl) (Nat.le_of_ble_eq_true rfl) d_LW_size_27
theorem h_nature (l : Launch) (hst : l.stackTraces = false) (G : gP) (ad : Nat → Nat) (σ : Nat → Nat → Int32) (τ : Nat → Nat → Int64) (a b d f : Int32) (nu : Nat) (hnu : σ 0 2 = nI nu) (hn4 : nu ≤ 40) : gH l y_LW_nature (.codeWith y_LW_nature c_LW_nature 6 (some .int) [(0, 9, 12, 29), (0, 9, 16, 13), (0, 9, 20, 31)]) { frames := 8, cells := 6, slots := 36, locals := 137 } G ad σ τ [.ref (ad 0), .int a, .int b, .int d, .int f] 6 36 (fun v σ1 τ1 => ∃ z, v = some (.int z) ∧ hnt σ a b d f z σ1) := by
  refine h_of (by decide) (Nat.le_of_ble_eq_true rfl) ?_
  intro p e s m args below meth c ls S hk hr hmap hN hl hO
  have hl : lv_has ls 6 [(0, .ref (ad 0)), (1, .int a), (2, .int b), (3, .int d), (4, .int f)] := hl
  refine lv_aload_n S.1 S.2.1 d_LW_nature_0 rfl (lv_at hl 0 rfl) ?_
  refine lv_iload_n S.1 S.2.1 d_LW_nature_1 rfl (lv_at hl 1 rfl) ?_
  refine lv_iload_n S.1 S.2.1 d_LW_nature_2 rfl (lv_at hl 2 rfl) ?_
  refine lv_iload_n S.1 S.2.1 d_LW_nature_3 rfl (lv_at hl 3 rfl) ?_
  refine lv_iload S.1 S.2.1 d_LW_nature_4 (lv_at hl 4 rfl) ?_
  refine g_VI (As := [.int a, .int b, .int d, .int f]) (rest := []) S hO (fun _ h => h) (k_PR_nature l hst G ad σ τ a b d f nu hnu hn4) cw_LW_33 (k := 0) (by decide) (sh_0 G ad _ _) rfl rfl hl.1 (Nat.le_of_ble_eq_true rfl) ⟨(Nat.le_of_ble_eq_true rfl), (Nat.le_of_ble_eq_true rfl)⟩ ⟨(Nat.le_of_ble_eq_true rfl), (Nat.le_of_ble_eq_true rfl)⟩ d_LW_nature_6 (fun q x ce H locs hx hO hce hcv hcl => ?_) (fun v E1 H locs hp hO => ?_)
  · rcases hx with ⟨rfl, hU⟩ | ⟨hU, rfl, hP⟩ | ⟨hU, hP, rfl, h10⟩
    · refine h_catch S hO [] (st := 0) (en := 9) (hp := 12) (ct := 29) hmap (fun z hz => absurd hz List.not_mem_nil) ⟨by decide, by decide, by decide⟩ kk_LW_29 kq_NSE hce hcv hcl ?_
      refine lv_astore (lv' := [(5, .ref q), (0, .ref (ad 0)), (1, .int a), (2, .int b), (3, .int d), (4, .int f)]) S.1 S.2.1 d_LW_nature_12 hl (by decide) rfl (fun ls hl => ?_)
      refine lv_iconst (v := 1) S.1 S.2.1 d_LW_nature_14 (by decide) ?_
      exact g_iret S hr hk hO.S (fun t ht => ⟨σ, τ, ⟨1, rfl, .inr (.inl ⟨rfl, hU, rfl⟩)⟩, by rw [ht]; exact hO.2.1⟩) (Nat.le_of_ble_eq_true rfl) (Nat.le_of_ble_eq_true rfl) d_LW_nature_15
    · refine h_catch S hO [(0, 9, 12, 29)] (st := 0) (en := 9) (hp := 16) (ct := 13) hmap (fun z hz => by
        rcases List.mem_cons.mp hz with rfl | hz
        · exact ⟨by decide, by decide, by decide, _, kk_LW_29, hN.2.1⟩
        exact absurd hz List.not_mem_nil) ⟨by decide, by decide, by decide⟩ kk_LW_13 kq_IAE hce hcv hcl ?_
      refine lv_astore (lv' := [(5, .ref q), (0, .ref (ad 0)), (1, .int a), (2, .int b), (3, .int d), (4, .int f)]) S.1 S.2.1 d_LW_nature_16 hl (by decide) rfl (fun ls hl => ?_)
      refine lv_iconst (v := 2) S.1 S.2.1 d_LW_nature_18 (by decide) ?_
      exact g_iret S hr hk hO.S (fun t ht => ⟨σ, τ, ⟨2, rfl, .inr (.inr (.inl ⟨rfl, hU, hP, rfl⟩))⟩, by rw [ht]; exact hO.2.1⟩) (Nat.le_of_ble_eq_true rfl) (Nat.le_of_ble_eq_true rfl) d_LW_nature_19
    · refine h_catch S hO [(0, 9, 12, 29), (0, 9, 16, 13)] (st := 0) (en := 9) (hp := 20) (ct := 31) hmap (fun z hz => by
        rcases List.mem_cons.mp hz with rfl | hz
        · exact ⟨by decide, by decide, by decide, _, kk_LW_29, hN.2.2.1⟩
        rcases List.mem_cons.mp hz with rfl | hz
        · exact ⟨by decide, by decide, by decide, _, kk_LW_13, hN.2.2.2.1⟩
        exact absurd hz List.not_mem_nil) ⟨by decide, by decide, by decide⟩ kk_LW_31 kq_ISE hce hcv hcl ?_
      refine lv_astore (lv' := [(5, .ref q), (0, .ref (ad 0)), (1, .int a), (2, .int b), (3, .int d), (4, .int f)]) S.1 S.2.1 d_LW_nature_20 hl (by decide) rfl (fun ls hl => ?_)
      refine lv_iconst (v := 3) S.1 S.2.1 d_LW_nature_22 (by decide) ?_
      exact g_iret S hr hk hO.S (fun t ht => ⟨σ, τ, ⟨3, rfl, .inr (.inr (.inr ⟨rfl, hU, hP, h10, rfl⟩))⟩, by rw [ht]; exact hO.2.1⟩) (Nat.le_of_ble_eq_true rfl) (Nat.le_of_ble_eq_true rfl) d_LW_nature_23
  · obtain ⟨σ1, τ1, rfl, rfl, hU, hP, h10, rfl, -⟩ := hp
    refine W.eq (g2 := F0 m 9 ls []) rfl ?_
    refine lv_goto (tgt := 24) S.1 S.2.1 d_LW_nature_9 (by decide) ?_
    refine lv_iconst (v := 0) S.1 S.2.1 d_LW_nature_24 (by decide) ?_
    exact g_iret S hr hk hO.S (fun t ht => ⟨_, _, ⟨0, rfl, .inl ⟨rfl, hU, hP, h10, rfl⟩⟩, by rw [ht]; exact hO.2.1⟩) (Nat.le_of_ble_eq_true rfl) (Nat.le_of_ble_eq_true rfl) d_LW_nature_25
theorem h_rule (l : Launch) (hst : l.stackTraces = false) (G : gP) (ad : Nat → Nat) (σ : Nat → Nat → Int32) (τ : Nat → Nat → Int64) (a b d f : Int32) (n : Nat) (hn24 : n ≤ 24) (hrc : σ 4 2 = nI n) (nc : Nat) (hcl9 : σ 4 5 = nI nc) (hn2 : 2 * nc ≤ n * (n - 1)) (hod : ∀ i, i < n → ∃ q : Nat, q < 24 ∧ σ 6 i = nI q) (hkd : ∀ r, r < 24 → ∃ k : Nat, k < 11 ∧ σ (9 + r) 1 = nI k) : gH l y_LW_rule (.codeWith y_LW_rule c_LW_rule 7 (some .int) [(0, 14, 17, 13), (0, 14, 21, 23)]) { frames := 8, cells := 5, slots := 30, locals := 137 } G ad σ τ [.ref (ad 0), .int a, .int b, .int d, .int f, .ref (ad 158)] 5 30 (fun v σ1 τ1 => ∃ z x, v = some (.int z) ∧ hru σ n a b d f z x σ1 ∧ (z = 0 → τ1 158 0 = x.toInt64)) := by
  refine h_of (by decide) (Nat.le_of_ble_eq_true rfl) ?_
  intro p e s m args below meth c ls S hk hr hmap hN hl hO
  have hl : lv_has ls 7 [(0, .ref (ad 0)), (1, .int a), (2, .int b), (3, .int d), (4, .int f), (5, .ref (ad 158))] := hl
  refine lv_aload S.1 S.2.1 d_LW_rule_0 (lv_at hl 5 rfl) ?_
  refine lv_iconst (v := 0) S.1 S.2.1 d_LW_rule_2 (by decide) ?_
  refine lv_aload_n S.1 S.2.1 d_LW_rule_3 rfl (lv_at hl 0 rfl) ?_
  refine lv_iload_n S.1 S.2.1 d_LW_rule_4 rfl (lv_at hl 1 rfl) ?_
  refine lv_iload_n S.1 S.2.1 d_LW_rule_5 rfl (lv_at hl 2 rfl) ?_
  refine lv_iload_n S.1 S.2.1 d_LW_rule_6 rfl (lv_at hl 3 rfl) ?_
  refine lv_iload S.1 S.2.1 d_LW_rule_7 (lv_at hl 4 rfl) ?_
  refine g_VI (As := [.int a, .int b, .int d, .int f]) (rest := [.int 0, .ref (ad 158)]) S hO (fun _ h => h) (k_PR_rule l hst G ad σ τ a b d f n hn24 hrc nc hcl9 hn2 hod hkd) cw_LW_36 (k := 0) (by decide) (sh_0 G ad _ _) rfl rfl hl.1 (Nat.le_of_ble_eq_true rfl) ⟨(Nat.le_of_ble_eq_true rfl), (Nat.le_of_ble_eq_true rfl)⟩ ⟨(Nat.le_of_ble_eq_true rfl), (Nat.le_of_ble_eq_true rfl)⟩ d_LW_rule_9 (fun q x ce H locs hx hO hce hcv hcl => ?_) (fun v E1 H locs hp hO => ?_)
  · rcases hx with ⟨rfl, hP⟩ | ⟨hP, rfl, hlt⟩
    · refine h_catch S hO [] (st := 0) (en := 14) (hp := 17) (ct := 13) hmap (fun z hz => absurd hz List.not_mem_nil) ⟨by decide, by decide, by decide⟩ kk_LW_13 kq_IAE hce hcv hcl ?_
      refine lv_astore (lv' := [(6, .ref q), (0, .ref (ad 0)), (1, .int a), (2, .int b), (3, .int d), (4, .int f), (5, .ref (ad 158))]) S.1 S.2.1 d_LW_rule_17 hl (by decide) rfl (fun ls hl => ?_)
      refine lv_iconst (v := 1) S.1 S.2.1 d_LW_rule_19 (by decide) ?_
      exact g_iret S hr hk hO.S (fun t ht => ⟨σ, τ, ⟨1, 0, rfl, .inr (.inl ⟨rfl, hP, rfl⟩), fun h => absurd h (by decide)⟩, by rw [ht]; exact hO.2.1⟩) (Nat.le_of_ble_eq_true rfl) (Nat.le_of_ble_eq_true rfl) d_LW_rule_20
    · refine h_catch S hO [(0, 14, 17, 13)] (st := 0) (en := 14) (hp := 21) (ct := 23) hmap (fun z hz => by
        rcases List.mem_cons.mp hz with rfl | hz
        · exact ⟨by decide, by decide, by decide, _, kk_LW_13, hN.1⟩
        exact absurd hz List.not_mem_nil) ⟨by decide, by decide, by decide⟩ kk_LW_23 kq_UOE hce hcv hcl ?_
      refine lv_astore (lv' := [(6, .ref q), (0, .ref (ad 0)), (1, .int a), (2, .int b), (3, .int d), (4, .int f), (5, .ref (ad 158))]) S.1 S.2.1 d_LW_rule_21 hl (by decide) rfl (fun ls hl => ?_)
      refine lv_iconst (v := 2) S.1 S.2.1 d_LW_rule_23 (by decide) ?_
      exact g_iret S hr hk hO.S (fun t ht => ⟨σ, τ, ⟨2, 0, rfl, .inr (.inr ⟨rfl, hP, hlt, rfl⟩), fun h => absurd h (by decide)⟩, by rw [ht]; exact hO.2.1⟩) (Nat.le_of_ble_eq_true rfl) (Nat.le_of_ble_eq_true rfl) d_LW_rule_24
  · obtain ⟨σ1, τ1, rfl, rfl, hP, hlt, rfl, -⟩ := hp
    refine W.eq (g2 := F0 m 12 ls [.int _, .int 0, .ref (ad 158)]) rfl ?_
    refine lv_i2l S.1 S.2.1 d_LW_rule_12 rfl ?_
    refine g_las S hO (fun _ h => h) (k := 158) (N := 1) (i := 0) (by decide) (sh_158 G ad _ _) (vp_in_nI (n := 0) (by decide) (by decide)) (enc_l (j := 0) rfl) d_LW_rule_13 (fun H locs hO => ?_)
    refine lv_goto (tgt := 25) S.1 S.2.1 d_LW_rule_14 (by decide) ?_
    refine lv_iconst (v := 0) S.1 S.2.1 d_LW_rule_25 (by decide) ?_
    exact g_iret S hr hk hO.S (fun t ht => ⟨_, _, ⟨0, _, rfl, .inl ⟨rfl, rfl, hP, hlt, rfl⟩, fun _ => up2L_s⟩, by rw [ht]; exact hO.2.1⟩) (Nat.le_of_ble_eq_true rfl) (Nat.le_of_ble_eq_true rfl) d_LW_rule_26
theorem h_own (l : Launch) (hst : l.stackTraces = false) (G : gP) (ad : Nat → Nat) (σ : Nat → Nat → Int32) (τ : Nat → Nat → Int64) (a b : Int32) : gH l y_LW_own (.codeWith y_LW_own c_LW_own 4 (some .int) [(0, 6, 9, 13)]) { frames := 8, cells := 2, slots := 12, locals := 134 } G ad σ τ [.ref (ad 0), .int a, .int b] 2 12 (fun v σ1 τ1 => ∃ z, v = some (.int z) ∧ how σ a b z σ1) := by
  refine h_of (by decide) (Nat.le_of_ble_eq_true rfl) ?_
  intro p e s m args below meth c ls S hk hr hmap hN hl hO
  have hl : lv_has ls 4 [(0, .ref (ad 0)), (1, .int a), (2, .int b)] := hl
  refine lv_aload_n S.1 S.2.1 d_LW_own_0 rfl (lv_at hl 0 rfl) ?_
  refine lv_iload_n S.1 S.2.1 d_LW_own_1 rfl (lv_at hl 1 rfl) ?_
  refine lv_iload_n S.1 S.2.1 d_LW_own_2 rfl (lv_at hl 2 rfl) ?_
  refine g_VI (As := [.int a, .int b]) (rest := []) S hO (fun _ h => h) (k_PR_own l hst G ad σ τ a b) cw_LW_40 (k := 0) (by decide) (sh_0 G ad _ _) rfl rfl hl.1 (Nat.le_of_ble_eq_true rfl) ⟨(Nat.le_of_ble_eq_true rfl), (Nat.le_of_ble_eq_true rfl)⟩ ⟨(Nat.le_of_ble_eq_true rfl), (Nat.le_of_ble_eq_true rfl)⟩ d_LW_own_3 (fun q x ce H locs hx hO hce hcv hcl => ?_) (fun v E1 H locs hp hO => ?_)
  · obtain ⟨rfl, hP⟩ := hx
    refine h_catch S hO [] (st := 0) (en := 6) (hp := 9) (ct := 13) hmap (fun z hz => absurd hz List.not_mem_nil) ⟨by decide, by decide, by decide⟩ kk_LW_13 kq_IAE hce hcv hcl ?_
    refine lv_astore_n (lv' := [(3, .ref q), (0, .ref (ad 0)), (1, .int a), (2, .int b)]) S.1 S.2.1 d_LW_own_9 rfl hl (by decide) rfl (fun ls hl => ?_)
    refine lv_iconst (v := 1) S.1 S.2.1 d_LW_own_10 (by decide) ?_
    exact g_iret S hr hk hO.S (fun t ht => ⟨σ, τ, ⟨1, rfl, .inr ⟨rfl, hP, rfl⟩⟩, by rw [ht]; exact hO.2.1⟩) (Nat.le_of_ble_eq_true rfl) (Nat.le_of_ble_eq_true rfl) d_LW_own_11
  · obtain ⟨σ1, τ1, rfl, rfl, hP, rfl, -⟩ := hp
    refine W.eq (g2 := F0 m 6 ls []) rfl ?_
    refine lv_goto (tgt := 12) S.1 S.2.1 d_LW_own_6 (by decide) ?_
    refine lv_iconst (v := 0) S.1 S.2.1 d_LW_own_12 (by decide) ?_
    exact g_iret S hr hk hO.S (fun t ht => ⟨_, _, ⟨0, rfl, .inl ⟨rfl, hP, rfl⟩⟩, by rw [ht]; exact hO.2.1⟩) (Nat.le_of_ble_eq_true rfl) (Nat.le_of_ble_eq_true rfl) d_LW_own_13
theorem h_except (l : Launch) (hst : l.stackTraces = false) (G : gP) (ad : Nat → Nat) (σ : Nat → Nat → Int32) (τ : Nat → Nat → Int64) (a b d f : Int32) (nw : Nat) (hnw : σ 0 4 = nI nw) (hw2 : nw ≤ 20) : gH l y_LW_except (.codeWith y_LW_except c_LW_except 6 (some .int) [(0, 9, 12, 29), (0, 9, 16, 13), (0, 9, 20, 23)]) { frames := 8, cells := 4, slots := 24, locals := 138 } G ad σ τ [.ref (ad 0), .int a, .int b, .int d, .int f] 4 24 (fun v σ1 τ1 => ∃ z, v = some (.int z) ∧ hxc σ nw a b d f z σ1) := by
  refine h_of (by decide) (Nat.le_of_ble_eq_true rfl) ?_
  intro p e s m args below meth c ls S hk hr hmap hN hl hO
  have hl : lv_has ls 6 [(0, .ref (ad 0)), (1, .int a), (2, .int b), (3, .int d), (4, .int f)] := hl
  refine lv_aload_n S.1 S.2.1 d_LW_except_0 rfl (lv_at hl 0 rfl) ?_
  refine lv_iload_n S.1 S.2.1 d_LW_except_1 rfl (lv_at hl 1 rfl) ?_
  refine lv_iload_n S.1 S.2.1 d_LW_except_2 rfl (lv_at hl 2 rfl) ?_
  refine lv_iload_n S.1 S.2.1 d_LW_except_3 rfl (lv_at hl 3 rfl) ?_
  refine lv_iload S.1 S.2.1 d_LW_except_4 (lv_at hl 4 rfl) ?_
  refine g_VI (As := [.int a, .int b, .int d, .int f]) (rest := []) S hO (fun _ h => h) (k_PR_except l hst G ad σ τ a b d f nw hnw hw2) cw_LW_44 (k := 0) (by decide) (sh_0 G ad _ _) rfl rfl hl.1 (Nat.le_of_ble_eq_true rfl) ⟨(Nat.le_of_ble_eq_true rfl), (Nat.le_of_ble_eq_true rfl)⟩ ⟨(Nat.le_of_ble_eq_true rfl), (Nat.le_of_ble_eq_true rfl)⟩ d_LW_except_6 (fun q x ce H locs hx hO hce hcv hcl => ?_) (fun v E1 H locs hp hO => ?_)
  · rcases hx with ⟨rfl, hA⟩ | ⟨hA, rfl, hB⟩ | ⟨hA, hB, rfl, hF, h4⟩
    · refine h_catch S hO [] (st := 0) (en := 9) (hp := 12) (ct := 29) hmap (fun z hz => absurd hz List.not_mem_nil) ⟨by decide, by decide, by decide⟩ kk_LW_29 kq_NSE hce hcv hcl ?_
      refine lv_astore (lv' := [(5, .ref q), (0, .ref (ad 0)), (1, .int a), (2, .int b), (3, .int d), (4, .int f)]) S.1 S.2.1 d_LW_except_12 hl (by decide) rfl (fun ls hl => ?_)
      refine lv_iconst (v := 1) S.1 S.2.1 d_LW_except_14 (by decide) ?_
      exact g_iret S hr hk hO.S (fun t ht => ⟨σ, τ, ⟨1, rfl, .inr (.inl ⟨rfl, hA, rfl⟩)⟩, by rw [ht]; exact hO.2.1⟩) (Nat.le_of_ble_eq_true rfl) (Nat.le_of_ble_eq_true rfl) d_LW_except_15
    · refine h_catch S hO [(0, 9, 12, 29)] (st := 0) (en := 9) (hp := 16) (ct := 13) hmap (fun z hz => by
        rcases List.mem_cons.mp hz with rfl | hz
        · exact ⟨by decide, by decide, by decide, _, kk_LW_29, hN.2.1⟩
        exact absurd hz List.not_mem_nil) ⟨by decide, by decide, by decide⟩ kk_LW_13 kq_IAE hce hcv hcl ?_
      refine lv_astore (lv' := [(5, .ref q), (0, .ref (ad 0)), (1, .int a), (2, .int b), (3, .int d), (4, .int f)]) S.1 S.2.1 d_LW_except_16 hl (by decide) rfl (fun ls hl => ?_)
      refine lv_iconst (v := 2) S.1 S.2.1 d_LW_except_18 (by decide) ?_
      exact g_iret S hr hk hO.S (fun t ht => ⟨σ, τ, ⟨2, rfl, .inr (.inr (.inl ⟨rfl, hA, hB, rfl⟩))⟩, by rw [ht]; exact hO.2.1⟩) (Nat.le_of_ble_eq_true rfl) (Nat.le_of_ble_eq_true rfl) d_LW_except_19
    · refine h_catch S hO [(0, 9, 12, 29), (0, 9, 16, 13)] (st := 0) (en := 9) (hp := 20) (ct := 23) hmap (fun z hz => by
        rcases List.mem_cons.mp hz with rfl | hz
        · exact ⟨by decide, by decide, by decide, _, kk_LW_29, hN.2.2.2.2⟩
        rcases List.mem_cons.mp hz with rfl | hz
        · exact ⟨by decide, by decide, by decide, _, kk_LW_13, hN.1⟩
        exact absurd hz List.not_mem_nil) ⟨by decide, by decide, by decide⟩ kk_LW_23 kq_UOE hce hcv hcl ?_
      refine lv_astore (lv' := [(5, .ref q), (0, .ref (ad 0)), (1, .int a), (2, .int b), (3, .int d), (4, .int f)]) S.1 S.2.1 d_LW_except_20 hl (by decide) rfl (fun ls hl => ?_)
      refine lv_iconst (v := 3) S.1 S.2.1 d_LW_except_22 (by decide) ?_
      exact g_iret S hr hk hO.S (fun t ht => ⟨σ, τ, ⟨3, rfl, .inr (.inr (.inr ⟨rfl, hA, hB, hF, h4, rfl⟩))⟩, by rw [ht]; exact hO.2.1⟩) (Nat.le_of_ble_eq_true rfl) (Nat.le_of_ble_eq_true rfl) d_LW_except_23
  · obtain ⟨σ1, τ1, rfl, rfl, hA, hB, hC, rfl, -⟩ := hp
    refine W.eq (g2 := F0 m 9 ls []) rfl ?_
    refine lv_goto (tgt := 24) S.1 S.2.1 d_LW_except_9 (by decide) ?_
    refine lv_iconst (v := 0) S.1 S.2.1 d_LW_except_24 (by decide) ?_
    exact g_iret S hr hk hO.S (fun t ht => ⟨_, _, ⟨0, rfl, .inl ⟨rfl, hA, hB, hC, rfl⟩⟩, by rw [ht]; exact hO.2.1⟩) (Nat.le_of_ble_eq_true rfl) (Nat.le_of_ble_eq_true rfl) d_LW_except_25
theorem h_may (l : Launch) (hst : l.stackTraces = false) (G : gP) (ad : Nat → Nat) (σ : Nat → Nat → Int32) (τ : Nat → Nat → Int64) (a b d : Int32) (nu : Nat) (hnu : σ 0 2 = nI nu) (hn4 : nu ≤ 40) (nr nw : Nat) (hIR : InvR σ nr) (hnw : σ 0 4 = nI nw) (hw2 : nw ≤ 20) : gH l y_LW_may (.codeWith y_LW_may c_LW_may 6 (some .int) [(0, 12, 15, 29), (0, 12, 19, 13)]) { frames := 10, cells := 3, slots := 18, locals := 178 } G ad σ τ [.ref (ad 0), .int a, .int b, .int d, .ref (ad 158)] 3 18 (fun v σ1 τ1 => ∃ z x, v = some (.int z) ∧ hmy σ τ nu nr nw a b d z x σ1 ∧ (z = 0 → τ1 158 0 = x.toInt64)) := by
  refine h_of (by decide) (Nat.le_of_ble_eq_true rfl) ?_
  intro p e s m args below meth c ls S hk hr hmap hN hl hO
  have hl : lv_has ls 6 [(0, .ref (ad 0)), (1, .int a), (2, .int b), (3, .int d), (4, .ref (ad 158))] := hl
  refine lv_aload S.1 S.2.1 d_LW_may_0 (lv_at hl 4 rfl) ?_
  refine lv_iconst (v := 0) S.1 S.2.1 d_LW_may_2 (by decide) ?_
  refine lv_aload_n S.1 S.2.1 d_LW_may_3 rfl (lv_at hl 0 rfl) ?_
  refine lv_iload_n S.1 S.2.1 d_LW_may_4 rfl (lv_at hl 1 rfl) ?_
  refine lv_iload_n S.1 S.2.1 d_LW_may_5 rfl (lv_at hl 2 rfl) ?_
  refine lv_iload_n S.1 S.2.1 d_LW_may_6 rfl (lv_at hl 3 rfl) ?_
  refine g_VI (As := [.int a, .int b, .int d]) (rest := [.int 0, .ref (ad 158)]) S hO (fun _ h => h) (k_PR_may l hst G ad σ τ a b d nu hnu hn4 nr nw hIR hnw hw2) cw_LW_47 (k := 0) (by decide) (sh_0 G ad _ _) rfl rfl hl.1 (Nat.le_of_ble_eq_true rfl) ⟨(Nat.le_of_ble_eq_true rfl), (Nat.le_of_ble_eq_true rfl)⟩ ⟨(Nat.le_of_ble_eq_true rfl), (Nat.le_of_ble_eq_true rfl)⟩ d_LW_may_7 (fun q x ce H locs hx hO hce hcv hcl => ?_) (fun v E1 H locs hp hO => ?_)
  · rcases hx with ⟨rfl, hU⟩ | ⟨hU, rfl, hB⟩
    · refine h_catch S hO [] (st := 0) (en := 12) (hp := 15) (ct := 29) hmap (fun z hz => absurd hz List.not_mem_nil) ⟨by decide, by decide, by decide⟩ kk_LW_29 kq_NSE hce hcv hcl ?_
      refine lv_astore (lv' := [(5, .ref q), (0, .ref (ad 0)), (1, .int a), (2, .int b), (3, .int d), (4, .ref (ad 158))]) S.1 S.2.1 d_LW_may_15 hl (by decide) rfl (fun ls hl => ?_)
      refine lv_iconst (v := 1) S.1 S.2.1 d_LW_may_17 (by decide) ?_
      exact g_iret S hr hk hO.S (fun t ht => ⟨σ, τ, ⟨1, 0, rfl, .inr (.inl ⟨rfl, hU, rfl⟩), fun h => absurd h (by decide)⟩, by rw [ht]; exact hO.2.1⟩) (Nat.le_of_ble_eq_true rfl) (Nat.le_of_ble_eq_true rfl) d_LW_may_18
    · refine h_catch S hO [(0, 12, 15, 29)] (st := 0) (en := 12) (hp := 19) (ct := 13) hmap (fun z hz => by
        rcases List.mem_cons.mp hz with rfl | hz
        · exact ⟨by decide, by decide, by decide, _, kk_LW_29, hN.2.1⟩
        exact absurd hz List.not_mem_nil) ⟨by decide, by decide, by decide⟩ kk_LW_13 kq_IAE hce hcv hcl ?_
      refine lv_astore (lv' := [(5, .ref q), (0, .ref (ad 0)), (1, .int a), (2, .int b), (3, .int d), (4, .ref (ad 158))]) S.1 S.2.1 d_LW_may_19 hl (by decide) rfl (fun ls hl => ?_)
      refine lv_iconst (v := 2) S.1 S.2.1 d_LW_may_21 (by decide) ?_
      exact g_iret S hr hk hO.S (fun t ht => ⟨σ, τ, ⟨2, 0, rfl, .inr (.inr ⟨rfl, hU, hB, rfl⟩), fun h => absurd h (by decide)⟩, by rw [ht]; exact hO.2.1⟩) (Nat.le_of_ble_eq_true rfl) (Nat.le_of_ble_eq_true rfl) d_LW_may_22
  · obtain ⟨σ1, τ1, rfl, hP, rfl, rfl, -⟩ := hp
    refine W.eq (g2 := F0 m 10 ls [.int _, .int 0, .ref (ad 158)]) rfl ?_
    refine lv_i2l S.1 S.2.1 d_LW_may_10 rfl ?_
    refine g_las S hO (fun _ h => h) (k := 158) (N := 1) (i := 0) (by decide) (sh_158 G ad _ _) (vp_in_nI (n := 0) (by decide) (by decide)) (enc_l (j := 0) rfl) d_LW_may_11 (fun H locs hO => ?_)
    refine lv_goto (tgt := 23) S.1 S.2.1 d_LW_may_12 (by decide) ?_
    refine lv_iconst (v := 0) S.1 S.2.1 d_LW_may_23 (by decide) ?_
    exact g_iret S hr hk hO.S (fun t ht => ⟨_, _, ⟨0, _, rfl, .inl ⟨rfl, hP, rfl, rfl⟩, fun _ => up2L_s⟩, by rw [ht]; exact hO.2.1⟩) (Nat.le_of_ble_eq_true rfl) (Nat.le_of_ble_eq_true rfl) d_LW_may_24
theorem h_explain (l : Launch) (hst : l.stackTraces = false) (G : gP) (ad : Nat → Nat) (σ : Nat → Nat → Int32) (τ : Nat → Nat → Int64) (a : Int32) (nr : Nat) (hrf : σ 0 10 = nI nr) (hr2 : nr ≤ 24) : gH l y_LW_explain (.codeWith y_LW_explain c_LW_explain 4 (some .int) [(0, 9, 12, 13)]) { frames := 8, cells := 1, slots := 6, locals := 131 } G ad σ τ [.ref (ad 0), .int a, .ref (ad 158)] 1 6 (fun v σ1 τ1 => ∃ z x, v = some (.int z) ∧ hex σ a z x σ1 ∧ (z = 0 → τ1 158 0 = x.toInt64)) := by
  refine h_of (by decide) (Nat.le_of_ble_eq_true rfl) ?_
  intro p e s m args below meth c ls S hk hr hmap hN hl hO
  have hl : lv_has ls 4 [(0, .ref (ad 0)), (1, .int a), (2, .ref (ad 158))] := hl
  refine lv_aload_n S.1 S.2.1 d_LW_explain_0 rfl (lv_at hl 2 rfl) ?_
  refine lv_iconst (v := 0) S.1 S.2.1 d_LW_explain_1 (by decide) ?_
  refine lv_aload_n S.1 S.2.1 d_LW_explain_2 rfl (lv_at hl 0 rfl) ?_
  refine lv_iload_n S.1 S.2.1 d_LW_explain_3 rfl (lv_at hl 1 rfl) ?_
  refine g_VP (As := [.int a]) (rest := [.int 0, .ref (ad 158)]) S hO (k_PR_explain l hst G ad σ τ a nr hrf hr2) cw_LW_50 (k := 0) (by decide) (sh_0 G ad _ _) rfl rfl hl.1 (Nat.le_of_ble_eq_true rfl) ⟨(Nat.le_of_ble_eq_true rfl), (Nat.le_of_ble_eq_true rfl)⟩ ⟨(Nat.le_of_ble_eq_true rfl), (Nat.le_of_ble_eq_true rfl)⟩ d_LW_explain_4 (fun q x ce H hx hO hce hcv hcl => ?_) (fun v H hp hO => ?_)
  · obtain ⟨rfl, hP⟩ := hx
    refine h_catch S hO [] (st := 0) (en := 9) (hp := 12) (ct := 13) hmap (fun z hz => absurd hz List.not_mem_nil) ⟨by decide, by decide, by decide⟩ kk_LW_13 kq_IAE hce hcv hcl ?_
    refine lv_astore_n (lv' := [(3, .ref q), (0, .ref (ad 0)), (1, .int a), (2, .ref (ad 158))]) S.1 S.2.1 d_LW_explain_12 rfl hl (by decide) rfl (fun ls hl => ?_)
    refine lv_iconst (v := 1) S.1 S.2.1 d_LW_explain_13 (by decide) ?_
    exact g_iret S hr hk hO.S (fun t ht => ⟨σ, τ, ⟨1, 0, rfl, .inr ⟨rfl, hP, rfl⟩, fun h => absurd h (by decide)⟩, by rw [ht]; exact hO.2.1⟩) (Nat.le_of_ble_eq_true rfl) (Nat.le_of_ble_eq_true rfl) d_LW_explain_14
  · obtain ⟨hP, rfl⟩ := hp
    refine W.eq (g2 := F0 m 7 ls [.int _, .int 0, .ref (ad 158)]) rfl ?_
    refine lv_i2l S.1 S.2.1 d_LW_explain_7 rfl ?_
    refine g_las S hO (fun _ h => h) (k := 158) (N := 1) (i := 0) (by decide) (sh_158 G ad _ _) (vp_in_nI (n := 0) (by decide) (by decide)) (enc_l (j := 0) rfl) d_LW_explain_8 (fun H locs hO => ?_)
    refine lv_goto (tgt := 15) S.1 S.2.1 d_LW_explain_9 (by decide) ?_
    refine lv_iconst (v := 0) S.1 S.2.1 d_LW_explain_15 (by decide) ?_
    exact g_iret S hr hk hO.S (fun t ht => ⟨_, _, ⟨0, _, rfl, .inl ⟨rfl, hP, rfl, rfl⟩, fun _ => up2L_s⟩, by rw [ht]; exact hO.2.1⟩) (Nat.le_of_ble_eq_true rfl) (Nat.le_of_ble_eq_true rfl) d_LW_explain_16
theorem h_put (l : Launch) (hst : l.stackTraces = false) (G : gP) (ad : Nat → Nat) (σ : Nat → Nat → Int32) (τ : Nat → Nat → Int64) (a b d : Int32) (nu : Nat) (hnu : σ 0 2 = nI nu) (hn4 : nu ≤ 40) (nr nw : Nat) (hIR : InvR σ nr) (hnw : σ 0 4 = nI nw) (hw2 : nw ≤ 20) : gH l y_LW_put (.codeWith y_LW_put c_LW_put 6 (some .int) [(0, 12, 15, 29), (0, 12, 19, 13), (0, 12, 23, 31)]) { frames := 10, cells := 4, slots := 24, locals := 179 } G ad σ τ [.ref (ad 0), .int a, .int b, .int d, .ref (ad 158)] 4 24 (fun v σ1 τ1 => ∃ z x, v = some (.int z) ∧ hpt σ τ nu nr nw a b d z x σ1 ∧ (z = 0 → τ1 158 0 = x.toInt64)) := by
  refine h_of (by decide) (Nat.le_of_ble_eq_true rfl) ?_
  intro p e s m args below meth c ls S hk hr hmap hN hl hO
  have hl : lv_has ls 6 [(0, .ref (ad 0)), (1, .int a), (2, .int b), (3, .int d), (4, .ref (ad 158))] := hl
  refine lv_aload S.1 S.2.1 d_LW_put_0 (lv_at hl 4 rfl) ?_
  refine lv_iconst (v := 0) S.1 S.2.1 d_LW_put_2 (by decide) ?_
  refine lv_aload_n S.1 S.2.1 d_LW_put_3 rfl (lv_at hl 0 rfl) ?_
  refine lv_iload_n S.1 S.2.1 d_LW_put_4 rfl (lv_at hl 1 rfl) ?_
  refine lv_iload_n S.1 S.2.1 d_LW_put_5 rfl (lv_at hl 2 rfl) ?_
  refine lv_iload_n S.1 S.2.1 d_LW_put_6 rfl (lv_at hl 3 rfl) ?_
  refine g_VI (As := [.int a, .int b, .int d]) (rest := [.int 0, .ref (ad 158)]) S hO (fun _ h => h) (k_PR_put l hst G ad σ τ a b d nu hnu hn4 nr nw hIR hnw hw2) cw_LW_54 (k := 0) (by decide) (sh_0 G ad _ _) rfl rfl hl.1 (Nat.le_of_ble_eq_true rfl) ⟨(Nat.le_of_ble_eq_true rfl), (Nat.le_of_ble_eq_true rfl)⟩ ⟨(Nat.le_of_ble_eq_true rfl), (Nat.le_of_ble_eq_true rfl)⟩ d_LW_put_7 (fun q x ce H locs hx hO hce hcv hcl => ?_) (fun v E1 H locs hp hO => ?_)
  · rcases hx with (⟨rfl, hU⟩ | ⟨hU, rfl, hB⟩) | ⟨hP, rfl, h10⟩
    · refine h_catch S hO [] (st := 0) (en := 12) (hp := 15) (ct := 29) hmap (fun z hz => absurd hz List.not_mem_nil) ⟨by decide, by decide, by decide⟩ kk_LW_29 kq_NSE hce hcv hcl ?_
      refine lv_astore (lv' := [(5, .ref q), (0, .ref (ad 0)), (1, .int a), (2, .int b), (3, .int d), (4, .ref (ad 158))]) S.1 S.2.1 d_LW_put_15 hl (by decide) rfl (fun ls hl => ?_)
      refine lv_iconst (v := 1) S.1 S.2.1 d_LW_put_17 (by decide) ?_
      exact g_iret S hr hk hO.S (fun t ht => ⟨σ, τ, ⟨1, 0, rfl, .inr (.inl ⟨rfl, hU, rfl⟩), fun h => absurd h (by decide)⟩, by rw [ht]; exact hO.2.1⟩) (Nat.le_of_ble_eq_true rfl) (Nat.le_of_ble_eq_true rfl) d_LW_put_18
    · refine h_catch S hO [(0, 12, 15, 29)] (st := 0) (en := 12) (hp := 19) (ct := 13) hmap (fun z hz => by
        rcases List.mem_cons.mp hz with rfl | hz
        · exact ⟨by decide, by decide, by decide, _, kk_LW_29, hN.2.1⟩
        exact absurd hz List.not_mem_nil) ⟨by decide, by decide, by decide⟩ kk_LW_13 kq_IAE hce hcv hcl ?_
      refine lv_astore (lv' := [(5, .ref q), (0, .ref (ad 0)), (1, .int a), (2, .int b), (3, .int d), (4, .ref (ad 158))]) S.1 S.2.1 d_LW_put_19 hl (by decide) rfl (fun ls hl => ?_)
      refine lv_iconst (v := 2) S.1 S.2.1 d_LW_put_21 (by decide) ?_
      exact g_iret S hr hk hO.S (fun t ht => ⟨σ, τ, ⟨2, 0, rfl, .inr (.inr (.inl ⟨rfl, hU, hB, rfl⟩)), fun h => absurd h (by decide)⟩, by rw [ht]; exact hO.2.1⟩) (Nat.le_of_ble_eq_true rfl) (Nat.le_of_ble_eq_true rfl) d_LW_put_22
    · refine h_catch S hO [(0, 12, 15, 29), (0, 12, 19, 13)] (st := 0) (en := 12) (hp := 23) (ct := 31) hmap (fun z hz => by
        rcases List.mem_cons.mp hz with rfl | hz
        · exact ⟨by decide, by decide, by decide, _, kk_LW_29, hN.2.2.1⟩
        rcases List.mem_cons.mp hz with rfl | hz
        · exact ⟨by decide, by decide, by decide, _, kk_LW_13, hN.2.2.2.1⟩
        exact absurd hz List.not_mem_nil) ⟨by decide, by decide, by decide⟩ kk_LW_31 kq_ISE hce hcv hcl ?_
      refine lv_astore (lv' := [(5, .ref q), (0, .ref (ad 0)), (1, .int a), (2, .int b), (3, .int d), (4, .ref (ad 158))]) S.1 S.2.1 d_LW_put_23 hl (by decide) rfl (fun ls hl => ?_)
      refine lv_iconst (v := 3) S.1 S.2.1 d_LW_put_25 (by decide) ?_
      exact g_iret S hr hk hO.S (fun t ht => ⟨σ, τ, ⟨3, 0, rfl, .inr (.inr (.inr ⟨rfl, hP, h10, rfl⟩)), fun h => absurd h (by decide)⟩, by rw [ht]; exact hO.2.1⟩) (Nat.le_of_ble_eq_true rfl) (Nat.le_of_ble_eq_true rfl) d_LW_put_26
  · obtain ⟨σ1, τ1, rfl, hP, h10, rfl, rfl, -⟩ := hp
    refine W.eq (g2 := F0 m 10 ls [.int _, .int 0, .ref (ad 158)]) rfl ?_
    refine lv_i2l S.1 S.2.1 d_LW_put_10 rfl ?_
    refine g_las S hO (fun _ h => h) (k := 158) (N := 1) (i := 0) (by decide) (sh_158 G ad _ _) (vp_in_nI (n := 0) (by decide) (by decide)) (enc_l (j := 0) rfl) d_LW_put_11 (fun H locs hO => ?_)
    refine lv_goto (tgt := 27) S.1 S.2.1 d_LW_put_12 (by decide) ?_
    refine lv_iconst (v := 0) S.1 S.2.1 d_LW_put_27 (by decide) ?_
    exact g_iret S hr hk hO.S (fun t ht => ⟨_, _, ⟨0, _, rfl, .inl ⟨rfl, hP, h10, rfl, rfl⟩, fun _ => up2L_s⟩, by rw [ht]; exact hO.2.1⟩) (Nat.le_of_ble_eq_true rfl) (Nat.le_of_ble_eq_true rfl) d_LW_put_28
theorem h_take (l : Launch) (hst : l.stackTraces = false) (G : gP) (ad : Nat → Nat) (σ : Nat → Nat → Int32) (τ : Nat → Nat → Int64) (a : Int32) (nu : Nat) (hnu : σ 0 2 = nI nu) (hn4 : nu ≤ 40) : gH l y_LW_take (.codeWith y_LW_take c_LW_take 3 (some .int) [(0, 5, 8, 29), (0, 5, 11, 31)]) { frames := 8, cells := 2, slots := 12, locals := 132 } G ad σ τ [.ref (ad 0), .int a] 2 12 (fun v σ1 τ1 => ∃ z, v = some (.int z) ∧ htk σ a z σ1) := by
  refine h_of (by decide) (Nat.le_of_ble_eq_true rfl) ?_
  intro p e s m args below meth c ls S hk hr hmap hN hl hO
  have hl : lv_has ls 3 [(0, .ref (ad 0)), (1, .int a)] := hl
  refine lv_aload_n S.1 S.2.1 d_LW_take_0 rfl (lv_at hl 0 rfl) ?_
  refine lv_iload_n S.1 S.2.1 d_LW_take_1 rfl (lv_at hl 1 rfl) ?_
  refine g_VI (As := [.int a]) (rest := []) S hO (fun _ h => h) (k_PR_take l hst G ad σ τ a nu hnu hn4) cw_LW_57 (k := 0) (by decide) (sh_0 G ad _ _) rfl rfl hl.1 (Nat.le_of_ble_eq_true rfl) ⟨(Nat.le_of_ble_eq_true rfl), (Nat.le_of_ble_eq_true rfl)⟩ ⟨(Nat.le_of_ble_eq_true rfl), (Nat.le_of_ble_eq_true rfl)⟩ d_LW_take_2 (fun q x ce H locs hx hO hce hcv hcl => ?_) (fun v E1 H locs hp hO => ?_)
  · rcases hx with ⟨rfl, hU⟩ | ⟨hU, rfl, h10⟩
    · refine h_catch S hO [] (st := 0) (en := 5) (hp := 8) (ct := 29) hmap (fun z hz => absurd hz List.not_mem_nil) ⟨by decide, by decide, by decide⟩ kk_LW_29 kq_NSE hce hcv hcl ?_
      refine lv_astore_n (lv' := [(2, .ref q), (0, .ref (ad 0)), (1, .int a)]) S.1 S.2.1 d_LW_take_8 rfl hl (by decide) rfl (fun ls hl => ?_)
      refine lv_iconst (v := 1) S.1 S.2.1 d_LW_take_9 (by decide) ?_
      exact g_iret S hr hk hO.S (fun t ht => ⟨σ, τ, ⟨1, rfl, .inr (.inl ⟨rfl, hU, rfl⟩)⟩, by rw [ht]; exact hO.2.1⟩) (Nat.le_of_ble_eq_true rfl) (Nat.le_of_ble_eq_true rfl) d_LW_take_10
    · refine h_catch S hO [(0, 5, 8, 29)] (st := 0) (en := 5) (hp := 11) (ct := 31) hmap (fun z hz => by
        rcases List.mem_cons.mp hz with rfl | hz
        · exact ⟨by decide, by decide, by decide, _, kk_LW_29, hN.2.2.1⟩
        exact absurd hz List.not_mem_nil) ⟨by decide, by decide, by decide⟩ kk_LW_31 kq_ISE hce hcv hcl ?_
      refine lv_astore_n (lv' := [(2, .ref q), (0, .ref (ad 0)), (1, .int a)]) S.1 S.2.1 d_LW_take_11 rfl hl (by decide) rfl (fun ls hl => ?_)
      refine lv_iconst (v := 2) S.1 S.2.1 d_LW_take_12 (by decide) ?_
      exact g_iret S hr hk hO.S (fun t ht => ⟨σ, τ, ⟨2, rfl, .inr (.inr ⟨rfl, hU, h10, rfl⟩)⟩, by rw [ht]; exact hO.2.1⟩) (Nat.le_of_ble_eq_true rfl) (Nat.le_of_ble_eq_true rfl) d_LW_take_13
  · obtain ⟨σ1, τ1, rfl, rfl, hU, h10, rfl, -⟩ := hp
    refine W.eq (g2 := F0 m 5 ls []) rfl ?_
    refine lv_goto (tgt := 14) S.1 S.2.1 d_LW_take_5 (by decide) ?_
    refine lv_iconst (v := 0) S.1 S.2.1 d_LW_take_14 (by decide) ?_
    exact g_iret S hr hk hO.S (fun t ht => ⟨_, _, ⟨0, rfl, .inl ⟨rfl, hU, h10, rfl⟩⟩, by rw [ht]; exact hO.2.1⟩) (Nat.le_of_ble_eq_true rfl) (Nat.le_of_ble_eq_true rfl) d_LW_take_15
theorem h_turned (l : Launch) (hst : l.stackTraces = false) (G : gP) (ad : Nat → Nat) (σ : Nat → Nat → Int32) (τ : Nat → Nat → Int64) (a b : Int32) (nu : Nat) (hnu : σ 0 2 = nI nu) (hn4 : nu ≤ 40) : gH l y_LW_turned (.codeWith y_LW_turned c_LW_turned 5 (some .int) [(0, 10, 13, 29), (0, 10, 17, 13)]) { frames := 9, cells := 2, slots := 12, locals := 154 } G ad σ τ [.ref (ad 0), .int a, .int b, .ref (ad 158)] 2 12 (fun v σ1 τ1 => ∃ z x, v = some (.int z) ∧ htu σ a b z x σ1 ∧ (z = 0 → τ1 158 0 = x.toInt64)) := by
  refine h_of (by decide) (Nat.le_of_ble_eq_true rfl) ?_
  intro p e s m args below meth c ls S hk hr hmap hN hl hO
  have hl : lv_has ls 5 [(0, .ref (ad 0)), (1, .int a), (2, .int b), (3, .ref (ad 158))] := hl
  refine lv_aload_n S.1 S.2.1 d_LW_turned_0 rfl (lv_at hl 3 rfl) ?_
  refine lv_iconst (v := 0) S.1 S.2.1 d_LW_turned_1 (by decide) ?_
  refine lv_aload_n S.1 S.2.1 d_LW_turned_2 rfl (lv_at hl 0 rfl) ?_
  refine lv_iload_n S.1 S.2.1 d_LW_turned_3 rfl (lv_at hl 1 rfl) ?_
  refine lv_iload_n S.1 S.2.1 d_LW_turned_4 rfl (lv_at hl 2 rfl) ?_
  refine g_VP (As := [.int a, .int b]) (rest := [.int 0, .ref (ad 158)]) S hO (k_PR_turned l hst G ad σ τ a b nu hnu hn4) cw_LW_61 (k := 0) (by decide) (sh_0 G ad _ _) rfl rfl hl.1 (Nat.le_of_ble_eq_true rfl) ⟨(Nat.le_of_ble_eq_true rfl), (Nat.le_of_ble_eq_true rfl)⟩ ⟨(Nat.le_of_ble_eq_true rfl), (Nat.le_of_ble_eq_true rfl)⟩ d_LW_turned_5 (fun q x ce H hx hO hce hcv hcl => ?_) (fun v H hp hO => ?_)
  · rcases hx with ⟨rfl, hU⟩ | ⟨hU, rfl, hB⟩
    · refine h_catch S hO [] (st := 0) (en := 10) (hp := 13) (ct := 29) hmap (fun z hz => absurd hz List.not_mem_nil) ⟨by decide, by decide, by decide⟩ kk_LW_29 kq_NSE hce hcv hcl ?_
      refine lv_astore (lv' := [(4, .ref q), (0, .ref (ad 0)), (1, .int a), (2, .int b), (3, .ref (ad 158))]) S.1 S.2.1 d_LW_turned_13 hl (by decide) rfl (fun ls hl => ?_)
      refine lv_iconst (v := 1) S.1 S.2.1 d_LW_turned_15 (by decide) ?_
      exact g_iret S hr hk hO.S (fun t ht => ⟨σ, τ, ⟨1, 0, rfl, .inr (.inl ⟨rfl, hU, rfl⟩), fun h => absurd h (by decide)⟩, by rw [ht]; exact hO.2.1⟩) (Nat.le_of_ble_eq_true rfl) (Nat.le_of_ble_eq_true rfl) d_LW_turned_16
    · refine h_catch S hO [(0, 10, 13, 29)] (st := 0) (en := 10) (hp := 17) (ct := 13) hmap (fun z hz => by
        rcases List.mem_cons.mp hz with rfl | hz
        · exact ⟨by decide, by decide, by decide, _, kk_LW_29, hN.2.1⟩
        exact absurd hz List.not_mem_nil) ⟨by decide, by decide, by decide⟩ kk_LW_13 kq_IAE hce hcv hcl ?_
      refine lv_astore (lv' := [(4, .ref q), (0, .ref (ad 0)), (1, .int a), (2, .int b), (3, .ref (ad 158))]) S.1 S.2.1 d_LW_turned_17 hl (by decide) rfl (fun ls hl => ?_)
      refine lv_iconst (v := 2) S.1 S.2.1 d_LW_turned_19 (by decide) ?_
      exact g_iret S hr hk hO.S (fun t ht => ⟨σ, τ, ⟨2, 0, rfl, .inr (.inr ⟨rfl, hU, hB, rfl⟩), fun h => absurd h (by decide)⟩, by rw [ht]; exact hO.2.1⟩) (Nat.le_of_ble_eq_true rfl) (Nat.le_of_ble_eq_true rfl) d_LW_turned_20
  · obtain ⟨hP, rfl⟩ := hp
    refine W.eq (g2 := F0 m 8 ls [.int _, .int 0, .ref (ad 158)]) rfl ?_
    refine lv_i2l S.1 S.2.1 d_LW_turned_8 rfl ?_
    refine g_las S hO (fun _ h => h) (k := 158) (N := 1) (i := 0) (by decide) (sh_158 G ad _ _) (vp_in_nI (n := 0) (by decide) (by decide)) (enc_l (j := 0) rfl) d_LW_turned_9 (fun H locs hO => ?_)
    refine lv_goto (tgt := 21) S.1 S.2.1 d_LW_turned_10 (by decide) ?_
    refine lv_iconst (v := 0) S.1 S.2.1 d_LW_turned_21 (by decide) ?_
    exact g_iret S hr hk hO.S (fun t ht => ⟨_, _, ⟨0, _, rfl, .inl ⟨rfl, hP, rfl, rfl⟩, fun _ => up2L_s⟩, by rw [ht]; exact hO.2.1⟩) (Nat.le_of_ble_eq_true rfl) (Nat.le_of_ble_eq_true rfl) d_LW_turned_22
theorem h_never (l : Launch) (hst : l.stackTraces = false) (G : gP) (ad : Nat → Nat) (σ : Nat → Nat → Int32) (τ : Nat → Nat → Int64) (a : Int32) (nr : Nat) (hIR : InvR σ nr) : gH l y_LW_never (.codeWith y_LW_never c_LW_never 4 (some .int) [(0, 9, 12, 13)]) { frames := 8, cells := 1, slots := 6, locals := 131 } G ad σ τ [.ref (ad 0), .int a, .ref (ad 158)] 1 6 (fun v σ1 τ1 => ∃ z x, v = some (.int z) ∧ hnv σ nr a z x σ1 ∧ (z = 0 → τ1 158 0 = x.toInt64)) := by
  refine h_of (by decide) (Nat.le_of_ble_eq_true rfl) ?_
  intro p e s m args below meth c ls S hk hr hmap hN hl hO
  have hl : lv_has ls 4 [(0, .ref (ad 0)), (1, .int a), (2, .ref (ad 158))] := hl
  refine lv_aload_n S.1 S.2.1 d_LW_never_0 rfl (lv_at hl 2 rfl) ?_
  refine lv_iconst (v := 0) S.1 S.2.1 d_LW_never_1 (by decide) ?_
  refine lv_aload_n S.1 S.2.1 d_LW_never_2 rfl (lv_at hl 0 rfl) ?_
  refine lv_iload_n S.1 S.2.1 d_LW_never_3 rfl (lv_at hl 1 rfl) ?_
  refine g_VP (As := [.int a]) (rest := [.int 0, .ref (ad 158)]) S hO (k_PR_never l hst G ad σ τ a nr hIR) cw_LW_65 (k := 0) (by decide) (sh_0 G ad _ _) rfl rfl hl.1 (Nat.le_of_ble_eq_true rfl) ⟨(Nat.le_of_ble_eq_true rfl), (Nat.le_of_ble_eq_true rfl)⟩ ⟨(Nat.le_of_ble_eq_true rfl), (Nat.le_of_ble_eq_true rfl)⟩ d_LW_never_4 (fun q x ce H hx hO hce hcv hcl => ?_) (fun v H hp hO => ?_)
  · obtain ⟨rfl, hP⟩ := hx
    refine h_catch S hO [] (st := 0) (en := 9) (hp := 12) (ct := 13) hmap (fun z hz => absurd hz List.not_mem_nil) ⟨by decide, by decide, by decide⟩ kk_LW_13 kq_IAE hce hcv hcl ?_
    refine lv_astore_n (lv' := [(3, .ref q), (0, .ref (ad 0)), (1, .int a), (2, .ref (ad 158))]) S.1 S.2.1 d_LW_never_12 rfl hl (by decide) rfl (fun ls hl => ?_)
    refine lv_iconst (v := 1) S.1 S.2.1 d_LW_never_13 (by decide) ?_
    exact g_iret S hr hk hO.S (fun t ht => ⟨σ, τ, ⟨1, 0, rfl, .inr ⟨rfl, hP, rfl⟩, fun h => absurd h (by decide)⟩, by rw [ht]; exact hO.2.1⟩) (Nat.le_of_ble_eq_true rfl) (Nat.le_of_ble_eq_true rfl) d_LW_never_14
  · obtain ⟨hP, rfl⟩ := hp
    refine W.eq (g2 := F0 m 7 ls [.int _, .int 0, .ref (ad 158)]) rfl ?_
    refine lv_i2l S.1 S.2.1 d_LW_never_7 rfl ?_
    refine g_las S hO (fun _ h => h) (k := 158) (N := 1) (i := 0) (by decide) (sh_158 G ad _ _) (vp_in_nI (n := 0) (by decide) (by decide)) (enc_l (j := 0) rfl) d_LW_never_8 (fun H locs hO => ?_)
    refine lv_goto (tgt := 15) S.1 S.2.1 d_LW_never_9 (by decide) ?_
    refine lv_iconst (v := 0) S.1 S.2.1 d_LW_never_15 (by decide) ?_
    exact g_iret S hr hk hO.S (fun t ht => ⟨_, _, ⟨0, _, rfl, .inl ⟨rfl, hP, rfl, rfl⟩, fun _ => up2L_s⟩, by rw [ht]; exact hO.2.1⟩) (Nat.le_of_ble_eq_true rfl) (Nat.le_of_ble_eq_true rfl) d_LW_never_16
theorem h_clash (l : Launch) (hst : l.stackTraces = false) (G : gP) (ad : Nat → Nat) (σ : Nat → Nat → Int32) (τ : Nat → Nat → Int64) (a b : Int32) (nc : Nat) (hcl9 : σ 4 5 = nI nc) (hc2 : nc ≤ 276) : gH l y_LW_clash (.codeWith y_LW_clash c_LW_clash 5 (some .int) [(0, 10, 13, 13)]) { frames := 8, cells := 2, slots := 12, locals := 134 } G ad σ τ [.ref (ad 0), .int a, .int b, .ref (ad 158)] 2 12 (fun v σ1 τ1 => ∃ z x, v = some (.int z) ∧ hcl σ a b z x σ1 ∧ (z = 0 → τ1 158 0 = x.toInt64)) := by
  refine h_of (by decide) (Nat.le_of_ble_eq_true rfl) ?_
  intro p e s m args below meth c ls S hk hr hmap hN hl hO
  have hl : lv_has ls 5 [(0, .ref (ad 0)), (1, .int a), (2, .int b), (3, .ref (ad 158))] := hl
  refine lv_aload_n S.1 S.2.1 d_LW_clash_0 rfl (lv_at hl 3 rfl) ?_
  refine lv_iconst (v := 0) S.1 S.2.1 d_LW_clash_1 (by decide) ?_
  refine lv_aload_n S.1 S.2.1 d_LW_clash_2 rfl (lv_at hl 0 rfl) ?_
  refine lv_iload_n S.1 S.2.1 d_LW_clash_3 rfl (lv_at hl 1 rfl) ?_
  refine lv_iload_n S.1 S.2.1 d_LW_clash_4 rfl (lv_at hl 2 rfl) ?_
  refine g_VP (As := [.int a, .int b]) (rest := [.int 0, .ref (ad 158)]) S hO (k_PR_clash l hst G ad σ τ a b nc hcl9 hc2) cw_LW_68 (k := 0) (by decide) (sh_0 G ad _ _) rfl rfl hl.1 (Nat.le_of_ble_eq_true rfl) ⟨(Nat.le_of_ble_eq_true rfl), (Nat.le_of_ble_eq_true rfl)⟩ ⟨(Nat.le_of_ble_eq_true rfl), (Nat.le_of_ble_eq_true rfl)⟩ d_LW_clash_5 (fun q x ce H hx hO hce hcv hcl => ?_) (fun v H hp hO => ?_)
  · obtain ⟨rfl, hP⟩ := hx
    refine h_catch S hO [] (st := 0) (en := 10) (hp := 13) (ct := 13) hmap (fun z hz => absurd hz List.not_mem_nil) ⟨by decide, by decide, by decide⟩ kk_LW_13 kq_IAE hce hcv hcl ?_
    refine lv_astore (lv' := [(4, .ref q), (0, .ref (ad 0)), (1, .int a), (2, .int b), (3, .ref (ad 158))]) S.1 S.2.1 d_LW_clash_13 hl (by decide) rfl (fun ls hl => ?_)
    refine lv_iconst (v := 1) S.1 S.2.1 d_LW_clash_15 (by decide) ?_
    exact g_iret S hr hk hO.S (fun t ht => ⟨σ, τ, ⟨1, 0, rfl, .inr ⟨rfl, hP, rfl⟩, fun h => absurd h (by decide)⟩, by rw [ht]; exact hO.2.1⟩) (Nat.le_of_ble_eq_true rfl) (Nat.le_of_ble_eq_true rfl) d_LW_clash_16
  · obtain ⟨hP, rfl⟩ := hp
    refine W.eq (g2 := F0 m 8 ls [.int _, .int 0, .ref (ad 158)]) rfl ?_
    refine lv_i2l S.1 S.2.1 d_LW_clash_8 rfl ?_
    refine g_las S hO (fun _ h => h) (k := 158) (N := 1) (i := 0) (by decide) (sh_158 G ad _ _) (vp_in_nI (n := 0) (by decide) (by decide)) (enc_l (j := 0) rfl) d_LW_clash_9 (fun H locs hO => ?_)
    refine lv_goto (tgt := 17) S.1 S.2.1 d_LW_clash_10 (by decide) ?_
    refine lv_iconst (v := 0) S.1 S.2.1 d_LW_clash_17 (by decide) ?_
    exact g_iret S hr hk hO.S (fun t ht => ⟨_, _, ⟨0, _, rfl, .inl ⟨rfl, hP, rfl, rfl⟩, fun _ => up2L_s⟩, by rw [ht]; exact hO.2.1⟩) (Nat.le_of_ble_eq_true rfl) (Nat.le_of_ble_eq_true rfl) d_LW_clash_18
theorem h_at (l : Launch) (hst : l.stackTraces = false) (G : gP) (ad : Nat → Nat) (σ : Nat → Nat → Int32) (τ : Nat → Nat → Int64) (a b : Int32) (nu : Nat) (hnu : σ 0 2 = nI nu) (hn4 : nu ≤ 40) : gH l y_LW_at (.codeWith y_LW_at c_LW_at 5 (some .int) [(0, 10, 13, 13)]) { frames := 9, cells := 2, slots := 12, locals := 156 } G ad σ τ [.ref (ad 0), .int a, .int b, .ref (ad 158)] 2 12 (fun v σ1 τ1 => ∃ z x, v = some (.int z) ∧ hat σ nu a b z x σ1 ∧ (z = 0 → τ1 158 0 = x.toInt64)) := by
  refine h_of (by decide) (Nat.le_of_ble_eq_true rfl) ?_
  intro p e s m args below meth c ls S hk hr hmap hN hl hO
  have hl : lv_has ls 5 [(0, .ref (ad 0)), (1, .int a), (2, .int b), (3, .ref (ad 158))] := hl
  refine lv_aload_n S.1 S.2.1 d_LW_at_0 rfl (lv_at hl 3 rfl) ?_
  refine lv_iconst (v := 0) S.1 S.2.1 d_LW_at_1 (by decide) ?_
  refine lv_aload_n S.1 S.2.1 d_LW_at_2 rfl (lv_at hl 0 rfl) ?_
  refine lv_iload_n S.1 S.2.1 d_LW_at_3 rfl (lv_at hl 1 rfl) ?_
  refine lv_iload_n S.1 S.2.1 d_LW_at_4 rfl (lv_at hl 2 rfl) ?_
  refine g_VP (As := [.int a, .int b]) (rest := [.int 0, .ref (ad 158)]) S hO (k_PR_at l hst G ad σ τ a b nu hnu hn4) cw_LW_71 (k := 0) (by decide) (sh_0 G ad _ _) rfl rfl hl.1 (Nat.le_of_ble_eq_true rfl) ⟨(Nat.le_of_ble_eq_true rfl), (Nat.le_of_ble_eq_true rfl)⟩ ⟨(Nat.le_of_ble_eq_true rfl), (Nat.le_of_ble_eq_true rfl)⟩ d_LW_at_5 (fun q x ce H hx hO hce hcv hcl => ?_) (fun v H hp hO => ?_)
  · obtain ⟨rfl, hP⟩ := hx
    refine h_catch S hO [] (st := 0) (en := 10) (hp := 13) (ct := 13) hmap (fun z hz => absurd hz List.not_mem_nil) ⟨by decide, by decide, by decide⟩ kk_LW_13 kq_IAE hce hcv hcl ?_
    refine lv_astore (lv' := [(4, .ref q), (0, .ref (ad 0)), (1, .int a), (2, .int b), (3, .ref (ad 158))]) S.1 S.2.1 d_LW_at_13 hl (by decide) rfl (fun ls hl => ?_)
    refine lv_iconst (v := 1) S.1 S.2.1 d_LW_at_15 (by decide) ?_
    exact g_iret S hr hk hO.S (fun t ht => ⟨σ, τ, ⟨1, 0, rfl, .inr ⟨rfl, hP, rfl⟩, fun h => absurd h (by decide)⟩, by rw [ht]; exact hO.2.1⟩) (Nat.le_of_ble_eq_true rfl) (Nat.le_of_ble_eq_true rfl) d_LW_at_16
  · obtain ⟨hP, rfl⟩ := hp
    refine W.eq (g2 := F0 m 8 ls [.int _, .int 0, .ref (ad 158)]) rfl ?_
    refine lv_i2l S.1 S.2.1 d_LW_at_8 rfl ?_
    refine g_las S hO (fun _ h => h) (k := 158) (N := 1) (i := 0) (by decide) (sh_158 G ad _ _) (vp_in_nI (n := 0) (by decide) (by decide)) (enc_l (j := 0) rfl) d_LW_at_9 (fun H locs hO => ?_)
    refine lv_goto (tgt := 17) S.1 S.2.1 d_LW_at_10 (by decide) ?_
    refine lv_iconst (v := 0) S.1 S.2.1 d_LW_at_17 (by decide) ?_
    exact g_iret S hr hk hO.S (fun t ht => ⟨_, _, ⟨0, _, rfl, .inl ⟨rfl, hP, rfl, rfl⟩, fun _ => up2L_s⟩, by rw [ht]; exact hO.2.1⟩) (Nat.le_of_ble_eq_true rfl) (Nat.le_of_ble_eq_true rfl) d_LW_at_18
