/-! The kinds (constants), the JDK's leaves, what is left of the small classes. Written by wip/tools/m21.py. -/
theorem kz_KINDS : Cond.fieldLinkNest "PlaceRules$Text" 98 "PlaceRules" "KINDS" "[LPlaceRules$Kind;" "PlaceRules" ∈ lw_tbl := gd_2 200 rfl
abbrev kOr (i : Nat) : Int32 := [0, 1, 2, 3, 4, 5, 6, 7, 8, 9, 10].getD i 0
abbrev kNu (i : Nat) : Int32 := [1, 1, 1, 1, 1, 2, 2, 1, 1, 1, 1].getD i 0
abbrev kLe (i : Nat) : Int32 := [0, 0, 1, 1, 1, 0, 0, 1, 0, 0, 0].getD i 0
abbrev kMo (i : Nat) : Int32 := [1, 100000, 20, 20, 20, 7, 7, 40, 1000, 1000, 3].getD i 0
theorem kOr_n : ∀ i : Nat, i < 11 → kOr i = nI i := by decide
section GKK
variable {p : Program} {l : Launch} {e : Env} {R : Room} {s : State} {m : MethodId} {args : Array Value} {below : List Frame} {meth : Method} {c : Code} {H : Heap} {locs : List Loc} {cells slots : Nat} {Q : State → Prop}
variable {y : MethodName} {bytes cc : ByteArray} {maxL nL mc ms index pc : Nat} {ret : Option FieldType} {rm : Room} {A : Nat → Prop} {own : String} {As rest : List Value} {ls : Array Slot} {G : gP} {n : Nat} {ad : Nat → Nat} {E : Nat → va_E} {xp : String → Prop}
theorem gO.en (hO : gO G A n ad E s H locs) : va_En "PlaceRules$Kind" "LPlaceRules$Kind;" gkn gkF (ga G) (gA G) s s.heap := hO.2.2.2.2.2.2.2.2.2.1
theorem g_getk (S : CallFix p m c cc nL s args gts own) (hO : gO G A n ad E s H locs) {i : Nat} (hi : i < 11) {q : String × String × String × List Int32} (hq : q ∈ gkF) (hlink : Cond.fieldLink own index q.1 q.2.1 q.2.2.1 ∈ gts) (hdg : decode cc pc = .ok (.getfield index, 3))
    (kk : W p l e R s m args below meth c H locs cells slots Q (F0 m (pc + 3) ls (.int (q.2.2.2.getD i 0) :: rest))) : W p l e R s m args below meth c H locs cells slots Q (F0 m pc ls (.ref (ga G i) :: rest)) :=
  va_getE S.1 S.2.1 hO.en hi hO.SG S.2.2.2.1 hq (S.2.2.2.2 _ hlink) (fun _ h => h) hdg kk
theorem g_VPK {post : Option Value → Prop} (S : CallFix p m c cc nL s args gts own) (hO : gO G A n ad E s H locs) {i : Nat} (hi : i < 11) (hM : gPu l y (.code y bytes maxL ret) rm G n ad E (.ref (ga G i) :: As) mc ms post xp) (hw : gWV own index y (.code y bytes maxL ret) As.length) (hq : "PlaceRules$Kind" = y.cls)
    (hsz : ls.size = nL) (hrest : (rest.map fun v => v.category).sum ≤ 8) (hR : rm.frames + 1 ≤ R.frames ∧ 8 + (maxL + 11) + rm.locals ≤ R.locals) (hR2 : cells + rm.cells ≤ R.cells ∧ slots + rm.slots ≤ R.slots) (hdg : decode cc pc = .ok (.invokevirtual index, 3))
    (kx : ∀ (q : Addr) (x : String) (ce : Cell) (H1 : Heap), xp x → gO G A n ad E s H1 locs → H1[q]? = some ce → ce.vm = .none → s.vm.findClass x = some ce.cls → gX p l e R s m args below meth c H1 locs (cells + mc) (slots + ms) Q (F0 m pc ls rest) q)
    (kk : ∀ (v : Option Value) (H1 : Heap), post v → gO G A n ad E s H1 locs → W p l e R s m args below meth c H1 locs (cells + mc) (slots + ms) Q (F0 m (pc + 3) ls (v.toList ++ rest))) :
    W p l e R s m args below meth c H locs cells slots Q (F0 m pc ls (As.reverse ++ .ref (ga G i) :: rest)) := by
  obtain ⟨w1, w2, w3, w4, w5, w6, w7⟩ := hw
  refine g_V (A := A) S hM w1 w2 w3 w4 w5 w6 w7 (by rw [← hq]; exact va_recvE hO.en hi hO.SG) gI.blind (fun U hU hW => ⟨rfl, hO.to hU hW⟩) hsz hrest hR.1 hR.2 hR2.1 hR2.2 hO.S (fun _ h => h.elim) hdg (fun q x ce t H1 L ht hx z1 z2 hL hS hce hcv hcl => ?_) (fun v t H1 L ht hv z1 z2 hL hS => ?_)
  · have e1 := g_none hL
    subst e1
    rw [List.append_nil] at hS ⊢
    exact kx q x ce H1 hx (hO.keep (fun q h => z2 q h id) hS) hce hcv hcl
  · have e1 := g_none hL
    subst e1
    rw [List.append_nil] at hS ⊢
    exact kk v H1 hv (hO.keep (fun q h => z2 q h id) hS)
/-- Enum.ordinal() of a kind -/
theorem m_ord (l : Launch) (G : gP) (n : Nat) (ad : Nat → Nat) (E : Nat → va_E) (i : Nat) (hi : i < 11) : Met l y_java_lang_Enum_ordinal [.code y_java_lang_Enum_ordinal c_java_lang_Enum_ordinal 1 (some .int)] { frames := 0, cells := 0, slots := 0, locals := 0 } (va_Pc [.ref (ga G i)] (gI G n ad E)) (va_Qi (fun r (_ : Unit) => r = nI i) (fun _ _ => True) (fun _ => False)) 0 0 (fun _ => False) := by
  refine Met.ofW (cc := c_java_lang_Enum_ordinal) (maxL := 1) (ret := some .int) (by decide) rfl ?_
  intro p e s m args below meth c s₁ B hml hv
  obtain ⟨rfl, hI⟩ := hv
  have hO := hI.start (A := fun _ => False) (fun _ h => h.elim)
  have S : CallFix p m c c_java_lang_Enum_ordinal 1 s #[Value.ref (ga G i)] gts "java/lang/Enum" := ⟨B.exec, B.bytes, hml, findClass_of_methodNamed B.named, hI.2.2.2.2.at _⟩
  have hl := lv_entry ([.ref (ga G i)]) (n := 1) (Nat.le_of_ble_eq_true rfl)
  rw [lg_entry_eq]
  generalize (lg_sl ([.ref (ga G i)]) ++ List.replicate (1 - (lg_sl ([.ref (ga G i)])).length) Slot.unset).toArray = ls at hl ⊢
  have hl : lv_has ls 1 [(0, .ref (ga G i))] := hl
  refine lv_aload_n S.1 S.2.1 d_java_lang_Enum_ordinal_0 rfl (lv_at hl 0 rfl) ?_
  refine g_getk S hO hi (q := gkF.getD 0 ("", "", "", [])) (by decide) kf_java_lang_Enum_7 d_java_lang_Enum_ordinal_1 ?_
  exact W.iret (v := kOr i) S.1 S.2.1 B.returns (fun t ht hW => ⟨⟨kOr i, (), rfl, kOr_n i hi, trivial⟩, hO.S.F ht⟩) hO.S.2.2 d_java_lang_Enum_ordinal_4 B.notSynchronized
theorem g_ord (S : CallFix p m c cc nL s args gts "PlaceRules$Rule") (hO : gO G A n ad E s H locs) {i : Nat} (hi : i < 11) (hsz : ls.size = nL) (hrest : (rest.map fun v => v.category).sum ≤ 8) (hR : 1 ≤ R.frames ∧ 20 ≤ R.locals) (hR2 : cells ≤ R.cells ∧ slots ≤ R.slots) (hdg : decode cc pc = .ok (.invokevirtual 24, 3))
    (kk : ∀ (H1 : Heap), gO G A n ad E s H1 locs → W p l e R s m args below meth c H1 locs cells slots Q (F0 m (pc + 3) ls (.int (nI i) :: rest))) :
    W p l e R s m args below meth c H locs cells slots Q (F0 m pc ls (.ref (ga G i) :: rest)) := by
  have hcode := S.2.2.2.2 _ kc_java_lang_Enum_ordinal
  have hr := va_runU (R := R) (below := below) (meth := meth) (H := H) (locs := locs) (cells := cells) (slots := slots) (rest := rest) (As := []) (b := ga G i) (g := F0 m pc ls (.ref (ga G i) :: rest)) (C := "PlaceRules$Kind") (owner := "java/lang/Enum") (x := ⟨"PlaceRules$Kind", "ordinal", "()I"⟩) (e := e) S (m_ord l G n ad E i hi)
    ⟨⟨rfl, rfl, hR.1, by simpa using hR.2, fun w hw a' U hW => by rw [List.mem_singleton.mp hw]; exact gts_at S.2.2.2.2 hW kc_java_lang_Enum_ordinal, List.mem_cons_self⟩, hcode, S.2.2.2.2 _ kt_java_lang_Enum, by decide, fun sig h => by
      have h9 : parseMethodDescriptor "()I" = some sig := h
      have h8 : (parseMethodDescriptor "()I").map (fun d => d.parameters.length) = some 0 := by decide
      rw [h9] at h8
      exact (Option.some.inj h8).symm, S.2.2.2.2 _ km_RU_24, S.2.2.2.2 _ kq_ord, va_Decl.of (S.2.2.2.2 _ ki_java_lang_Enum_ordinal) hcode, S.2.2.2.2 _ kr_ord, S.2.2.2.2 _ ki_java_lang_Enum_ordinal⟩
    ⟨gI.blind, va_recvE hO.en hi hO.SG, fun U hU hW => ⟨rfl, hO.to hU hW⟩⟩ rfl rfl hsz rfl (lv_room hrest) hdg ⟨hR2.1, hR2.2⟩
  intro T hT X
  obtain ⟨v, st₀, t, T', L, h0, X', hL, e1, e2, ⟨⟨r, u, hv, hp, -⟩, hF⟩, st⟩ := hr T hT X
  have e3 := g_none hL
  subst e3
  cases hv
  subst hp
  obtain ⟨z1, z2⟩ := hF
  rw [h0] at z1 z2
  rw [List.append_nil] at X'
  have hS : va_S A s.heap T'.heap locs := by
    rw [e1]
    exact ⟨Nat.le_trans hO.S.1 z1, fun q h1 h2 => by rw [z2 q (Nat.lt_of_lt_of_le h1 hO.S.1) id]; exact hO.S.2.1 q h1 h2, hO.S.2.2⟩
  obtain ⟨t2, a1, b1⟩ := kk T'.heap (hO.keep (fun q h => by rw [e1]; exact z2 q h id) hS) T' rfl X'
  exact ⟨t2, st t2 a1, b1⟩
end GKK
set_option maxHeartbeats 4000000 in
set_option maxRecDepth 100000 in
theorem k_KD_hasSecond (l : Launch) (G : gP) (ad : Nat → Nat) (σ : Nat → Nat → Int32) (τ : Nat → Nat → Int64) (i : Nat) (hi : i < 11) : gpu l y_KD_hasSecond c_KD_hasSecond 1 (some .boolean) { frames := 0, cells := 0, slots := 0, locals := 0 } G ad σ τ [.ref (ga G i)] 0 0 (fun v => v = some (.int (if kNu i = 2 then 1 else 0))) (fun _ => False) := by
  refine gs_of (fun _ h => h.elim) (by decide) (Nat.le_of_ble_eq_true rfl) ?_
  intro p e s m args below meth c ls S hk hr hx hl hO
  have hl : lv_has ls 1 [(0, .ref (ga G i))] := hl
  refine lv_aload_n S.1 S.2.1 d_KD_hasSecond_0 rfl (lv_at hl 0 rfl) ?_
  refine g_getk S hO (i := i) (by omega) (q := gkF.getD 1 ("", "", "", [])) (by decide) kf_KD_60 d_KD_hasSecond_1 ?_
  refine lv_iconst (v := 2) S.1 S.2.1 d_KD_hasSecond_4 (by decide) ?_
  refine lv_icmp_ne (tgt := 12) S.1 S.2.1 d_KD_hasSecond_5 (by decide) (fun c_5 => ?_) (fun c_5 => ?_)
  · skip
    refine lv_iconst (v := 0) S.1 S.2.1 d_KD_hasSecond_12 (by decide) ?_
    exact pu_z S hk hr hO (by first | exact Or.inl rfl | exact Or.inr rfl) (by first | exact z_p c_5 | exact z_n c_5) (Nat.le_of_ble_eq_true rfl) (Nat.le_of_ble_eq_true rfl) d_KD_hasSecond_13
  · skip
    refine lv_iconst (v := 1) S.1 S.2.1 d_KD_hasSecond_8 (by decide) ?_
    refine lv_goto (tgt := 13) S.1 S.2.1 d_KD_hasSecond_9 (by decide) ?_
    exact pu_z S hk hr hO (by first | exact Or.inl rfl | exact Or.inr rfl) (by first | exact z_p c_5 | exact z_n c_5) (Nat.le_of_ble_eq_true rfl) (Nat.le_of_ble_eq_true rfl) d_KD_hasSecond_13
set_option maxHeartbeats 4000000 in
set_option maxRecDepth 100000 in
theorem k_KD_leastSecond (l : Launch) (G : gP) (ad : Nat → Nat) (σ : Nat → Nat → Int32) (τ : Nat → Nat → Int64) (i : Nat) (hi : i < 11) : gpu l y_KD_leastSecond c_KD_leastSecond 1 (some .int) { frames := 1, cells := 0, slots := 0, locals := 20 } G ad σ τ [.ref (ga G i)] 0 0 (fun v => v = some (.int (if kNu i = 2 then kLe i else 0))) (fun _ => False) := by
  refine gs_of (fun _ h => h.elim) (by decide) (Nat.le_of_ble_eq_true rfl) ?_
  intro p e s m args below meth c ls S hk hr hx hl hO
  have hl : lv_has ls 1 [(0, .ref (ga G i))] := hl
  refine lv_aload_n S.1 S.2.1 d_KD_leastSecond_0 rfl (lv_at hl 0 rfl) ?_
  refine g_VPK (As := []) (rest := []) S hO (i := i) (by omega) (k_KD_hasSecond l G ad σ τ i (by omega)) cw_KD_70 rfl hl.1 (Nat.le_of_ble_eq_true rfl) ⟨(Nat.le_of_ble_eq_true rfl), (Nat.le_of_ble_eq_true rfl)⟩ ⟨(Nat.le_of_ble_eq_true rfl), (Nat.le_of_ble_eq_true rfl)⟩ d_KD_leastSecond_1 (fun q x ce H h9 => h9.elim) (fun v H v_1 hO => ?_)
  subst v_1
  refine W.eq (g2 := F0 m 4 ls [.int (if kNu i = 2 then 1 else 0)]) rfl ?_
  refine lv_if_eq (tgt := 14) S.1 S.2.1 d_KD_leastSecond_4 (by decide) (fun c_4 => ?_) (fun c_4 => ?_)
  · skip
    refine lv_iconst (v := 0) S.1 S.2.1 d_KD_leastSecond_14 (by decide) ?_
    exact pu_i S hk hr hO (by first | exact congrArg (fun z => some (Value.int z)) (if_neg (z_0.mp c_4)).symm | exact congrArg (fun z => some (Value.int z)) (if_pos (z_1.mp c_4)).symm) (Nat.le_of_ble_eq_true rfl) (Nat.le_of_ble_eq_true rfl) d_KD_leastSecond_15
  · skip
    refine lv_aload_n S.1 S.2.1 d_KD_leastSecond_7 rfl (lv_at hl 0 rfl) ?_
    refine g_getk S hO (i := i) (by omega) (q := gkF.getD 2 ("", "", "", [])) (by decide) kf_KD_64 d_KD_leastSecond_8 ?_
    refine lv_goto (tgt := 15) S.1 S.2.1 d_KD_leastSecond_11 (by decide) ?_
    exact pu_i S hk hr hO (by first | exact congrArg (fun z => some (Value.int z)) (if_neg (z_0.mp c_4)).symm | exact congrArg (fun z => some (Value.int z)) (if_pos (z_1.mp c_4)).symm) (Nat.le_of_ble_eq_true rfl) (Nat.le_of_ble_eq_true rfl) d_KD_leastSecond_15
set_option maxHeartbeats 4000000 in
set_option maxRecDepth 100000 in
theorem k_KD_mostSecond (l : Launch) (G : gP) (ad : Nat → Nat) (σ : Nat → Nat → Int32) (τ : Nat → Nat → Int64) (i : Nat) (hi : i < 11) : gpu l y_KD_mostSecond c_KD_mostSecond 1 (some .int) { frames := 1, cells := 0, slots := 0, locals := 20 } G ad σ τ [.ref (ga G i)] 0 0 (fun v => v = some (.int (if kNu i = 2 then kMo i else 0))) (fun _ => False) := by
  refine gs_of (fun _ h => h.elim) (by decide) (Nat.le_of_ble_eq_true rfl) ?_
  intro p e s m args below meth c ls S hk hr hx hl hO
  have hl : lv_has ls 1 [(0, .ref (ga G i))] := hl
  refine lv_aload_n S.1 S.2.1 d_KD_mostSecond_0 rfl (lv_at hl 0 rfl) ?_
  refine g_VPK (As := []) (rest := []) S hO (i := i) (by omega) (k_KD_hasSecond l G ad σ τ i (by omega)) cw_KD_70 rfl hl.1 (Nat.le_of_ble_eq_true rfl) ⟨(Nat.le_of_ble_eq_true rfl), (Nat.le_of_ble_eq_true rfl)⟩ ⟨(Nat.le_of_ble_eq_true rfl), (Nat.le_of_ble_eq_true rfl)⟩ d_KD_mostSecond_1 (fun q x ce H h9 => h9.elim) (fun v H v_1 hO => ?_)
  subst v_1
  refine W.eq (g2 := F0 m 4 ls [.int (if kNu i = 2 then 1 else 0)]) rfl ?_
  refine lv_if_eq (tgt := 14) S.1 S.2.1 d_KD_mostSecond_4 (by decide) (fun c_4 => ?_) (fun c_4 => ?_)
  · skip
    refine lv_iconst (v := 0) S.1 S.2.1 d_KD_mostSecond_14 (by decide) ?_
    exact pu_i S hk hr hO (by first | exact congrArg (fun z => some (Value.int z)) (if_neg (z_0.mp c_4)).symm | exact congrArg (fun z => some (Value.int z)) (if_pos (z_1.mp c_4)).symm) (Nat.le_of_ble_eq_true rfl) (Nat.le_of_ble_eq_true rfl) d_KD_mostSecond_15
  · skip
    refine lv_aload_n S.1 S.2.1 d_KD_mostSecond_7 rfl (lv_at hl 0 rfl) ?_
    refine g_getk S hO (i := i) (by omega) (q := gkF.getD 3 ("", "", "", [])) (by decide) kf_KD_67 d_KD_mostSecond_8 ?_
    refine lv_goto (tgt := 15) S.1 S.2.1 d_KD_mostSecond_11 (by decide) ?_
    exact pu_i S hk hr hO (by first | exact congrArg (fun z => some (Value.int z)) (if_neg (z_0.mp c_4)).symm | exact congrArg (fun z => some (Value.int z)) (if_pos (z_1.mp c_4)).symm) (Nat.le_of_ble_eq_true rfl) (Nat.le_of_ble_eq_true rfl) d_KD_mostSecond_15
def bc1 (x : Int64) : Int64 := x - ((x.toUInt64 >>> ((1 : Int32).toInt64.toUInt64 &&& Int64.toUInt64 63)).toInt64 &&& 6148914691236517205)
def bc2 (x : Int64) : Int64 := (x &&& 3689348814741910323) + ((x.toUInt64 >>> ((2 : Int32).toInt64.toUInt64 &&& Int64.toUInt64 63)).toInt64 &&& 3689348814741910323)
def bc3 (x : Int64) : Int64 := (x + (x.toUInt64 >>> ((4 : Int32).toInt64.toUInt64 &&& Int64.toUInt64 63)).toInt64) &&& 1085102592571150095
def bc4 (x : Int64) : Int64 := x + (x.toUInt64 >>> ((8 : Int32).toInt64.toUInt64 &&& Int64.toUInt64 63)).toInt64
def bc5 (x : Int64) : Int64 := x + (x.toUInt64 >>> ((16 : Int32).toInt64.toUInt64 &&& Int64.toUInt64 63)).toInt64
def bc6 (x : Int64) : Int64 := x + (x.toUInt64 >>> ((32 : Int32).toInt64.toUInt64 &&& Int64.toUInt64 63)).toInt64
def bcF (x : Int64) : Int32 := (bc6 (bc5 (bc4 (bc3 (bc2 (bc1 x)))))).toInt32 &&& 127
set_option maxHeartbeats 4000000 in
set_option maxRecDepth 100000 in
theorem k_java_lang_Long_bitCount (l : Launch) (G : gP) (ad : Nat → Nat) (σ : Nat → Nat → Int32) (τ : Nat → Nat → Int64) (x : Int64) : gpu l y_java_lang_Long_bitCount c_java_lang_Long_bitCount 2 (some .int) { frames := 0, cells := 0, slots := 0, locals := 0 } G ad σ τ [.long x] 0 0 (fun v => v = some (.int (bcF x))) (fun _ => False) := by
  refine gs_of (fun _ h => h.elim) (by decide) (Nat.le_of_ble_eq_true rfl) ?_
  intro p e s m args below meth c ls S hk hr hx hl hO
  have hl : lv_has ls 2 [(0, .long x)] := hl
  refine lv_lload_n S.1 S.2.1 d_java_lang_Long_bitCount_0 rfl (lv_at hl 0 rfl) ?_
  refine lv_lload_n S.1 S.2.1 d_java_lang_Long_bitCount_1 rfl (lv_at hl 0 rfl) ?_
  refine lv_iconst (v := 1) S.1 S.2.1 d_java_lang_Long_bitCount_2 (by decide) ?_
  refine lv_lushr (v := (x.toUInt64 >>> ((1 : Int32).toInt64.toUInt64 &&& Int64.toUInt64 63)).toInt64) S.1 S.2.1 d_java_lang_Long_bitCount_3 rfl ?_
  refine lv_ldc2 (v := 6148914691236517205) S.1 S.2.1 S.2.2.2.1 (S.2.2.2.2 _ kv_java_lang_Long_314) d_java_lang_Long_bitCount_4 ?_
  refine lv_land S.1 S.2.1 d_java_lang_Long_bitCount_7 ?_
  refine lv_lsub S.1 S.2.1 d_java_lang_Long_bitCount_8 ?_
  refine lv_topl (fun x_1 ex_1 => ?_)
  refine lv_lstore_n (lv' := [(0, .long x_1)]) S.1 S.2.1 d_java_lang_Long_bitCount_9 rfl hl (by decide) rfl (fun ls hl => ?_)
  refine lv_lload_n S.1 S.2.1 d_java_lang_Long_bitCount_10 rfl (lv_at hl 0 rfl) ?_
  refine lv_ldc2 (v := 3689348814741910323) S.1 S.2.1 S.2.2.2.1 (S.2.2.2.2 _ kv_java_lang_Long_316) d_java_lang_Long_bitCount_11 ?_
  refine lv_land S.1 S.2.1 d_java_lang_Long_bitCount_14 ?_
  refine lv_lload_n S.1 S.2.1 d_java_lang_Long_bitCount_15 rfl (lv_at hl 0 rfl) ?_
  refine lv_iconst (v := 2) S.1 S.2.1 d_java_lang_Long_bitCount_16 (by decide) ?_
  refine lv_lushr (v := (x_1.toUInt64 >>> ((2 : Int32).toInt64.toUInt64 &&& Int64.toUInt64 63)).toInt64) S.1 S.2.1 d_java_lang_Long_bitCount_17 rfl ?_
  refine lv_ldc2 (v := 3689348814741910323) S.1 S.2.1 S.2.2.2.1 (S.2.2.2.2 _ kv_java_lang_Long_316) d_java_lang_Long_bitCount_18 ?_
  refine lv_land S.1 S.2.1 d_java_lang_Long_bitCount_21 ?_
  refine lv_ladd S.1 S.2.1 d_java_lang_Long_bitCount_22 ?_
  refine lv_topl (fun x_2 ex_2 => ?_)
  refine lv_lstore_n (lv' := [(0, .long x_2)]) S.1 S.2.1 d_java_lang_Long_bitCount_23 rfl hl (by decide) rfl (fun ls hl => ?_)
  refine lv_lload_n S.1 S.2.1 d_java_lang_Long_bitCount_24 rfl (lv_at hl 0 rfl) ?_
  refine lv_lload_n S.1 S.2.1 d_java_lang_Long_bitCount_25 rfl (lv_at hl 0 rfl) ?_
  refine lv_iconst (v := 4) S.1 S.2.1 d_java_lang_Long_bitCount_26 (by decide) ?_
  refine lv_lushr (v := (x_2.toUInt64 >>> ((4 : Int32).toInt64.toUInt64 &&& Int64.toUInt64 63)).toInt64) S.1 S.2.1 d_java_lang_Long_bitCount_27 rfl ?_
  refine lv_ladd S.1 S.2.1 d_java_lang_Long_bitCount_28 ?_
  refine lv_ldc2 (v := 1085102592571150095) S.1 S.2.1 S.2.2.2.1 (S.2.2.2.2 _ kv_java_lang_Long_318) d_java_lang_Long_bitCount_29 ?_
  refine lv_land S.1 S.2.1 d_java_lang_Long_bitCount_32 ?_
  refine lv_topl (fun x_3 ex_3 => ?_)
  refine lv_lstore_n (lv' := [(0, .long x_3)]) S.1 S.2.1 d_java_lang_Long_bitCount_33 rfl hl (by decide) rfl (fun ls hl => ?_)
  refine lv_lload_n S.1 S.2.1 d_java_lang_Long_bitCount_34 rfl (lv_at hl 0 rfl) ?_
  refine lv_lload_n S.1 S.2.1 d_java_lang_Long_bitCount_35 rfl (lv_at hl 0 rfl) ?_
  refine lv_bipush (v := 8) S.1 S.2.1 d_java_lang_Long_bitCount_36 (by decide) ?_
  refine lv_lushr (v := (x_3.toUInt64 >>> ((8 : Int32).toInt64.toUInt64 &&& Int64.toUInt64 63)).toInt64) S.1 S.2.1 d_java_lang_Long_bitCount_38 rfl ?_
  refine lv_ladd S.1 S.2.1 d_java_lang_Long_bitCount_39 ?_
  refine lv_topl (fun x_4 ex_4 => ?_)
  refine lv_lstore_n (lv' := [(0, .long x_4)]) S.1 S.2.1 d_java_lang_Long_bitCount_40 rfl hl (by decide) rfl (fun ls hl => ?_)
  refine lv_lload_n S.1 S.2.1 d_java_lang_Long_bitCount_41 rfl (lv_at hl 0 rfl) ?_
  refine lv_lload_n S.1 S.2.1 d_java_lang_Long_bitCount_42 rfl (lv_at hl 0 rfl) ?_
  refine lv_bipush (v := 16) S.1 S.2.1 d_java_lang_Long_bitCount_43 (by decide) ?_
  refine lv_lushr (v := (x_4.toUInt64 >>> ((16 : Int32).toInt64.toUInt64 &&& Int64.toUInt64 63)).toInt64) S.1 S.2.1 d_java_lang_Long_bitCount_45 rfl ?_
  refine lv_ladd S.1 S.2.1 d_java_lang_Long_bitCount_46 ?_
  refine lv_topl (fun x_5 ex_5 => ?_)
  refine lv_lstore_n (lv' := [(0, .long x_5)]) S.1 S.2.1 d_java_lang_Long_bitCount_47 rfl hl (by decide) rfl (fun ls hl => ?_)
  refine lv_lload_n S.1 S.2.1 d_java_lang_Long_bitCount_48 rfl (lv_at hl 0 rfl) ?_
  refine lv_lload_n S.1 S.2.1 d_java_lang_Long_bitCount_49 rfl (lv_at hl 0 rfl) ?_
  refine lv_bipush (v := 32) S.1 S.2.1 d_java_lang_Long_bitCount_50 (by decide) ?_
  refine lv_lushr (v := (x_5.toUInt64 >>> ((32 : Int32).toInt64.toUInt64 &&& Int64.toUInt64 63)).toInt64) S.1 S.2.1 d_java_lang_Long_bitCount_52 rfl ?_
  refine lv_ladd S.1 S.2.1 d_java_lang_Long_bitCount_53 ?_
  refine lv_topl (fun x_6 ex_6 => ?_)
  refine lv_lstore_n (lv' := [(0, .long x_6)]) S.1 S.2.1 d_java_lang_Long_bitCount_54 rfl hl (by decide) rfl (fun ls hl => ?_)
  refine lv_lload_n S.1 S.2.1 d_java_lang_Long_bitCount_55 rfl (lv_at hl 0 rfl) ?_
  refine lv_l2i (v := x_6.toInt32) S.1 S.2.1 d_java_lang_Long_bitCount_56 rfl ?_
  refine lv_bipush (v := 127) S.1 S.2.1 d_java_lang_Long_bitCount_57 (by decide) ?_
  refine lv_iand S.1 S.2.1 d_java_lang_Long_bitCount_59 ?_
  exact pu_i S hk hr hO (by subst ex_6; subst ex_5; subst ex_4; subst ex_3; subst ex_2; subst ex_1; rfl) (Nat.le_of_ble_eq_true rfl) (Nat.le_of_ble_eq_true rfl) d_java_lang_Long_bitCount_60
set_option maxHeartbeats 4000000 in
set_option maxRecDepth 100000 in
theorem k_NS_howMany (l : Launch) (G : gP) (ad : Nat → Nat) (σ : Nat → Nat → Int32) (τ : Nat → Nat → Int64) (i : Nat) (hi : i < 4) : gpu l y_NS_howMany c_NS_howMany 1 (some .int) { frames := 1, cells := 0, slots := 0, locals := 21 } G ad σ τ [.ref (ad (63 + i))] 0 0 (fun v => v = some (.int (bcF (τ (63 + i) 0) + bcF (τ (63 + i) 1)))) (fun _ => False) := by
  refine gs_of (fun _ h => h.elim) (by decide) (Nat.le_of_ble_eq_true rfl) ?_
  intro p e s m args below meth c ls S hk hr hx hl hO
  have hl : lv_has ls 1 [(0, .ref (ad (63 + i)))] := hl
  refine lv_aload_n S.1 S.2.1 d_NS_howMany_0 rfl (lv_at hl 0 rfl) ?_
  refine g_get S hO fl_NS_7 (by omega) (sh_NS G ad _ _ (by omega)) (v := .long (τ (63 + i) 0)) rfl d_NS_howMany_1 ?_
  refine g_SP (As := [.long (τ (63 + i) 0)]) (rest := []) S hO (k_java_lang_Long_bitCount l G ad σ τ (τ (63 + i) 0)) cw_NS_23 g_cfC hl.1 (Nat.le_of_ble_eq_true rfl) ⟨(Nat.le_of_ble_eq_true rfl), (Nat.le_of_ble_eq_true rfl)⟩ ⟨(Nat.le_of_ble_eq_true rfl), (Nat.le_of_ble_eq_true rfl)⟩ d_NS_howMany_4 (fun q x ce H h9 => h9.elim) (fun v H v_1 hO => ?_)
  subst v_1
  refine W.eq (g2 := F0 m 7 ls [.int (bcF (τ (63 + i) 0))]) rfl ?_
  refine lv_aload_n S.1 S.2.1 d_NS_howMany_7 rfl (lv_at hl 0 rfl) ?_
  refine g_get S hO fl_NS_13 (by omega) (sh_NS G ad _ _ (by omega)) (v := .long (τ (63 + i) 1)) rfl d_NS_howMany_8 ?_
  refine g_SP (As := [.long (τ (63 + i) 1)]) (rest := [.int (bcF (τ (63 + i) 0))]) S hO (k_java_lang_Long_bitCount l G ad σ τ (τ (63 + i) 1)) cw_NS_23 g_cfC hl.1 (Nat.le_of_ble_eq_true rfl) ⟨(Nat.le_of_ble_eq_true rfl), (Nat.le_of_ble_eq_true rfl)⟩ ⟨(Nat.le_of_ble_eq_true rfl), (Nat.le_of_ble_eq_true rfl)⟩ d_NS_howMany_11 (fun q x ce H h9 => h9.elim) (fun v H v_2 hO => ?_)
  subst v_2
  refine W.eq (g2 := F0 m 14 ls [.int (bcF (τ (63 + i) 1)), .int (bcF (τ (63 + i) 0))]) rfl ?_
  refine lv_iadd S.1 S.2.1 d_NS_howMany_14 ?_
  exact pu_i S hk hr hO rfl (Nat.le_of_ble_eq_true rfl) (Nat.le_of_ble_eq_true rfl) d_NS_howMany_15
set_option maxHeartbeats 4000000 in
set_option maxRecDepth 100000 in
theorem k_QU_meetsHazards (l : Launch) (G : gP) (ad : Nat → Nat) (σ : Nat → Nat → Int32) (τ : Nat → Nat → Int64) (a b : Int32) : gpu l y_QU_meetsHazards c_QU_meetsHazards 3 (some .boolean) { frames := 1, cells := 0, slots := 0, locals := 23 } G ad σ τ [.ref (ad 62), .int a, .int b] 0 0 (fun v => v = some (.int (if σ 62 7 = a ∧ nsh τ 66 b then 1 else 0))) (fun _ => False) := by
  refine gs_of (fun _ h => h.elim) (by decide) (Nat.le_of_ble_eq_true rfl) ?_
  intro p e s m args below meth c ls S hk hr hx hl hO
  have hl : lv_has ls 3 [(0, .ref (ad 62)), (1, .int a), (2, .int b)] := hl
  refine lv_aload_n S.1 S.2.1 d_QU_meetsHazards_0 rfl (lv_at hl 0 rfl) ?_
  refine g_get S hO fl_QU_69 (by decide) (sh_62 G ad _ _) (v := .int (σ 62 7)) rfl d_QU_meetsHazards_1 ?_
  refine lv_iload_n S.1 S.2.1 d_QU_meetsHazards_4 rfl (lv_at hl 1 rfl) ?_
  refine lv_icmp_ne (tgt := 23) S.1 S.2.1 d_QU_meetsHazards_5 (by decide) (fun c_5 => ?_) (fun c_5 => ?_)
  · skip
    refine lv_iconst (v := 0) S.1 S.2.1 d_QU_meetsHazards_23 (by decide) ?_
    exact pu_z S hk hr hO (by first | exact Or.inl rfl | exact Or.inr rfl) (by first | exact z_n (fun z => c_5 z.1) | exact z_n (fun z => z_0.mp c_16 z.2) | exact z_p ⟨c_5, z_1.mp c_16⟩) (Nat.le_of_ble_eq_true rfl) (Nat.le_of_ble_eq_true rfl) d_QU_meetsHazards_24
  · skip
    refine lv_aload_n S.1 S.2.1 d_QU_meetsHazards_8 rfl (lv_at hl 0 rfl) ?_
    refine g_get S hO fl_QU_24 (by decide) (sh_62 G ad _ _) (v := .ref (ad 66)) rfl d_QU_meetsHazards_9 ?_
    refine lv_iload_n S.1 S.2.1 d_QU_meetsHazards_12 rfl (lv_at hl 2 rfl) ?_
    refine g_VP (As := [.int b]) (rest := []) S hO (k_NS_has l G ad σ τ 3 (by omega) b) cw_QU_115 (by decide) (sh_NS G ad _ _ (j := 3) (by decide)) rfl rfl hl.1 (Nat.le_of_ble_eq_true rfl) ⟨(Nat.le_of_ble_eq_true rfl), (Nat.le_of_ble_eq_true rfl)⟩ ⟨(Nat.le_of_ble_eq_true rfl), (Nat.le_of_ble_eq_true rfl)⟩ d_QU_meetsHazards_13 (fun q x ce H h9 => h9.elim) (fun v H v_1 hO => ?_)
    subst v_1
    refine W.eq (g2 := F0 m 16 ls [.int (if nsh τ (63 + 3) b then 1 else 0)]) rfl ?_
    refine lv_if_eq (tgt := 23) S.1 S.2.1 d_QU_meetsHazards_16 (by decide) (fun c_16 => ?_) (fun c_16 => ?_)
    · skip
      refine lv_iconst (v := 0) S.1 S.2.1 d_QU_meetsHazards_23 (by decide) ?_
      exact pu_z S hk hr hO (by first | exact Or.inl rfl | exact Or.inr rfl) (by first | exact z_n (fun z => c_5 z.1) | exact z_n (fun z => z_0.mp c_16 z.2) | exact z_p ⟨c_5, z_1.mp c_16⟩) (Nat.le_of_ble_eq_true rfl) (Nat.le_of_ble_eq_true rfl) d_QU_meetsHazards_24
    · skip
      refine lv_iconst (v := 1) S.1 S.2.1 d_QU_meetsHazards_19 (by decide) ?_
      refine lv_goto (tgt := 24) S.1 S.2.1 d_QU_meetsHazards_20 (by decide) ?_
      exact pu_z S hk hr hO (by first | exact Or.inl rfl | exact Or.inr rfl) (by first | exact z_n (fun z => c_5 z.1) | exact z_n (fun z => z_0.mp c_16 z.2) | exact z_p ⟨c_5, z_1.mp c_16⟩) (Nat.le_of_ble_eq_true rfl) (Nat.le_of_ble_eq_true rfl) d_QU_meetsHazards_24
set_option maxHeartbeats 4000000 in
set_option maxRecDepth 100000 in
theorem k_RB_room (l : Launch) (G : gP) (ad : Nat → Nat) (σ : Nat → Nat → Int32) (τ : Nat → Nat → Int64)  : gpu l y_RB_room c_RB_room 1 (some .int) { frames := 0, cells := 0, slots := 0, locals := 0 } G ad σ τ [.ref (ad 4)] 0 0 (fun v => v = some (.int (24 - σ 4 2))) (fun _ => False) := by
  refine gs_of (fun _ h => h.elim) (by decide) (Nat.le_of_ble_eq_true rfl) ?_
  intro p e s m args below meth c ls S hk hr hx hl hO
  have hl : lv_has ls 1 [(0, .ref (ad 4))] := hl
  refine lv_bipush (v := 24) S.1 S.2.1 d_RB_room_0 (by decide) ?_
  refine lv_aload_n S.1 S.2.1 d_RB_room_2 rfl (lv_at hl 0 rfl) ?_
  refine g_get S hO fl_RB_28 (by decide) (sh_4 G ad _ _) (v := .int (σ 4 2)) rfl d_RB_room_3 ?_
  refine lv_isub S.1 S.2.1 d_RB_room_6 ?_
  exact pu_i S hk hr hO rfl (Nat.le_of_ble_eq_true rfl) (Nat.le_of_ble_eq_true rfl) d_RB_room_7
