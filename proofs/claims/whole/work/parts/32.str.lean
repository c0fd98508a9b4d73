/-! String.length and charAt, of the kinds' words. Written by wip/tools/m32.py. -/
section STR
variable {p : Program} {l : Launch} {e : Env} {R : Room} {s : State} {m : MethodId} {args : Array Value} {below : List Frame} {meth : Method} {c : Code} {H : Heap} {locs : List Loc} {cells slots : Nat} {Q : State → Prop}
variable {cc : ByteArray} {pc nL : Nat} {ls : Array Slot} {rest As : List Value} {own : String} {G : gP} {A : Nat → Prop} {n : Nat} {ad : Nat → Nat} {E : Nat → va_E} {index maxL mc ms : Nat} {y : MethodName} {bytes : ByteArray} {ret : Option FieldType} {rm : Room} {xp : String → Prop}
theorem g_VPS {post : Option Value → Prop} (S : CallFix p m c cc nL s args gts own) (hO : gO G A n ad E s H locs) {i : Nat} (hi : i < 11) (hM : gPu l y (.code y bytes maxL ret) rm G n ad E (.ref (ga G (20 + i)) :: As) mc ms post xp) (hw : gWV own index y (.code y bytes maxL ret) As.length) (hq : "java/lang/String" = y.cls)
    (hsz : ls.size = nL) (hrest : (rest.map fun v => v.category).sum ≤ 8) (hR : rm.frames + 1 ≤ R.frames ∧ 8 + (maxL + 11) + rm.locals ≤ R.locals) (hR2 : cells + rm.cells ≤ R.cells ∧ slots + rm.slots ≤ R.slots) (hdg : decode cc pc = .ok (.invokevirtual index, 3))
    (kx : ∀ (q : Addr) (x : String) (ce : Cell) (H1 : Heap), xp x → gO G A n ad E s H1 locs → H1[q]? = some ce → ce.vm = .none → s.vm.findClass x = some ce.cls → gX p l e R s m args below meth c H1 locs (cells + mc) (slots + ms) Q (F0 m pc ls rest) q)
    (kk : ∀ (v : Option Value) (H1 : Heap), post v → gO G A n ad E s H1 locs → W p l e R s m args below meth c H1 locs (cells + mc) (slots + ms) Q (F0 m (pc + 3) ls (v.toList ++ rest))) :
    W p l e R s m args below meth c H locs cells slots Q (F0 m pc ls (As.reverse ++ .ref (ga G (20 + i)) :: rest)) := by
  obtain ⟨w1, w2, w3, w4, w5, w6, w7⟩ := hw
  refine g_V (A := A) S hM w1 w2 w3 w4 w5 w6 w7 (by rw [← hq]; exact vk_recv (adK := fun i => ga G (20 + i)) hO.2.2.2.2.2.2.2.2.2.2.2.2.2.2.2.1 hi hO.SG) gI.blind (fun U hU hW => ⟨rfl, hO.to hU hW⟩) hsz hrest hR.1 hR.2 hR2.1 hR2.2 hO.S (fun _ h => h.elim) hdg (fun q x ce t H1 L ht hx z1 z2 hL hS hce hcv hcl => ?_) (fun v t H1 L ht hv z1 z2 hL hS => ?_)
  · have e1 := g_none hL
    subst e1
    rw [List.append_nil] at hS ⊢
    exact kx q x ce H1 hx (hO.keep (fun q h => z2 q h id) hS) hce hcv hcl
  · have e1 := g_none hL
    subst e1
    rw [List.append_nil] at hS ⊢
    exact kk v H1 hv (hO.keep (fun q h => z2 q h id) hS)
theorem pu_n {v : Int32} {ty : FieldType} {post : Option Value → Prop} (S : CallFix p m c cc nL s args gts own) (hk : meth.locks = false) (hr : meth.sig.returnType = some ty) (hO : gO G (fun _ => False) n ad E s H locs) (hn : narrow ty (.int v) = .int v) (hq : post (some (.int v))) (hc : cells ≤ mc) (hs : slots ≤ ms) (hdg : decode cc pc = .ok (.ireturn, 1)) :
    W p l e R s m args below meth c H locs cells slots (gM below (fun _ => False) mc ms (fun v _ => post v) (fun x _ => xp x) args s) (F0 m pc ls [.int v]) :=
  g_ret (Qc := fun _ st o t => va_F (fun _ => False) st t ∧ ∃ v, o = .returned v ∧ post v) (fun _ _ h => h) hc hs (W.zret (ty := ty) S.1 S.2.1 hr hn (fun t ht _ => ⟨hO.S.F ht, _, rfl, hq⟩) hO.S.2.2 hdg hk)
end STR
/-- the sign j of the word of the kind i -/
def kbC (i j : Nat) : Int32 := (gkb.getD i []).getD j 0
theorem kbC_i {i j : Nat} (hi : i < 11) (hj : j < gkl.getD i 0) : ((kbC i j &&& 255).toUInt32 % 65536).toInt32 = kbC i j := by
  have h : ∀ i, i < 11 → ∀ j, j < gkl.getD i 0 → ((kbC i j &&& 255).toUInt32 % 65536).toInt32 = kbC i j := by decide +kernel
  exact h i hi j hj
theorem kbC_n {i j : Nat} (hi : i < 11) (hj : j < gkl.getD i 0) : narrow .char (.int (kbC i j)) = .int (kbC i j) := by
  have h : ∀ i, i < 11 → ∀ j, j < gkl.getD i 0 → ∃ q, q < 65536 ∧ kbC i j = nI q := by
    intro i hi j hj
    have h2 : ∀ i, i < 11 → ∀ j, j < gkl.getD i 0 → (kbC i j).toNatClampNeg < 65536 ∧ kbC i j = nI (kbC i j).toNatClampNeg := by decide +kernel
    exact ⟨_, h2 i hi j hj⟩
  obtain ⟨q, h1, h2⟩ := h i hi j hj
  rw [h2]
  exact (pk_charN h1).1
theorem gkl_6 {i : Nat} (hi : i < 11) : gkl.getD i 0 ≤ 6 ∧ 0 < gkl.getD i 0 := by
  have h : ∀ i, i < 11 → gkl.getD i 0 ≤ 6 ∧ 0 < gkl.getD i 0 := by decide
  exact h i hi
theorem shr0 {n : Nat} : nI n >>> (0 &&& 31 : Int32) = nI n := by
  rw [show (0 &&& 31 : Int32) = 0 from rfl]
  simp
set_option maxHeartbeats 4000000 in
set_option maxRecDepth 100000 in
theorem k_java_lang_String_coder (l : Launch) (G : gP) (ad : Nat → Nat) (σ : Nat → Nat → Int32) (τ : Nat → Nat → Int64) (i : Nat) (hi : i < 11) : gpu l y_java_lang_String_coder c_java_lang_String_coder 1 (some .byte) { frames := 0, cells := 0, slots := 0, locals := 0 } G ad σ τ [.ref (ga G (20 + i))] 0 0 (fun v => v = some (.int 0)) (fun _ => False) := by
  refine gs_of (fun _ h => h.elim) (by decide) (Nat.le_of_ble_eq_true rfl) ?_
  intro p e s m args below meth c ls S hk hr hx hl hO
  have hl : lv_has ls 1 [(0, .ref (ga G (20 + i)))] := hl
  refine va_gets S.1 S.2.1 hO.2.2.2.2.2.2.2.2.2.2.2.2.2.2.2.2.1.1 hO.SG S.2.2.2.1 (S.2.2.2.2 _ kf_java_lang_String_38) (fun _ h => h) d_java_lang_String_coder_0 ?_
  refine lv_if_eq (tgt := 13) S.1 S.2.1 d_java_lang_String_coder_3 (by decide) (fun c_3 => ?_) (fun c_3 => ?_)
  · skip
    exact absurd c_3 (by decide)
  · skip
    refine lv_aload_n S.1 S.2.1 d_java_lang_String_coder_6 rfl (lv_at hl 0 rfl) ?_
    refine vk_getf S.1 S.2.1 (hO.2.2.2.2.2.2.2.2.2.2.2.2.2.2.2.1.1 i (by omega)).2.1 hO.SG S.2.2.2.1 (S.2.2.2.2 _ kf_java_lang_String_15) (fun _ h => h) d_java_lang_String_coder_7 ?_
    refine lv_goto (tgt := 14) S.1 S.2.1 d_java_lang_String_coder_10 (by decide) ?_
    exact pu_n S hk hr hO rfl (by rfl) (Nat.le_of_ble_eq_true rfl) (Nat.le_of_ble_eq_true rfl) d_java_lang_String_coder_14
set_option maxHeartbeats 4000000 in
set_option maxRecDepth 100000 in
theorem k_java_lang_String_isLatin1 (l : Launch) (G : gP) (ad : Nat → Nat) (σ : Nat → Nat → Int32) (τ : Nat → Nat → Int64) (i : Nat) (hi : i < 11) : gpu l y_java_lang_String_isLatin1 c_java_lang_String_isLatin1 1 (some .boolean) { frames := 0, cells := 0, slots := 0, locals := 0 } G ad σ τ [.ref (ga G (20 + i))] 0 0 (fun v => v = some (.int 1)) (fun _ => False) := by
  refine gs_of (fun _ h => h.elim) (by decide) (Nat.le_of_ble_eq_true rfl) ?_
  intro p e s m args below meth c ls S hk hr hx hl hO
  have hl : lv_has ls 1 [(0, .ref (ga G (20 + i)))] := hl
  refine va_gets S.1 S.2.1 hO.2.2.2.2.2.2.2.2.2.2.2.2.2.2.2.2.1.1 hO.SG S.2.2.2.1 (S.2.2.2.2 _ kf_java_lang_String_38) (fun _ h => h) d_java_lang_String_isLatin1_0 ?_
  refine lv_if_eq (tgt := 17) S.1 S.2.1 d_java_lang_String_isLatin1_3 (by decide) (fun c_3 => ?_) (fun c_3 => ?_)
  · skip
    exact absurd c_3 (by decide)
  · skip
    refine lv_aload_n S.1 S.2.1 d_java_lang_String_isLatin1_6 rfl (lv_at hl 0 rfl) ?_
    refine vk_getf S.1 S.2.1 (hO.2.2.2.2.2.2.2.2.2.2.2.2.2.2.2.1.1 i (by omega)).2.1 hO.SG S.2.2.2.1 (S.2.2.2.2 _ kf_java_lang_String_15) (fun _ h => h) d_java_lang_String_isLatin1_7 ?_
    refine lv_if_ne (tgt := 17) S.1 S.2.1 d_java_lang_String_isLatin1_10 (by decide) (fun c_10 => ?_) (fun c_10 => ?_)
    · skip
      exact absurd rfl c_10
    · skip
      refine lv_iconst (v := 1) S.1 S.2.1 d_java_lang_String_isLatin1_13 (by decide) ?_
      refine lv_goto (tgt := 18) S.1 S.2.1 d_java_lang_String_isLatin1_14 (by decide) ?_
      exact pu_z S hk hr hO (by first | exact Or.inl rfl | exact Or.inr rfl | exact b_01) (by rfl) (Nat.le_of_ble_eq_true rfl) (Nat.le_of_ble_eq_true rfl) d_java_lang_String_isLatin1_18
set_option maxHeartbeats 4000000 in
set_option maxRecDepth 100000 in
theorem k_java_lang_String_length (l : Launch) (G : gP) (ad : Nat → Nat) (σ : Nat → Nat → Int32) (τ : Nat → Nat → Int64) (i : Nat) (hi : i < 11) : gpu l y_java_lang_String_length c_java_lang_String_length 1 (some .int) { frames := 1, cells := 0, slots := 0, locals := 20 } G ad σ τ [.ref (ga G (20 + i))] 0 0 (fun v => v = some (.int (nI (gkl.getD i 0)))) (fun _ => False) := by
  refine gs_of (fun _ h => h.elim) (by decide) (Nat.le_of_ble_eq_true rfl) ?_
  intro p e s m args below meth c ls S hk hr hx hl hO
  have hl : lv_has ls 1 [(0, .ref (ga G (20 + i)))] := hl
  refine lv_aload_n S.1 S.2.1 d_java_lang_String_length_0 rfl (lv_at hl 0 rfl) ?_
  refine vk_getf S.1 S.2.1 (hO.2.2.2.2.2.2.2.2.2.2.2.2.2.2.2.1.1 i (by omega)).2.2.1 hO.SG S.2.2.2.1 (S.2.2.2.2 _ kf_java_lang_String_9) (fun _ h => h) d_java_lang_String_length_1 ?_
  refine va_tlen S.1 S.2.1 (hO.2.2.2.2.2.2.2.2.2.2.2.2.2.2.2.1.1 i (by omega)).2.2.2 hO.SG (v := nI (gkl.getD i 0)) rfl d_java_lang_String_length_4 ?_
  refine lv_aload_n S.1 S.2.1 d_java_lang_String_length_5 rfl (lv_at hl 0 rfl) ?_
  refine g_VPS (As := []) (rest := [.int (nI (gkl.getD i 0))]) S hO (i := i) (by omega) (k_java_lang_String_coder l G ad σ τ i (by omega)) cw_java_lang_String_335 rfl hl.1 (Nat.le_of_ble_eq_true rfl) ⟨(Nat.le_of_ble_eq_true rfl), (Nat.le_of_ble_eq_true rfl)⟩ ⟨(Nat.le_of_ble_eq_true rfl), (Nat.le_of_ble_eq_true rfl)⟩ d_java_lang_String_length_6 (fun q x ce H h9 => h9.elim) (fun v H v_1 hO => ?_)
  subst v_1
  refine W.eq (g2 := F0 m 9 ls [.int 0, .int (nI (gkl.getD i 0))]) rfl ?_
  refine lv_ishr S.1 S.2.1 d_java_lang_String_length_9 ?_
  refine W.eq (g2 := F0 m 10 ls [.int (nI (gkl.getD i 0))]) (by rw [shr0]) ?_
  exact pu_i S hk hr hO (by rfl) (Nat.le_of_ble_eq_true rfl) (Nat.le_of_ble_eq_true rfl) d_java_lang_String_length_10
set_option maxHeartbeats 4000000 in
set_option maxRecDepth 100000 in
theorem k_PCcheck_n (l : Launch) (G : gP) (ad : Nat → Nat) (σ : Nat → Nat → Int32) (τ : Nat → Nat → Int64) (j n : Nat) (hj : j < n) (hn : n < 2 ^ 31) : gpu l y_jdk_internal_util_Preconditions_checkIndex c_jdk_internal_util_Preconditions_checkIndex 3 (some .int) { frames := 0, cells := 0, slots := 0, locals := 0 } G ad σ τ [.int (nI j), .int (nI n), .null] 0 0 (fun v => v = some (.int (nI j))) (fun _ => False) := by
  refine gs_of (fun _ h => h.elim) (by decide) (Nat.le_of_ble_eq_true rfl) ?_
  intro p e s m args below meth c ls S hk hr hx hl hO
  have hl : lv_has ls 3 [(0, .int (nI j)), (1, .int (nI n)), (2, .null)] := hl
  refine lv_iload_n S.1 S.2.1 d_jdk_internal_util_Preconditions_checkIndex_0 rfl (lv_at hl 0 rfl) ?_
  refine lv_if_lt (tgt := 9) S.1 S.2.1 d_jdk_internal_util_Preconditions_checkIndex_1 (by decide) (fun c_1 => ?_) (fun c_1 => ?_)
  · skip
    exact absurd c_1 (nI_pos (by omega))
  · skip
    refine lv_iload_n S.1 S.2.1 d_jdk_internal_util_Preconditions_checkIndex_4 rfl (lv_at hl 0 rfl) ?_
    refine lv_iload_n S.1 S.2.1 d_jdk_internal_util_Preconditions_checkIndex_5 rfl (lv_at hl 1 rfl) ?_
    refine lv_icmp_lt (tgt := 16) S.1 S.2.1 d_jdk_internal_util_Preconditions_checkIndex_6 (by decide) (fun c_6 => ?_) (fun c_6 => ?_)
    · skip
      refine lv_iload_n S.1 S.2.1 d_jdk_internal_util_Preconditions_checkIndex_16 rfl (lv_at hl 0 rfl) ?_
      exact pu_i S hk hr hO (by rfl) (Nat.le_of_ble_eq_true rfl) (Nat.le_of_ble_eq_true rfl) d_jdk_internal_util_Preconditions_checkIndex_17
    · skip
      exact absurd (nI_lt hj (by omega)) c_6
set_option maxHeartbeats 4000000 in
set_option maxRecDepth 100000 in
theorem k_PCcheck_r (l : Launch) (G : gP) (ad : Nat → Nat) (σ : Nat → Nat → Int32) (τ : Nat → Nat → Int64) (j n : Nat) (hj : j < n) (hn : n < 2 ^ 31) (q : Nat) : gpu l y_jdk_internal_util_Preconditions_checkIndex c_jdk_internal_util_Preconditions_checkIndex 3 (some .int) { frames := 0, cells := 0, slots := 0, locals := 0 } G ad σ τ [.int (nI j), .int (nI n), .ref q] 0 0 (fun v => v = some (.int (nI j))) (fun _ => False) := by
  refine gs_of (fun _ h => h.elim) (by decide) (Nat.le_of_ble_eq_true rfl) ?_
  intro p e s m args below meth c ls S hk hr hx hl hO
  have hl : lv_has ls 3 [(0, .int (nI j)), (1, .int (nI n)), (2, .ref q)] := hl
  refine lv_iload_n S.1 S.2.1 d_jdk_internal_util_Preconditions_checkIndex_0 rfl (lv_at hl 0 rfl) ?_
  refine lv_if_lt (tgt := 9) S.1 S.2.1 d_jdk_internal_util_Preconditions_checkIndex_1 (by decide) (fun c_1 => ?_) (fun c_1 => ?_)
  · skip
    exact absurd c_1 (nI_pos (by omega))
  · skip
    refine lv_iload_n S.1 S.2.1 d_jdk_internal_util_Preconditions_checkIndex_4 rfl (lv_at hl 0 rfl) ?_
    refine lv_iload_n S.1 S.2.1 d_jdk_internal_util_Preconditions_checkIndex_5 rfl (lv_at hl 1 rfl) ?_
    refine lv_icmp_lt (tgt := 16) S.1 S.2.1 d_jdk_internal_util_Preconditions_checkIndex_6 (by decide) (fun c_6 => ?_) (fun c_6 => ?_)
    · skip
      refine lv_iload_n S.1 S.2.1 d_jdk_internal_util_Preconditions_checkIndex_16 rfl (lv_at hl 0 rfl) ?_
      exact pu_i S hk hr hO (by rfl) (Nat.le_of_ble_eq_true rfl) (Nat.le_of_ble_eq_true rfl) d_jdk_internal_util_Preconditions_checkIndex_17
    · skip
      exact absurd (nI_lt hj (by omega)) c_6
set_option maxHeartbeats 4000000 in
set_option maxRecDepth 100000 in
theorem k_java_lang_String_checkIndex (l : Launch) (G : gP) (ad : Nat → Nat) (σ : Nat → Nat → Int32) (τ : Nat → Nat → Int64) (j n : Nat) (hj : j < n) (hn : n < 2 ^ 31) : gpu l y_java_lang_String_checkIndex c_java_lang_String_checkIndex 2 none { frames := 1, cells := 0, slots := 0, locals := 22 } G ad σ τ [.int (nI j), .int (nI n)] 0 0 (fun v => v = none) (fun _ => False) := by
  refine gs_of (fun _ h => h.elim) (by decide) (Nat.le_of_ble_eq_true rfl) ?_
  intro p e s m args below meth c ls S hk hr hx hl hO
  have hl : lv_has ls 2 [(0, .int (nI j)), (1, .int (nI n))] := hl
  refine lv_iload_n S.1 S.2.1 d_java_lang_String_checkIndex_0 rfl (lv_at hl 0 rfl) ?_
  refine lv_iload_n S.1 S.2.1 d_java_lang_String_checkIndex_1 rfl (lv_at hl 1 rfl) ?_
  rcases hO.2.2.2.2.2.2.2.2.2.2.2.2.2.2.2.2.1.2 with z9 | ⟨t9, z9⟩
  · skip
    refine va_gets S.1 S.2.1 z9 hO.SG S.2.2.2.1 (S.2.2.2.2 _ kf_java_lang_String_1053) (fun _ h => h) d_java_lang_String_checkIndex_2 ?_
    refine g_SP (As := [.int (nI j), .int (nI n), .null]) (rest := []) S hO (k_PCcheck_n l G ad σ τ j n hj (by omega)) cw_java_lang_String_1059 g_cfC hl.1 (Nat.le_of_ble_eq_true rfl) ⟨(Nat.le_of_ble_eq_true rfl), (Nat.le_of_ble_eq_true rfl)⟩ ⟨(Nat.le_of_ble_eq_true rfl), (Nat.le_of_ble_eq_true rfl)⟩ d_java_lang_String_checkIndex_5 (fun q x ce H h9 => h9.elim) (fun v H v_1 hO => ?_)
    subst v_1
    refine W.eq (g2 := F0 m 8 ls [.int (nI j)]) rfl ?_
    refine lv_pop S.1 S.2.1 d_java_lang_String_checkIndex_8 rfl ?_
    exact pu_v S hk hr hO rfl (Nat.le_of_ble_eq_true rfl) (Nat.le_of_ble_eq_true rfl) d_java_lang_String_checkIndex_9
  · skip
    refine va_gets S.1 S.2.1 z9 hO.SG S.2.2.2.1 (S.2.2.2.2 _ kf_java_lang_String_1053) (fun _ h => h) d_java_lang_String_checkIndex_2 ?_
    refine g_SP (As := [.int (nI j), .int (nI n), .ref t9]) (rest := []) S hO (k_PCcheck_r l G ad σ τ j n hj (by omega) t9) cw_java_lang_String_1059 g_cfC hl.1 (Nat.le_of_ble_eq_true rfl) ⟨(Nat.le_of_ble_eq_true rfl), (Nat.le_of_ble_eq_true rfl)⟩ ⟨(Nat.le_of_ble_eq_true rfl), (Nat.le_of_ble_eq_true rfl)⟩ d_java_lang_String_checkIndex_5 (fun q x ce H h9 => h9.elim) (fun v H v_2 hO => ?_)
    subst v_2
    refine W.eq (g2 := F0 m 8 ls [.int (nI j)]) rfl ?_
    refine lv_pop S.1 S.2.1 d_java_lang_String_checkIndex_8 rfl ?_
    exact pu_v S hk hr hO rfl (Nat.le_of_ble_eq_true rfl) (Nat.le_of_ble_eq_true rfl) d_java_lang_String_checkIndex_9
set_option maxHeartbeats 4000000 in
set_option maxRecDepth 100000 in
theorem k_java_lang_StringLatin1_charAt (l : Launch) (G : gP) (ad : Nat → Nat) (σ : Nat → Nat → Int32) (τ : Nat → Nat → Int64) (i : Nat) (hi : i < 11) (j : Nat) (hj : j < gkl.getD i 0) : gpu l y_java_lang_StringLatin1_charAt c_java_lang_StringLatin1_charAt 2 (some .char) { frames := 2, cells := 0, slots := 0, locals := 43 } G ad σ τ [.ref (ga G (40 + i)), .int (nI j)] 0 0 (fun v => v = some (.int (kbC i j))) (fun _ => False) := by
  refine gs_of (fun _ h => h.elim) (by decide) (Nat.le_of_ble_eq_true rfl) ?_
  intro p e s m args below meth c ls S hk hr hx hl hO
  have hl : lv_has ls 2 [(0, .ref (ga G (40 + i))), (1, .int (nI j))] := hl
  have h6 := gkl_6 hi
  refine lv_iload_n S.1 S.2.1 d_java_lang_StringLatin1_charAt_0 rfl (lv_at hl 1 rfl) ?_
  refine lv_aload_n S.1 S.2.1 d_java_lang_StringLatin1_charAt_1 rfl (lv_at hl 0 rfl) ?_
  refine va_tlen S.1 S.2.1 (hO.2.2.2.2.2.2.2.2.2.2.2.2.2.2.2.1.1 i (by omega)).2.2.2 hO.SG (v := nI (gkl.getD i 0)) rfl d_java_lang_StringLatin1_charAt_2 ?_
  refine g_SP (As := [.int (nI j), .int (nI (gkl.getD i 0))]) (rest := []) S hO (k_java_lang_String_checkIndex l G ad σ τ j (gkl.getD i 0) hj (by omega)) cw_java_lang_StringLatin1_9 g_cfC hl.1 (Nat.le_of_ble_eq_true rfl) ⟨(Nat.le_of_ble_eq_true rfl), (Nat.le_of_ble_eq_true rfl)⟩ ⟨(Nat.le_of_ble_eq_true rfl), (Nat.le_of_ble_eq_true rfl)⟩ d_java_lang_StringLatin1_charAt_3 (fun q x ce H h9 => h9.elim) (fun v H v_1 hO => ?_)
  subst v_1
  refine W.eq (g2 := F0 m 6 ls []) rfl ?_
  refine lv_aload_n S.1 S.2.1 d_java_lang_StringLatin1_charAt_6 rfl (lv_at hl 0 rfl) ?_
  refine lv_iload_n S.1 S.2.1 d_java_lang_StringLatin1_charAt_7 rfl (lv_at hl 1 rfl) ?_
  refine va_tb S.1 S.2.1 (hO.2.2.2.2.2.2.2.2.2.2.2.2.2.2.2.1.1 i (by omega)).2.2.2 hO.SG (vp_in_nI hj (by omega)) (v := .int ((gkb.getD i []).getD j 0)) (by rw [nI_clamp (by omega)]) d_java_lang_StringLatin1_charAt_8 ?_
  refine lv_sipush (v := 255) S.1 S.2.1 d_java_lang_StringLatin1_charAt_9 (by decide) ?_
  refine lv_iand S.1 S.2.1 d_java_lang_StringLatin1_charAt_12 ?_
  refine lv_i2c (v := kbC i j) S.1 S.2.1 d_java_lang_StringLatin1_charAt_13 (kbC_i hi hj) ?_
  exact pu_n S hk hr hO (kbC_n hi hj) (by rfl) (Nat.le_of_ble_eq_true rfl) (Nat.le_of_ble_eq_true rfl) d_java_lang_StringLatin1_charAt_14
set_option maxHeartbeats 4000000 in
set_option maxRecDepth 100000 in
theorem k_java_lang_String_charAt (l : Launch) (G : gP) (ad : Nat → Nat) (σ : Nat → Nat → Int32) (τ : Nat → Nat → Int64) (i : Nat) (hi : i < 11) (j : Nat) (hj : j < gkl.getD i 0) : gpu l y_java_lang_String_charAt c_java_lang_String_charAt 2 (some .char) { frames := 3, cells := 0, slots := 0, locals := 64 } G ad σ τ [.ref (ga G (20 + i)), .int (nI j)] 0 0 (fun v => v = some (.int (kbC i j))) (fun _ => False) := by
  refine gs_of (fun _ h => h.elim) (by decide) (Nat.le_of_ble_eq_true rfl) ?_
  intro p e s m args below meth c ls S hk hr hx hl hO
  have hl : lv_has ls 2 [(0, .ref (ga G (20 + i))), (1, .int (nI j))] := hl
  refine lv_aload_n S.1 S.2.1 d_java_lang_String_charAt_0 rfl (lv_at hl 0 rfl) ?_
  refine g_VPS (As := []) (rest := []) S hO (i := i) (by omega) (k_java_lang_String_isLatin1 l G ad σ τ i (by omega)) cw_java_lang_String_492 rfl hl.1 (Nat.le_of_ble_eq_true rfl) ⟨(Nat.le_of_ble_eq_true rfl), (Nat.le_of_ble_eq_true rfl)⟩ ⟨(Nat.le_of_ble_eq_true rfl), (Nat.le_of_ble_eq_true rfl)⟩ d_java_lang_String_charAt_1 (fun q x ce H h9 => h9.elim) (fun v H v_1 hO => ?_)
  subst v_1
  refine W.eq (g2 := F0 m 4 ls [.int 1]) rfl ?_
  refine lv_if_eq (tgt := 16) S.1 S.2.1 d_java_lang_String_charAt_4 (by decide) (fun c_4 => ?_) (fun c_4 => ?_)
  · skip
    exact absurd c_4 (by decide)
  · skip
    refine lv_aload_n S.1 S.2.1 d_java_lang_String_charAt_7 rfl (lv_at hl 0 rfl) ?_
    refine vk_getf S.1 S.2.1 (hO.2.2.2.2.2.2.2.2.2.2.2.2.2.2.2.1.1 i (by omega)).2.2.1 hO.SG S.2.2.2.1 (S.2.2.2.2 _ kf_java_lang_String_9) (fun _ h => h) d_java_lang_String_charAt_8 ?_
    refine lv_iload_n S.1 S.2.1 d_java_lang_String_charAt_11 rfl (lv_at hl 1 rfl) ?_
    refine g_SP (As := [.ref (ga G (40 + i)), .int (nI j)]) (rest := []) S hO (k_java_lang_StringLatin1_charAt l G ad σ τ i (by omega) j hj) cw_java_lang_String_495 g_cfC hl.1 (Nat.le_of_ble_eq_true rfl) ⟨(Nat.le_of_ble_eq_true rfl), (Nat.le_of_ble_eq_true rfl)⟩ ⟨(Nat.le_of_ble_eq_true rfl), (Nat.le_of_ble_eq_true rfl)⟩ d_java_lang_String_charAt_12 (fun q x ce H h9 => h9.elim) (fun v H v_2 hO => ?_)
    subst v_2
    refine W.eq (g2 := F0 m 15 ls [.int (kbC i j)]) rfl ?_
    exact pu_n S hk hr hO (kbC_n hi hj) (by rfl) (Nat.le_of_ble_eq_true rfl) (Nat.le_of_ble_eq_true rfl) d_java_lang_String_charAt_15
