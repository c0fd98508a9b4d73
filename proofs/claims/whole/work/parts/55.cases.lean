/-! The law's cases: one call of the class, the same of the reference, their answers compared. Written by wip/tools/m55.py. -/
section GSH
variable {p : Program} {l : Launch} {e : Env} {R : Room} {s : State} {m : MethodId} {args : Array Value} {below : List Frame} {meth : Method} {c : Code} {H : Heap} {locs : List Loc} {cells slots : Nat} {Q : State → Prop}
variable {y : MethodName} {cc : ByteArray} {maxL nL mc ms index pc : Nat} {rm : Room} {A : Nat → Prop} {own : String} {As rest : List Value} {ls : Array Slot} {G : gP} {ad : Nat → Nat} {σ : Nat → Nat → Int32} {τ : Nat → Nat → Int64}
theorem g_SH {w : Cond} {post : Option Value → (Nat → Nat → Int32) → (Nat → Nat → Int64) → Prop} (S : CallFix p m c cc nL s args gts own) (hO : gO G A 159 ad (enc G ad σ τ) s H locs) (hA : ∀ q, gA G q → A q) (hN : ncJ s) (hM : gH l y w rm G ad σ τ As mc ms post) (hw : gWS own index y w As.length) (hcf : ∀ (a : Array Value) (U : State), w.before a U = true → ∃ (mk : MethodId) (mY : Method) (cY : Code), U.methodNamed? y = some mk ∧ U.vm.method? mk = some mY ∧ mY.code = some cY ∧ cY.maxLocals = maxL ∧ parseMethodDescriptor y.desc = some mY.sig)
    (hsz : ls.size = nL) (hrest : (rest.map fun v => v.category).sum ≤ 8) (hR : rm.frames + 1 ≤ R.frames ∧ 8 + (maxL + 11) + rm.locals ≤ R.locals) (hR2 : cells + rm.cells ≤ R.cells ∧ slots + rm.slots ≤ R.slots) (hdg : decode cc pc = .ok (.invokestatic index, 3))
    (kk : ∀ (v : Option Value) (σ1 : Nat → Nat → Int32) (τ1 : Nat → Nat → Int64) (H1 : Heap) (locs1 : List Loc), post v σ1 τ1 → gO G A 159 ad (enc G ad σ1 τ1) s H1 locs1 → W p l e R s m args below meth c H1 locs1 (cells + mc) (slots + ms) Q (F0 m (pc + 3) ls (v.toList ++ rest))) :
    W p l e R s m args below meth c H locs cells slots Q (F0 m pc ls (As.reverse ++ rest)) := by
  obtain ⟨w1, w3, w4, w5, w6, w7⟩ := hw
  refine g_S (A := A) S hM w1 w3 w4 w5 hcf w6 w7 gH.blind (fun U hU hW => ⟨rfl, hO.to hU hW, hN.moved hW.alike⟩) hsz hrest hR.1 hR.2 hR2.1 hR2.2 hO.S hA hdg (fun q x ce t H1 L ht hx z1 z2 hL hS hce hcv hcl => hx.elim) (fun v t H1 L ht hv z1 z2 hL hS => ?_)
  obtain ⟨σ1, τ1, h1, h2⟩ := hv
  exact kk v σ1 τ1 H1 _ h1 (hO.next (by rw [← ht]; exact h2) hS)
/-- an int of the script -/
theorem sc_a {b L : Nat} {xs : Nat → Int32} (S : CallFix p m c cc nL s args gts own) (hX : va_X b L xs s s.heap) (hbl : b < s.heap.size) (hbA : ¬ A b) (hS : va_S A s.heap H locs) {i k : Nat} {x : Int32} (hx : x = nI (i + k)) (hi : i + k < L) (hL : L ≤ 3072) (hdg : decode cc pc = .ok (.iaload, 1))
    (kk : W p l e R s m args below meth c H locs cells slots Q (F0 m (pc + 1) ls (.int (xs (i + k)) :: rest))) : W p l e R s m args below meth c H locs cells slots Q (F0 m pc ls (.int x :: .ref b :: rest)) := by
  subst hx
  refine va_sld S.1 S.2.1 hX hbl hbA hS (vp_in_nI hi (by omega)) hdg ?_
  rw [nI_clamp (by omega)]
  exact kk
end GSH
theorem lg_cc (x : Int64) : lg_cmp x x = 0 := by
  unfold lg_cmp
  simp
theorem rdP_v {r : Except Nat (List RUL)} {v : Option Value} {s1 s0 : Nat → Nat → Int32} {n : Nat} (h : rdP r v s1 s0 n) : ∃ x, v = some (.int x) := by
  cases r with
  | error ee => exact ⟨_, h.1⟩
  | ok lst => exact ⟨_, h.1⟩
theorem rdP_c {σ s0 s1 : Nat → Nat → Int32} {n N : Nat} {v : Option Value} (hT : TXR s0 σ) (hn : n ≤ 24) (h : rdP (prs (σ 36) N (24 - n) 0) v s1 s0 n) : ∀ k, 140 ≤ k → s1 k = σ k := fun k hk => by
  have e0 : s0 k = σ k := funext fun j => hT k j (by omega) (by omega)
  cases hq : prs (σ 36) N (24 - n) 0 with
  | error ee =>
    rw [hq] at h
    rw [h.2, up2_c (by omega), e0]
  | ok lst =>
    rw [hq] at h
    have hl := prs_len (24 - n) 0 lst hq
    rw [h.2, up2_c (by omega), adS_c lst (by omega) (by omega) (by omega) (by omega) (by omega) (by omega), e0]
set_option maxHeartbeats 4000000 in
theorem c_place {p : Program} {e : Env} {s : State} {m : MethodId} {args : Array Value} {below : List Frame} {meth : Method} {c : Code} {H : Heap} {locs : List Loc} {cells slots : Nat} {Q : State → Prop} {ls : Array Slot} {G : gP} {σ : Nat → Nat → Int32} {τ : Nat → Nat → Int64} {b L i : Nat} {xs : Nat → Int32} (l : Launch) (hst : l.stackTraces = false) (S : CallFix p m c code 7 s args gts "PlaceRulesLaw") (hX : va_X b L xs s s.heap) (hbl : b < s.heap.size) (hbA : ¬ gA G b) (hN : ncJ s) (hL : L ≤ 3072) (hi : i + 6 ≤ L) (hR : RR σ) (hO : gO G (gA G) 159 (adG G) (enc G (adG G) σ τ) s H locs) (hl : lv_has ls 7 [(4, .int (nI i)), (3, .ref (adG G 158)), (2, .ref (adG G 140)), (1, .ref (adG G 0)), (0, .ref b)]) (hcs : cells + 6 ≤ 601024 ∧ slots + 36 ≤ 7293034)
    (kk : ∀ (σ' : Nat → Nat → Int32) (τ' : Nat → Nat → Int64) (H' : Heap) (locs' : List Loc) (ls' : Array Slot), RR σ' → gO G (gA G) 159 (adG G) (enc G (adG G) σ' τ') s H' locs' → lv_has ls' 7 [(4, .int (nI i)), (3, .ref (adG G 158)), (2, .ref (adG G 140)), (1, .ref (adG G 0)), (0, .ref b)] → W p l e room_1 s m args below meth c H' locs' (cells + 6) (slots + 36) Q (F0 m 1287 ls' [])) : W p l e room_1 s m args below meth c H locs cells slots Q (F0 m 132 ls []) := by
  obtain ⟨aPL, ⟨nu, aUN⟩, ⟨n, nc, aRU⟩, ⟨ne, aEX⟩, aOW, ⟨nt, aTO⟩, ⟨N, aTX⟩, aNM⟩ := id hR
  refine lv_aload_n S.1 S.2.1 d_LW_law_132 rfl (lv_at hl 3 rfl) ?_
  refine lv_aload_n S.1 S.2.1 d_LW_law_133 rfl (lv_at hl 4 rfl) ?_
  refine lv_iload S.1 S.2.1 d_LW_law_134 (lv_at hl 0 rfl) ?_
  refine lv_iconst (v := 1) S.1 S.2.1 d_LW_law_136 (by decide) ?_
  refine lv_iadd S.1 S.2.1 d_LW_law_137 ?_
  refine sc_a (k := 1) S hX hbl hbA hO.S (nI_add i 1) (by omega) hL d_LW_law_138 ?_
  refine lv_aload_n S.1 S.2.1 d_LW_law_139 rfl (lv_at hl 4 rfl) ?_
  refine lv_iload S.1 S.2.1 d_LW_law_140 (lv_at hl 0 rfl) ?_
  refine lv_iconst (v := 2) S.1 S.2.1 d_LW_law_142 (by decide) ?_
  refine lv_iadd S.1 S.2.1 d_LW_law_143 ?_
  refine sc_a (k := 2) S hX hbl hbA hO.S (nI_add i 2) (by omega) hL d_LW_law_144 ?_
  refine lv_aload_n S.1 S.2.1 d_LW_law_145 rfl (lv_at hl 4 rfl) ?_
  refine lv_iload S.1 S.2.1 d_LW_law_146 (lv_at hl 0 rfl) ?_
  refine lv_iconst (v := 3) S.1 S.2.1 d_LW_law_148 (by decide) ?_
  refine lv_iadd S.1 S.2.1 d_LW_law_149 ?_
  refine sc_a (k := 3) S hX hbl hbA hO.S (nI_add i 3) (by omega) hL d_LW_law_150 ?_
  refine lv_aload_n S.1 S.2.1 d_LW_law_151 rfl (lv_at hl 4 rfl) ?_
  refine lv_iload S.1 S.2.1 d_LW_law_152 (lv_at hl 0 rfl) ?_
  refine lv_iconst (v := 4) S.1 S.2.1 d_LW_law_154 (by decide) ?_
  refine lv_iadd S.1 S.2.1 d_LW_law_155 ?_
  refine sc_a (k := 4) S hX hbl hbA hO.S (nI_add i 4) (by omega) hL d_LW_law_156 ?_
  refine g_SH (As := [.ref (adG G 0), .int (xs (i + 1)), .int (xs (i + 2)), .int (xs (i + 3)), .int (xs (i + 4))]) (rest := []) S hO (fun _ h => h) hN (h_place l hst G (adG G) σ τ (xs (i + 1)) (xs (i + 2)) (xs (i + 3)) (xs (i + 4)) ) cw_LW_78 g_cfW hl.1 (Nat.le_of_ble_eq_true rfl) ⟨(Nat.le_of_ble_eq_true rfl), (Nat.le_of_ble_eq_true rfl)⟩ ⟨by show cells + 4 ≤ 601024; omega, by show slots + 24 ≤ 7293034; omega⟩ d_LW_law_157 (fun v σ1 τ1 H locs hp hO => ?_)
  obtain ⟨z, rfl, hp⟩ := hp
  obtain ⟨e0, hR2⟩ := r_place hR hp
  refine W.eq (g2 := F0 m 160 ls [.int z]) rfl ?_
  refine lv_istore (lv' := [(5, .int z), (4, .int (nI i)), (3, .ref (adG G 158)), (2, .ref (adG G 140)), (1, .ref (adG G 0)), (0, .ref b)]) S.1 S.2.1 d_LW_law_160 hl (by decide) rfl (fun ls hl => ?_)
  refine lv_aload_n S.1 S.2.1 d_LW_law_162 rfl (lv_at hl 3 rfl) ?_
  refine lv_aload_n S.1 S.2.1 d_LW_law_163 rfl (lv_at hl 5 rfl) ?_
  refine lv_iload S.1 S.2.1 d_LW_law_164 (lv_at hl 1 rfl) ?_
  refine lv_iconst (v := 1) S.1 S.2.1 d_LW_law_166 (by decide) ?_
  refine lv_iadd S.1 S.2.1 d_LW_law_167 ?_
  refine sc_a (k := 1) S hX hbl hbA hO.S (nI_add i 1) (by omega) hL d_LW_law_168 ?_
  refine lv_aload_n S.1 S.2.1 d_LW_law_169 rfl (lv_at hl 5 rfl) ?_
  refine lv_iload S.1 S.2.1 d_LW_law_170 (lv_at hl 1 rfl) ?_
  refine lv_iconst (v := 2) S.1 S.2.1 d_LW_law_172 (by decide) ?_
  refine lv_iadd S.1 S.2.1 d_LW_law_173 ?_
  refine sc_a (k := 2) S hX hbl hbA hO.S (nI_add i 2) (by omega) hL d_LW_law_174 ?_
  refine lv_aload_n S.1 S.2.1 d_LW_law_175 rfl (lv_at hl 5 rfl) ?_
  refine lv_iload S.1 S.2.1 d_LW_law_176 (lv_at hl 1 rfl) ?_
  refine lv_iconst (v := 3) S.1 S.2.1 d_LW_law_178 (by decide) ?_
  refine lv_iadd S.1 S.2.1 d_LW_law_179 ?_
  refine sc_a (k := 3) S hX hbl hbA hO.S (nI_add i 3) (by omega) hL d_LW_law_180 ?_
  refine lv_aload_n S.1 S.2.1 d_LW_law_181 rfl (lv_at hl 5 rfl) ?_
  refine lv_iload S.1 S.2.1 d_LW_law_182 (lv_at hl 1 rfl) ?_
  refine lv_iconst (v := 4) S.1 S.2.1 d_LW_law_184 (by decide) ?_
  refine lv_iadd S.1 S.2.1 d_LW_law_185 ?_
  refine sc_a (k := 4) S hX hbl hbA hO.S (nI_add i 4) (by omega) hL d_LW_law_186 ?_
  refine g_VI (As := [.int (xs (i + 1)), .int (xs (i + 2)), .int (xs (i + 3)), .int (xs (i + 4))]) (rest := []) S hO (fun _ h => h) (k_MD_place l G (adG G) σ1 τ1 (xs (i + 1)) (xs (i + 2)) (xs (i + 3)) (xs (i + 4)) ) cw_LW_83 (k := 140) (by decide) (sh_140 G (adG G) _ _) rfl rfl hl.1 (Nat.le_of_ble_eq_true rfl) ⟨(Nat.le_of_ble_eq_true rfl), (Nat.le_of_ble_eq_true rfl)⟩ ⟨by show cells + 4 + 0 ≤ 601024; omega, by show slots + 24 + 0 ≤ 7293034; omega⟩ d_LW_law_187 (fun q x ce H locs hx => hx.elim) (fun v E1 H locs hp2 hO => ?_)
  obtain ⟨σ2, τ2, rfl, rfl, rfl, ht⟩ := hp2
  rw [ht] at hO
  refine W.eq (g2 := F0 m 190 ls []) rfl ?_
  refine lv_aload_n S.1 S.2.1 d_LW_law_190 rfl (lv_at hl 3 rfl) ?_
  refine g_VP (As := []) (rest := []) S hO (k_MD_thrown l G (adG G) _ τ1) cw_LW_84 (k := 140) (by decide) (sh_140 G (adG G) _ _) rfl rfl hl.1 (Nat.le_of_ble_eq_true rfl) ⟨(Nat.le_of_ble_eq_true rfl), (Nat.le_of_ble_eq_true rfl)⟩ ⟨by show cells + 4 + 0 + 0 ≤ 601024; omega, by show slots + 24 + 0 + 0 ≤ 7293034; omega⟩ d_LW_law_191 (fun q x ce H hx => hx.elim) (fun v H hp3 hO => ?_)
  subst hp3
  refine W.eq (g2 := F0 m 194 ls [.int _]) rfl ?_
  refine lv_iload S.1 S.2.1 d_LW_law_194 (lv_at hl 0 rfl) ?_
  refine lv_icmp_eq (tgt := 201) S.1 S.2.1 d_LW_law_196 (by decide) (fun _ => ?_) (fun hne => absurd e0 hne)
  refine lv_goto (tgt := 1287) S.1 S.2.1 d_LW_law_201 (by decide) ?_
  exact W.widen (by omega) (by omega) (kk _ _ _ _ _ hR2 hO (lv_sub hl [1, 2, 3, 4, 5] rfl))
set_option maxHeartbeats 4000000 in
theorem c_limit {p : Program} {e : Env} {s : State} {m : MethodId} {args : Array Value} {below : List Frame} {meth : Method} {c : Code} {H : Heap} {locs : List Loc} {cells slots : Nat} {Q : State → Prop} {ls : Array Slot} {G : gP} {σ : Nat → Nat → Int32} {τ : Nat → Nat → Int64} {b L i : Nat} {xs : Nat → Int32} (l : Launch) (hst : l.stackTraces = false) (S : CallFix p m c code 7 s args gts "PlaceRulesLaw") (hX : va_X b L xs s s.heap) (hbl : b < s.heap.size) (hbA : ¬ gA G b) (hN : ncJ s) (hL : L ≤ 3072) (hi : i + 6 ≤ L) (hR : RR σ) (hO : gO G (gA G) 159 (adG G) (enc G (adG G) σ τ) s H locs) (hl : lv_has ls 7 [(4, .int (nI i)), (3, .ref (adG G 158)), (2, .ref (adG G 140)), (1, .ref (adG G 0)), (0, .ref b)]) (hcs : cells + 6 ≤ 601024 ∧ slots + 36 ≤ 7293034)
    (kk : ∀ (σ' : Nat → Nat → Int32) (τ' : Nat → Nat → Int64) (H' : Heap) (locs' : List Loc) (ls' : Array Slot), RR σ' → gO G (gA G) 159 (adG G) (enc G (adG G) σ' τ') s H' locs' → lv_has ls' 7 [(4, .int (nI i)), (3, .ref (adG G 158)), (2, .ref (adG G 140)), (1, .ref (adG G 0)), (0, .ref b)] → W p l e room_1 s m args below meth c H' locs' (cells + 6) (slots + 36) Q (F0 m 1287 ls' [])) : W p l e room_1 s m args below meth c H locs cells slots Q (F0 m 204 ls []) := by
  obtain ⟨aPL, ⟨nu, aUN⟩, ⟨n, nc, aRU⟩, ⟨ne, aEX⟩, aOW, ⟨nt, aTO⟩, ⟨N, aTX⟩, aNM⟩ := id hR
  refine lv_aload_n S.1 S.2.1 d_LW_law_204 rfl (lv_at hl 3 rfl) ?_
  refine lv_aload_n S.1 S.2.1 d_LW_law_205 rfl (lv_at hl 4 rfl) ?_
  refine lv_iload S.1 S.2.1 d_LW_law_206 (lv_at hl 0 rfl) ?_
  refine lv_iconst (v := 1) S.1 S.2.1 d_LW_law_208 (by decide) ?_
  refine lv_iadd S.1 S.2.1 d_LW_law_209 ?_
  refine sc_a (k := 1) S hX hbl hbA hO.S (nI_add i 1) (by omega) hL d_LW_law_210 ?_
  refine lv_aload_n S.1 S.2.1 d_LW_law_211 rfl (lv_at hl 4 rfl) ?_
  refine lv_iload S.1 S.2.1 d_LW_law_212 (lv_at hl 0 rfl) ?_
  refine lv_iconst (v := 2) S.1 S.2.1 d_LW_law_214 (by decide) ?_
  refine lv_iadd S.1 S.2.1 d_LW_law_215 ?_
  refine sc_a (k := 2) S hX hbl hbA hO.S (nI_add i 2) (by omega) hL d_LW_law_216 ?_
  refine lv_aload_n S.1 S.2.1 d_LW_law_217 rfl (lv_at hl 4 rfl) ?_
  refine lv_iload S.1 S.2.1 d_LW_law_218 (lv_at hl 0 rfl) ?_
  refine lv_iconst (v := 3) S.1 S.2.1 d_LW_law_220 (by decide) ?_
  refine lv_iadd S.1 S.2.1 d_LW_law_221 ?_
  refine sc_a (k := 3) S hX hbl hbA hO.S (nI_add i 3) (by omega) hL d_LW_law_222 ?_
  refine g_SH (As := [.ref (adG G 0), .int (xs (i + 1)), .int (xs (i + 2)), .int (xs (i + 3))]) (rest := []) S hO (fun _ h => h) hN (h_limit l hst G (adG G) σ τ (xs (i + 1)) (xs (i + 2)) (xs (i + 3)) ) cw_LW_88 g_cfW hl.1 (Nat.le_of_ble_eq_true rfl) ⟨(Nat.le_of_ble_eq_true rfl), (Nat.le_of_ble_eq_true rfl)⟩ ⟨by show cells + 3 ≤ 601024; omega, by show slots + 18 ≤ 7293034; omega⟩ d_LW_law_223 (fun v σ1 τ1 H locs hp hO => ?_)
  obtain ⟨z, rfl, hp⟩ := hp
  obtain ⟨e0, hR2⟩ := r_limit hR hp
  refine W.eq (g2 := F0 m 226 ls [.int z]) rfl ?_
  refine lv_istore (lv' := [(5, .int z), (4, .int (nI i)), (3, .ref (adG G 158)), (2, .ref (adG G 140)), (1, .ref (adG G 0)), (0, .ref b)]) S.1 S.2.1 d_LW_law_226 hl (by decide) rfl (fun ls hl => ?_)
  refine lv_aload_n S.1 S.2.1 d_LW_law_228 rfl (lv_at hl 3 rfl) ?_
  refine lv_aload_n S.1 S.2.1 d_LW_law_229 rfl (lv_at hl 5 rfl) ?_
  refine lv_iload S.1 S.2.1 d_LW_law_230 (lv_at hl 1 rfl) ?_
  refine lv_iconst (v := 1) S.1 S.2.1 d_LW_law_232 (by decide) ?_
  refine lv_iadd S.1 S.2.1 d_LW_law_233 ?_
  refine sc_a (k := 1) S hX hbl hbA hO.S (nI_add i 1) (by omega) hL d_LW_law_234 ?_
  refine lv_aload_n S.1 S.2.1 d_LW_law_235 rfl (lv_at hl 5 rfl) ?_
  refine lv_iload S.1 S.2.1 d_LW_law_236 (lv_at hl 1 rfl) ?_
  refine lv_iconst (v := 2) S.1 S.2.1 d_LW_law_238 (by decide) ?_
  refine lv_iadd S.1 S.2.1 d_LW_law_239 ?_
  refine sc_a (k := 2) S hX hbl hbA hO.S (nI_add i 2) (by omega) hL d_LW_law_240 ?_
  refine lv_aload_n S.1 S.2.1 d_LW_law_241 rfl (lv_at hl 5 rfl) ?_
  refine lv_iload S.1 S.2.1 d_LW_law_242 (lv_at hl 1 rfl) ?_
  refine lv_iconst (v := 3) S.1 S.2.1 d_LW_law_244 (by decide) ?_
  refine lv_iadd S.1 S.2.1 d_LW_law_245 ?_
  refine sc_a (k := 3) S hX hbl hbA hO.S (nI_add i 3) (by omega) hL d_LW_law_246 ?_
  refine g_VI (As := [.int (xs (i + 1)), .int (xs (i + 2)), .int (xs (i + 3))]) (rest := []) S hO (fun _ h => h) (k_MD_limit l G (adG G) σ1 τ1 (xs (i + 1)) (xs (i + 2)) (xs (i + 3)) ) cw_LW_91 (k := 140) (by decide) (sh_140 G (adG G) _ _) rfl rfl hl.1 (Nat.le_of_ble_eq_true rfl) ⟨(Nat.le_of_ble_eq_true rfl), (Nat.le_of_ble_eq_true rfl)⟩ ⟨by show cells + 3 + 0 ≤ 601024; omega, by show slots + 18 + 0 ≤ 7293034; omega⟩ d_LW_law_247 (fun q x ce H locs hx => hx.elim) (fun v E1 H locs hp2 hO => ?_)
  obtain ⟨σ2, τ2, rfl, rfl, rfl, ht⟩ := hp2
  rw [ht] at hO
  refine W.eq (g2 := F0 m 250 ls []) rfl ?_
  refine lv_aload_n S.1 S.2.1 d_LW_law_250 rfl (lv_at hl 3 rfl) ?_
  refine g_VP (As := []) (rest := []) S hO (k_MD_thrown l G (adG G) _ τ1) cw_LW_84 (k := 140) (by decide) (sh_140 G (adG G) _ _) rfl rfl hl.1 (Nat.le_of_ble_eq_true rfl) ⟨(Nat.le_of_ble_eq_true rfl), (Nat.le_of_ble_eq_true rfl)⟩ ⟨by show cells + 3 + 0 + 0 ≤ 601024; omega, by show slots + 18 + 0 + 0 ≤ 7293034; omega⟩ d_LW_law_251 (fun q x ce H hx => hx.elim) (fun v H hp3 hO => ?_)
  subst hp3
  refine W.eq (g2 := F0 m 254 ls [.int _]) rfl ?_
  refine lv_iload S.1 S.2.1 d_LW_law_254 (lv_at hl 0 rfl) ?_
  refine lv_icmp_eq (tgt := 261) S.1 S.2.1 d_LW_law_256 (by decide) (fun _ => ?_) (fun hne => absurd e0 hne)
  refine lv_goto (tgt := 1287) S.1 S.2.1 d_LW_law_261 (by decide) ?_
  exact W.widen (by omega) (by omega) (kk _ _ _ _ _ hR2 hO (lv_sub hl [1, 2, 3, 4, 5] rfl))
set_option maxHeartbeats 4000000 in
theorem c_unit {p : Program} {e : Env} {s : State} {m : MethodId} {args : Array Value} {below : List Frame} {meth : Method} {c : Code} {H : Heap} {locs : List Loc} {cells slots : Nat} {Q : State → Prop} {ls : Array Slot} {G : gP} {σ : Nat → Nat → Int32} {τ : Nat → Nat → Int64} {b L i : Nat} {xs : Nat → Int32} (l : Launch) (hst : l.stackTraces = false) (S : CallFix p m c code 7 s args gts "PlaceRulesLaw") (hX : va_X b L xs s s.heap) (hbl : b < s.heap.size) (hbA : ¬ gA G b) (hN : ncJ s) (hL : L ≤ 3072) (hi : i + 6 ≤ L) (hR : RR σ) (hO : gO G (gA G) 159 (adG G) (enc G (adG G) σ τ) s H locs) (hl : lv_has ls 7 [(4, .int (nI i)), (3, .ref (adG G 158)), (2, .ref (adG G 140)), (1, .ref (adG G 0)), (0, .ref b)]) (hcs : cells + 6 ≤ 601024 ∧ slots + 36 ≤ 7293034)
    (kk : ∀ (σ' : Nat → Nat → Int32) (τ' : Nat → Nat → Int64) (H' : Heap) (locs' : List Loc) (ls' : Array Slot), RR σ' → gO G (gA G) 159 (adG G) (enc G (adG G) σ' τ') s H' locs' → lv_has ls' 7 [(4, .int (nI i)), (3, .ref (adG G 158)), (2, .ref (adG G 140)), (1, .ref (adG G 0)), (0, .ref b)] → W p l e room_1 s m args below meth c H' locs' (cells + 6) (slots + 36) Q (F0 m 1287 ls' [])) : W p l e room_1 s m args below meth c H locs cells slots Q (F0 m 264 ls []) := by
  obtain ⟨aPL, ⟨nu, aUN⟩, ⟨n, nc, aRU⟩, ⟨ne, aEX⟩, aOW, ⟨nt, aTO⟩, ⟨N, aTX⟩, aNM⟩ := id hR
  refine lv_aload_n S.1 S.2.1 d_LW_law_264 rfl (lv_at hl 3 rfl) ?_
  refine lv_aload_n S.1 S.2.1 d_LW_law_265 rfl (lv_at hl 4 rfl) ?_
  refine lv_iload S.1 S.2.1 d_LW_law_266 (lv_at hl 0 rfl) ?_
  refine lv_iconst (v := 1) S.1 S.2.1 d_LW_law_268 (by decide) ?_
  refine lv_iadd S.1 S.2.1 d_LW_law_269 ?_
  refine sc_a (k := 1) S hX hbl hbA hO.S (nI_add i 1) (by omega) hL d_LW_law_270 ?_
  refine lv_aload_n S.1 S.2.1 d_LW_law_271 rfl (lv_at hl 4 rfl) ?_
  refine lv_iload S.1 S.2.1 d_LW_law_272 (lv_at hl 0 rfl) ?_
  refine lv_iconst (v := 2) S.1 S.2.1 d_LW_law_274 (by decide) ?_
  refine lv_iadd S.1 S.2.1 d_LW_law_275 ?_
  refine sc_a (k := 2) S hX hbl hbA hO.S (nI_add i 2) (by omega) hL d_LW_law_276 ?_
  refine lv_aload_n S.1 S.2.1 d_LW_law_277 rfl (lv_at hl 4 rfl) ?_
  refine lv_iload S.1 S.2.1 d_LW_law_278 (lv_at hl 0 rfl) ?_
  refine lv_iconst (v := 3) S.1 S.2.1 d_LW_law_280 (by decide) ?_
  refine lv_iadd S.1 S.2.1 d_LW_law_281 ?_
  refine sc_a (k := 3) S hX hbl hbA hO.S (nI_add i 3) (by omega) hL d_LW_law_282 ?_
  refine lv_aload_n S.1 S.2.1 d_LW_law_283 rfl (lv_at hl 1 rfl) ?_
  refine g_SH (As := [.ref (adG G 0), .int (xs (i + 1)), .int (xs (i + 2)), .int (xs (i + 3)), .ref (adG G 158)]) (rest := []) S hO (fun _ h => h) hN (h_unit l hst G (adG G) σ τ (xs (i + 1)) (xs (i + 2)) (xs (i + 3)) nu aUN.1 aUN.2.2.1) cw_LW_92 g_cfW hl.1 (Nat.le_of_ble_eq_true rfl) ⟨(Nat.le_of_ble_eq_true rfl), (Nat.le_of_ble_eq_true rfl)⟩ ⟨by show cells + 4 ≤ 601024; omega, by show slots + 24 ≤ 7293034; omega⟩ d_LW_law_284 (fun v σ1 τ1 H locs hp hO => ?_)
  obtain ⟨z, x, rfl, hp, h158⟩ := hp
  obtain ⟨e2, e0, hR2, ev⟩ := r_unit hR aUN hp
  refine W.eq (g2 := F0 m 287 ls [.int z]) rfl ?_
  refine lv_istore (lv' := [(5, .int z), (4, .int (nI i)), (3, .ref (adG G 158)), (2, .ref (adG G 140)), (1, .ref (adG G 0)), (0, .ref b)]) S.1 S.2.1 d_LW_law_287 hl (by decide) rfl (fun ls hl => ?_)
  refine lv_aload_n S.1 S.2.1 d_LW_law_289 rfl (lv_at hl 3 rfl) ?_
  refine lv_aload_n S.1 S.2.1 d_LW_law_290 rfl (lv_at hl 5 rfl) ?_
  refine lv_iload S.1 S.2.1 d_LW_law_291 (lv_at hl 1 rfl) ?_
  refine lv_iconst (v := 1) S.1 S.2.1 d_LW_law_293 (by decide) ?_
  refine lv_iadd S.1 S.2.1 d_LW_law_294 ?_
  refine sc_a (k := 1) S hX hbl hbA hO.S (nI_add i 1) (by omega) hL d_LW_law_295 ?_
  refine lv_aload_n S.1 S.2.1 d_LW_law_296 rfl (lv_at hl 5 rfl) ?_
  refine lv_iload S.1 S.2.1 d_LW_law_297 (lv_at hl 1 rfl) ?_
  refine lv_iconst (v := 2) S.1 S.2.1 d_LW_law_299 (by decide) ?_
  refine lv_iadd S.1 S.2.1 d_LW_law_300 ?_
  refine sc_a (k := 2) S hX hbl hbA hO.S (nI_add i 2) (by omega) hL d_LW_law_301 ?_
  refine lv_aload_n S.1 S.2.1 d_LW_law_302 rfl (lv_at hl 5 rfl) ?_
  refine lv_iload S.1 S.2.1 d_LW_law_303 (lv_at hl 1 rfl) ?_
  refine lv_iconst (v := 3) S.1 S.2.1 d_LW_law_305 (by decide) ?_
  refine lv_iadd S.1 S.2.1 d_LW_law_306 ?_
  refine sc_a (k := 3) S hX hbl hbA hO.S (nI_add i 3) (by omega) hL d_LW_law_307 ?_
  refine g_VI (As := [.int (xs (i + 1)), .int (xs (i + 2)), .int (xs (i + 3))]) (rest := []) S hO (fun _ h => h) (k_MD_unit l G (adG G) σ1 τ1 (xs (i + 1)) (xs (i + 2)) (xs (i + 3)) nu e2 aUN.2.2.1) cw_LW_95 (k := 140) (by decide) (sh_140 G (adG G) _ _) rfl rfl hl.1 (Nat.le_of_ble_eq_true rfl) ⟨(Nat.le_of_ble_eq_true rfl), (Nat.le_of_ble_eq_true rfl)⟩ ⟨by show cells + 4 + 0 ≤ 601024; omega, by show slots + 24 + 0 ≤ 7293034; omega⟩ d_LW_law_308 (fun q x ce H locs hx => hx.elim) (fun v E1 H locs hp2 hO => ?_)
  obtain ⟨σ2, τ2, rfl, rfl, rfl, ht⟩ := hp2
  rw [ht] at hO
  refine W.eq (g2 := F0 m 311 ls [.int _]) rfl ?_
  refine lv_istore (lv' := [(6, .int _), (5, .int z), (4, .int (nI i)), (3, .ref (adG G 158)), (2, .ref (adG G 140)), (1, .ref (adG G 0)), (0, .ref b)]) S.1 S.2.1 d_LW_law_311 hl (by decide) rfl (fun ls hl => ?_)
  refine lv_aload_n S.1 S.2.1 d_LW_law_313 rfl (lv_at hl 4 rfl) ?_
  refine g_VP (As := []) (rest := []) S hO (k_MD_thrown l G (adG G) _ τ1) cw_LW_84 (k := 140) (by decide) (sh_140 G (adG G) _ _) rfl rfl hl.1 (Nat.le_of_ble_eq_true rfl) ⟨(Nat.le_of_ble_eq_true rfl), (Nat.le_of_ble_eq_true rfl)⟩ ⟨by show cells + 4 + 0 + 0 ≤ 601024; omega, by show slots + 24 + 0 + 0 ≤ 7293034; omega⟩ d_LW_law_314 (fun q x ce H hx => hx.elim) (fun v H hp3 hO => ?_)
  subst hp3
  refine W.eq (g2 := F0 m 317 ls [.int _]) rfl ?_
  refine lv_iload S.1 S.2.1 d_LW_law_317 (lv_at hl 1 rfl) ?_
  refine lv_icmp_eq (tgt := 324) S.1 S.2.1 d_LW_law_319 (by decide) (fun _ => ?_) (fun hne => absurd e0 hne)
  refine lv_iload S.1 S.2.1 d_LW_law_324 (lv_at hl 1 rfl) ?_
  refine lv_if_ne (tgt := 341) S.1 S.2.1 d_LW_law_326 (by decide) (fun _ => ?_) (fun hz => ?_)
  · refine lv_goto (tgt := 1287) S.1 S.2.1 d_LW_law_341 (by decide) ?_
    exact W.widen (by omega) (by omega) (kk _ _ _ _ _ hR2 hO (lv_sub hl [2, 3, 4, 5, 6] rfl))
  · have hz : z = 0 := by first | exact hz | exact Decidable.not_not.mp hz
    refine lv_aload_n S.1 S.2.1 d_LW_law_329 rfl (lv_at hl 3 rfl) ?_
    refine lv_iconst (v := 0) S.1 S.2.1 d_LW_law_330 (by decide) ?_
    refine g_lal S hO (k := 158) (N := 1) (i := 0) (by decide) (sh_158 G (adG G) _ _) (vp_in_nI (n := 0) (by decide) (by decide)) d_LW_law_331 ?_
    refine lv_iload S.1 S.2.1 d_LW_law_332 (lv_at hl 0 rfl) ?_
    refine lv_i2l S.1 S.2.1 d_LW_law_334 rfl ?_
    refine W.lcmp S.1 S.2.1 d_LW_law_335 ?_
    refine lv_if_eq (tgt := 341) S.1 S.2.1 d_LW_law_336 (by decide) (fun _ => ?_) (fun hne => absurd ?_ hne)
    · refine lv_goto (tgt := 1287) S.1 S.2.1 d_LW_law_341 (by decide) ?_
      exact W.widen (by omega) (by omega) (kk _ _ _ _ _ hR2 hO (lv_sub hl [2, 3, 4, 5, 6] rfl))
    · show lg_cmp (τ1 158 0) _ = 0
      rw [h158 hz, ev hz]
      exact lg_cc _
set_option maxHeartbeats 4000000 in
theorem c_size {p : Program} {e : Env} {s : State} {m : MethodId} {args : Array Value} {below : List Frame} {meth : Method} {c : Code} {H : Heap} {locs : List Loc} {cells slots : Nat} {Q : State → Prop} {ls : Array Slot} {G : gP} {σ : Nat → Nat → Int32} {τ : Nat → Nat → Int64} {b L i : Nat} {xs : Nat → Int32} (l : Launch) (hst : l.stackTraces = false) (S : CallFix p m c code 7 s args gts "PlaceRulesLaw") (hX : va_X b L xs s s.heap) (hbl : b < s.heap.size) (hbA : ¬ gA G b) (hN : ncJ s) (hL : L ≤ 3072) (hi : i + 6 ≤ L) (hR : RR σ) (hO : gO G (gA G) 159 (adG G) (enc G (adG G) σ τ) s H locs) (hl : lv_has ls 7 [(4, .int (nI i)), (3, .ref (adG G 158)), (2, .ref (adG G 140)), (1, .ref (adG G 0)), (0, .ref b)]) (hcs : cells + 6 ≤ 601024 ∧ slots + 36 ≤ 7293034)
    (kk : ∀ (σ' : Nat → Nat → Int32) (τ' : Nat → Nat → Int64) (H' : Heap) (locs' : List Loc) (ls' : Array Slot), RR σ' → gO G (gA G) 159 (adG G) (enc G (adG G) σ' τ') s H' locs' → lv_has ls' 7 [(4, .int (nI i)), (3, .ref (adG G 158)), (2, .ref (adG G 140)), (1, .ref (adG G 0)), (0, .ref b)] → W p l e room_1 s m args below meth c H' locs' (cells + 6) (slots + 36) Q (F0 m 1287 ls' [])) : W p l e room_1 s m args below meth c H locs cells slots Q (F0 m 344 ls []) := by
  obtain ⟨aPL, ⟨nu, aUN⟩, ⟨n, nc, aRU⟩, ⟨ne, aEX⟩, aOW, ⟨nt, aTO⟩, ⟨N, aTX⟩, aNM⟩ := id hR
  refine lv_aload_n S.1 S.2.1 d_LW_law_344 rfl (lv_at hl 3 rfl) ?_
  refine lv_aload_n S.1 S.2.1 d_LW_law_345 rfl (lv_at hl 4 rfl) ?_
  refine lv_iload S.1 S.2.1 d_LW_law_346 (lv_at hl 0 rfl) ?_
  refine lv_iconst (v := 1) S.1 S.2.1 d_LW_law_348 (by decide) ?_
  refine lv_iadd S.1 S.2.1 d_LW_law_349 ?_
  refine sc_a (k := 1) S hX hbl hbA hO.S (nI_add i 1) (by omega) hL d_LW_law_350 ?_
  refine lv_aload_n S.1 S.2.1 d_LW_law_351 rfl (lv_at hl 4 rfl) ?_
  refine lv_iload S.1 S.2.1 d_LW_law_352 (lv_at hl 0 rfl) ?_
  refine lv_iconst (v := 2) S.1 S.2.1 d_LW_law_354 (by decide) ?_
  refine lv_iadd S.1 S.2.1 d_LW_law_355 ?_
  refine sc_a (k := 2) S hX hbl hbA hO.S (nI_add i 2) (by omega) hL d_LW_law_356 ?_
  refine lv_aload_n S.1 S.2.1 d_LW_law_357 rfl (lv_at hl 4 rfl) ?_
  refine lv_iload S.1 S.2.1 d_LW_law_358 (lv_at hl 0 rfl) ?_
  refine lv_iconst (v := 3) S.1 S.2.1 d_LW_law_360 (by decide) ?_
  refine lv_iadd S.1 S.2.1 d_LW_law_361 ?_
  refine sc_a (k := 3) S hX hbl hbA hO.S (nI_add i 3) (by omega) hL d_LW_law_362 ?_
  refine lv_aload_n S.1 S.2.1 d_LW_law_363 rfl (lv_at hl 4 rfl) ?_
  refine lv_iload S.1 S.2.1 d_LW_law_364 (lv_at hl 0 rfl) ?_
  refine lv_iconst (v := 4) S.1 S.2.1 d_LW_law_366 (by decide) ?_
  refine lv_iadd S.1 S.2.1 d_LW_law_367 ?_
  refine sc_a (k := 4) S hX hbl hbA hO.S (nI_add i 4) (by omega) hL d_LW_law_368 ?_
  refine lv_aload_n S.1 S.2.1 d_LW_law_369 rfl (lv_at hl 4 rfl) ?_
  refine lv_iload S.1 S.2.1 d_LW_law_370 (lv_at hl 0 rfl) ?_
  refine lv_iconst (v := 5) S.1 S.2.1 d_LW_law_372 (by decide) ?_
  refine lv_iadd S.1 S.2.1 d_LW_law_373 ?_
  refine sc_a (k := 5) S hX hbl hbA hO.S (nI_add i 5) (by omega) hL d_LW_law_374 ?_
  refine g_SH (As := [.ref (adG G 0), .int (xs (i + 1)), .int (xs (i + 2)), .int (xs (i + 3)), .int (xs (i + 4)), .int (xs (i + 5))]) (rest := []) S hO (fun _ h => h) hN (h_size l hst G (adG G) σ τ (xs (i + 1)) (xs (i + 2)) (xs (i + 3)) (xs (i + 4)) (xs (i + 5)) nu aUN.1 aUN.2.2.1) cw_LW_96 g_cfW hl.1 (Nat.le_of_ble_eq_true rfl) ⟨(Nat.le_of_ble_eq_true rfl), (Nat.le_of_ble_eq_true rfl)⟩ ⟨by show cells + 6 ≤ 601024; omega, by show slots + 36 ≤ 7293034; omega⟩ d_LW_law_375 (fun v σ1 τ1 H locs hp hO => ?_)
  obtain ⟨z, rfl, hp⟩ := hp
  obtain ⟨e2, e0, hR2⟩ := r_size hR aUN hp
  refine W.eq (g2 := F0 m 378 ls [.int z]) rfl ?_
  refine lv_istore (lv' := [(5, .int z), (4, .int (nI i)), (3, .ref (adG G 158)), (2, .ref (adG G 140)), (1, .ref (adG G 0)), (0, .ref b)]) S.1 S.2.1 d_LW_law_378 hl (by decide) rfl (fun ls hl => ?_)
  refine lv_aload_n S.1 S.2.1 d_LW_law_380 rfl (lv_at hl 3 rfl) ?_
  refine lv_aload_n S.1 S.2.1 d_LW_law_381 rfl (lv_at hl 5 rfl) ?_
  refine lv_iload S.1 S.2.1 d_LW_law_382 (lv_at hl 1 rfl) ?_
  refine lv_iconst (v := 1) S.1 S.2.1 d_LW_law_384 (by decide) ?_
  refine lv_iadd S.1 S.2.1 d_LW_law_385 ?_
  refine sc_a (k := 1) S hX hbl hbA hO.S (nI_add i 1) (by omega) hL d_LW_law_386 ?_
  refine lv_aload_n S.1 S.2.1 d_LW_law_387 rfl (lv_at hl 5 rfl) ?_
  refine lv_iload S.1 S.2.1 d_LW_law_388 (lv_at hl 1 rfl) ?_
  refine lv_iconst (v := 2) S.1 S.2.1 d_LW_law_390 (by decide) ?_
  refine lv_iadd S.1 S.2.1 d_LW_law_391 ?_
  refine sc_a (k := 2) S hX hbl hbA hO.S (nI_add i 2) (by omega) hL d_LW_law_392 ?_
  refine lv_aload_n S.1 S.2.1 d_LW_law_393 rfl (lv_at hl 5 rfl) ?_
  refine lv_iload S.1 S.2.1 d_LW_law_394 (lv_at hl 1 rfl) ?_
  refine lv_iconst (v := 3) S.1 S.2.1 d_LW_law_396 (by decide) ?_
  refine lv_iadd S.1 S.2.1 d_LW_law_397 ?_
  refine sc_a (k := 3) S hX hbl hbA hO.S (nI_add i 3) (by omega) hL d_LW_law_398 ?_
  refine lv_aload_n S.1 S.2.1 d_LW_law_399 rfl (lv_at hl 5 rfl) ?_
  refine lv_iload S.1 S.2.1 d_LW_law_400 (lv_at hl 1 rfl) ?_
  refine lv_iconst (v := 4) S.1 S.2.1 d_LW_law_402 (by decide) ?_
  refine lv_iadd S.1 S.2.1 d_LW_law_403 ?_
  refine sc_a (k := 4) S hX hbl hbA hO.S (nI_add i 4) (by omega) hL d_LW_law_404 ?_
  refine lv_aload_n S.1 S.2.1 d_LW_law_405 rfl (lv_at hl 5 rfl) ?_
  refine lv_iload S.1 S.2.1 d_LW_law_406 (lv_at hl 1 rfl) ?_
  refine lv_iconst (v := 5) S.1 S.2.1 d_LW_law_408 (by decide) ?_
  refine lv_iadd S.1 S.2.1 d_LW_law_409 ?_
  refine sc_a (k := 5) S hX hbl hbA hO.S (nI_add i 5) (by omega) hL d_LW_law_410 ?_
  refine g_VI (As := [.int (xs (i + 1)), .int (xs (i + 2)), .int (xs (i + 3)), .int (xs (i + 4)), .int (xs (i + 5))]) (rest := []) S hO (fun _ h => h) (k_MD_size l G (adG G) σ1 τ1 (xs (i + 1)) (xs (i + 2)) (xs (i + 3)) (xs (i + 4)) (xs (i + 5)) nu e2 aUN.2.2.1) cw_LW_99 (k := 140) (by decide) (sh_140 G (adG G) _ _) rfl rfl hl.1 (Nat.le_of_ble_eq_true rfl) ⟨(Nat.le_of_ble_eq_true rfl), (Nat.le_of_ble_eq_true rfl)⟩ ⟨by show cells + 6 + 0 ≤ 601024; omega, by show slots + 36 + 0 ≤ 7293034; omega⟩ d_LW_law_411 (fun q x ce H locs hx => hx.elim) (fun v E1 H locs hp2 hO => ?_)
  obtain ⟨σ2, τ2, rfl, rfl, rfl, ht⟩ := hp2
  rw [ht] at hO
  refine W.eq (g2 := F0 m 414 ls []) rfl ?_
  refine lv_aload_n S.1 S.2.1 d_LW_law_414 rfl (lv_at hl 3 rfl) ?_
  refine g_VP (As := []) (rest := []) S hO (k_MD_thrown l G (adG G) _ τ1) cw_LW_84 (k := 140) (by decide) (sh_140 G (adG G) _ _) rfl rfl hl.1 (Nat.le_of_ble_eq_true rfl) ⟨(Nat.le_of_ble_eq_true rfl), (Nat.le_of_ble_eq_true rfl)⟩ ⟨by show cells + 6 + 0 + 0 ≤ 601024; omega, by show slots + 36 + 0 + 0 ≤ 7293034; omega⟩ d_LW_law_415 (fun q x ce H hx => hx.elim) (fun v H hp3 hO => ?_)
  subst hp3
  refine W.eq (g2 := F0 m 418 ls [.int _]) rfl ?_
  refine lv_iload S.1 S.2.1 d_LW_law_418 (lv_at hl 0 rfl) ?_
  refine lv_icmp_eq (tgt := 425) S.1 S.2.1 d_LW_law_420 (by decide) (fun _ => ?_) (fun hne => absurd e0 hne)
  refine lv_goto (tgt := 1287) S.1 S.2.1 d_LW_law_425 (by decide) ?_
  exact W.widen (by omega) (by omega) (kk _ _ _ _ _ hR2 hO (lv_sub hl [1, 2, 3, 4, 5] rfl))
set_option maxHeartbeats 4000000 in
theorem c_nature {p : Program} {e : Env} {s : State} {m : MethodId} {args : Array Value} {below : List Frame} {meth : Method} {c : Code} {H : Heap} {locs : List Loc} {cells slots : Nat} {Q : State → Prop} {ls : Array Slot} {G : gP} {σ : Nat → Nat → Int32} {τ : Nat → Nat → Int64} {b L i : Nat} {xs : Nat → Int32} (l : Launch) (hst : l.stackTraces = false) (S : CallFix p m c code 7 s args gts "PlaceRulesLaw") (hX : va_X b L xs s s.heap) (hbl : b < s.heap.size) (hbA : ¬ gA G b) (hN : ncJ s) (hL : L ≤ 3072) (hi : i + 6 ≤ L) (hR : RR σ) (hO : gO G (gA G) 159 (adG G) (enc G (adG G) σ τ) s H locs) (hl : lv_has ls 7 [(4, .int (nI i)), (3, .ref (adG G 158)), (2, .ref (adG G 140)), (1, .ref (adG G 0)), (0, .ref b)]) (hcs : cells + 6 ≤ 601024 ∧ slots + 36 ≤ 7293034)
    (kk : ∀ (σ' : Nat → Nat → Int32) (τ' : Nat → Nat → Int64) (H' : Heap) (locs' : List Loc) (ls' : Array Slot), RR σ' → gO G (gA G) 159 (adG G) (enc G (adG G) σ' τ') s H' locs' → lv_has ls' 7 [(4, .int (nI i)), (3, .ref (adG G 158)), (2, .ref (adG G 140)), (1, .ref (adG G 0)), (0, .ref b)] → W p l e room_1 s m args below meth c H' locs' (cells + 6) (slots + 36) Q (F0 m 1287 ls' [])) : W p l e room_1 s m args below meth c H locs cells slots Q (F0 m 428 ls []) := by
  obtain ⟨aPL, ⟨nu, aUN⟩, ⟨n, nc, aRU⟩, ⟨ne, aEX⟩, aOW, ⟨nt, aTO⟩, ⟨N, aTX⟩, aNM⟩ := id hR
  refine lv_aload_n S.1 S.2.1 d_LW_law_428 rfl (lv_at hl 3 rfl) ?_
  refine lv_aload_n S.1 S.2.1 d_LW_law_429 rfl (lv_at hl 4 rfl) ?_
  refine lv_iload S.1 S.2.1 d_LW_law_430 (lv_at hl 0 rfl) ?_
  refine lv_iconst (v := 1) S.1 S.2.1 d_LW_law_432 (by decide) ?_
  refine lv_iadd S.1 S.2.1 d_LW_law_433 ?_
  refine sc_a (k := 1) S hX hbl hbA hO.S (nI_add i 1) (by omega) hL d_LW_law_434 ?_
  refine lv_aload_n S.1 S.2.1 d_LW_law_435 rfl (lv_at hl 4 rfl) ?_
  refine lv_iload S.1 S.2.1 d_LW_law_436 (lv_at hl 0 rfl) ?_
  refine lv_iconst (v := 2) S.1 S.2.1 d_LW_law_438 (by decide) ?_
  refine lv_iadd S.1 S.2.1 d_LW_law_439 ?_
  refine sc_a (k := 2) S hX hbl hbA hO.S (nI_add i 2) (by omega) hL d_LW_law_440 ?_
  refine lv_aload_n S.1 S.2.1 d_LW_law_441 rfl (lv_at hl 4 rfl) ?_
  refine lv_iload S.1 S.2.1 d_LW_law_442 (lv_at hl 0 rfl) ?_
  refine lv_iconst (v := 3) S.1 S.2.1 d_LW_law_444 (by decide) ?_
  refine lv_iadd S.1 S.2.1 d_LW_law_445 ?_
  refine sc_a (k := 3) S hX hbl hbA hO.S (nI_add i 3) (by omega) hL d_LW_law_446 ?_
  refine lv_aload_n S.1 S.2.1 d_LW_law_447 rfl (lv_at hl 4 rfl) ?_
  refine lv_iload S.1 S.2.1 d_LW_law_448 (lv_at hl 0 rfl) ?_
  refine lv_iconst (v := 4) S.1 S.2.1 d_LW_law_450 (by decide) ?_
  refine lv_iadd S.1 S.2.1 d_LW_law_451 ?_
  refine sc_a (k := 4) S hX hbl hbA hO.S (nI_add i 4) (by omega) hL d_LW_law_452 ?_
  refine g_SH (As := [.ref (adG G 0), .int (xs (i + 1)), .int (xs (i + 2)), .int (xs (i + 3)), .int (xs (i + 4))]) (rest := []) S hO (fun _ h => h) hN (h_nature l hst G (adG G) σ τ (xs (i + 1)) (xs (i + 2)) (xs (i + 3)) (xs (i + 4)) nu aUN.1 aUN.2.2.1) cw_LW_100 g_cfW hl.1 (Nat.le_of_ble_eq_true rfl) ⟨(Nat.le_of_ble_eq_true rfl), (Nat.le_of_ble_eq_true rfl)⟩ ⟨by show cells + 6 ≤ 601024; omega, by show slots + 36 ≤ 7293034; omega⟩ d_LW_law_453 (fun v σ1 τ1 H locs hp hO => ?_)
  obtain ⟨z, rfl, hp⟩ := hp
  obtain ⟨e2, e0, hR2⟩ := r_nature hR aUN hp
  refine W.eq (g2 := F0 m 456 ls [.int z]) rfl ?_
  refine lv_istore (lv' := [(5, .int z), (4, .int (nI i)), (3, .ref (adG G 158)), (2, .ref (adG G 140)), (1, .ref (adG G 0)), (0, .ref b)]) S.1 S.2.1 d_LW_law_456 hl (by decide) rfl (fun ls hl => ?_)
  refine lv_aload_n S.1 S.2.1 d_LW_law_458 rfl (lv_at hl 3 rfl) ?_
  refine lv_aload_n S.1 S.2.1 d_LW_law_459 rfl (lv_at hl 5 rfl) ?_
  refine lv_iload S.1 S.2.1 d_LW_law_460 (lv_at hl 1 rfl) ?_
  refine lv_iconst (v := 1) S.1 S.2.1 d_LW_law_462 (by decide) ?_
  refine lv_iadd S.1 S.2.1 d_LW_law_463 ?_
  refine sc_a (k := 1) S hX hbl hbA hO.S (nI_add i 1) (by omega) hL d_LW_law_464 ?_
  refine lv_aload_n S.1 S.2.1 d_LW_law_465 rfl (lv_at hl 5 rfl) ?_
  refine lv_iload S.1 S.2.1 d_LW_law_466 (lv_at hl 1 rfl) ?_
  refine lv_iconst (v := 2) S.1 S.2.1 d_LW_law_468 (by decide) ?_
  refine lv_iadd S.1 S.2.1 d_LW_law_469 ?_
  refine sc_a (k := 2) S hX hbl hbA hO.S (nI_add i 2) (by omega) hL d_LW_law_470 ?_
  refine lv_aload_n S.1 S.2.1 d_LW_law_471 rfl (lv_at hl 5 rfl) ?_
  refine lv_iload S.1 S.2.1 d_LW_law_472 (lv_at hl 1 rfl) ?_
  refine lv_iconst (v := 3) S.1 S.2.1 d_LW_law_474 (by decide) ?_
  refine lv_iadd S.1 S.2.1 d_LW_law_475 ?_
  refine sc_a (k := 3) S hX hbl hbA hO.S (nI_add i 3) (by omega) hL d_LW_law_476 ?_
  refine lv_aload_n S.1 S.2.1 d_LW_law_477 rfl (lv_at hl 5 rfl) ?_
  refine lv_iload S.1 S.2.1 d_LW_law_478 (lv_at hl 1 rfl) ?_
  refine lv_iconst (v := 4) S.1 S.2.1 d_LW_law_480 (by decide) ?_
  refine lv_iadd S.1 S.2.1 d_LW_law_481 ?_
  refine sc_a (k := 4) S hX hbl hbA hO.S (nI_add i 4) (by omega) hL d_LW_law_482 ?_
  refine g_VI (As := [.int (xs (i + 1)), .int (xs (i + 2)), .int (xs (i + 3)), .int (xs (i + 4))]) (rest := []) S hO (fun _ h => h) (k_MD_nature l G (adG G) σ1 τ1 (xs (i + 1)) (xs (i + 2)) (xs (i + 3)) (xs (i + 4)) nu e2 aUN.2.2.1) cw_LW_102 (k := 140) (by decide) (sh_140 G (adG G) _ _) rfl rfl hl.1 (Nat.le_of_ble_eq_true rfl) ⟨(Nat.le_of_ble_eq_true rfl), (Nat.le_of_ble_eq_true rfl)⟩ ⟨by show cells + 6 + 0 ≤ 601024; omega, by show slots + 36 + 0 ≤ 7293034; omega⟩ d_LW_law_483 (fun q x ce H locs hx => hx.elim) (fun v E1 H locs hp2 hO => ?_)
  obtain ⟨σ2, τ2, rfl, rfl, rfl, ht⟩ := hp2
  rw [ht] at hO
  refine W.eq (g2 := F0 m 486 ls []) rfl ?_
  refine lv_aload_n S.1 S.2.1 d_LW_law_486 rfl (lv_at hl 3 rfl) ?_
  refine g_VP (As := []) (rest := []) S hO (k_MD_thrown l G (adG G) _ τ1) cw_LW_84 (k := 140) (by decide) (sh_140 G (adG G) _ _) rfl rfl hl.1 (Nat.le_of_ble_eq_true rfl) ⟨(Nat.le_of_ble_eq_true rfl), (Nat.le_of_ble_eq_true rfl)⟩ ⟨by show cells + 6 + 0 + 0 ≤ 601024; omega, by show slots + 36 + 0 + 0 ≤ 7293034; omega⟩ d_LW_law_487 (fun q x ce H hx => hx.elim) (fun v H hp3 hO => ?_)
  subst hp3
  refine W.eq (g2 := F0 m 490 ls [.int _]) rfl ?_
  refine lv_iload S.1 S.2.1 d_LW_law_490 (lv_at hl 0 rfl) ?_
  refine lv_icmp_eq (tgt := 497) S.1 S.2.1 d_LW_law_492 (by decide) (fun _ => ?_) (fun hne => absurd e0 hne)
  refine lv_goto (tgt := 1287) S.1 S.2.1 d_LW_law_497 (by decide) ?_
  exact W.widen (by omega) (by omega) (kk _ _ _ _ _ hR2 hO (lv_sub hl [1, 2, 3, 4, 5] rfl))
set_option maxHeartbeats 4000000 in
theorem c_rule {p : Program} {e : Env} {s : State} {m : MethodId} {args : Array Value} {below : List Frame} {meth : Method} {c : Code} {H : Heap} {locs : List Loc} {cells slots : Nat} {Q : State → Prop} {ls : Array Slot} {G : gP} {σ : Nat → Nat → Int32} {τ : Nat → Nat → Int64} {b L i : Nat} {xs : Nat → Int32} (l : Launch) (hst : l.stackTraces = false) (S : CallFix p m c code 7 s args gts "PlaceRulesLaw") (hX : va_X b L xs s s.heap) (hbl : b < s.heap.size) (hbA : ¬ gA G b) (hN : ncJ s) (hL : L ≤ 3072) (hi : i + 6 ≤ L) (hR : RR σ) (hO : gO G (gA G) 159 (adG G) (enc G (adG G) σ τ) s H locs) (hl : lv_has ls 7 [(4, .int (nI i)), (3, .ref (adG G 158)), (2, .ref (adG G 140)), (1, .ref (adG G 0)), (0, .ref b)]) (hcs : cells + 6 ≤ 601024 ∧ slots + 36 ≤ 7293034)
    (kk : ∀ (σ' : Nat → Nat → Int32) (τ' : Nat → Nat → Int64) (H' : Heap) (locs' : List Loc) (ls' : Array Slot), RR σ' → gO G (gA G) 159 (adG G) (enc G (adG G) σ' τ') s H' locs' → lv_has ls' 7 [(4, .int (nI i)), (3, .ref (adG G 158)), (2, .ref (adG G 140)), (1, .ref (adG G 0)), (0, .ref b)] → W p l e room_1 s m args below meth c H' locs' (cells + 6) (slots + 36) Q (F0 m 1287 ls' [])) : W p l e room_1 s m args below meth c H locs cells slots Q (F0 m 500 ls []) := by
  obtain ⟨aPL, ⟨nu, aUN⟩, ⟨n, nc, aRU⟩, ⟨ne, aEX⟩, aOW, ⟨nt, aTO⟩, ⟨N, aTX⟩, aNM⟩ := id hR
  refine lv_aload_n S.1 S.2.1 d_LW_law_500 rfl (lv_at hl 3 rfl) ?_
  refine lv_aload_n S.1 S.2.1 d_LW_law_501 rfl (lv_at hl 4 rfl) ?_
  refine lv_iload S.1 S.2.1 d_LW_law_502 (lv_at hl 0 rfl) ?_
  refine lv_iconst (v := 1) S.1 S.2.1 d_LW_law_504 (by decide) ?_
  refine lv_iadd S.1 S.2.1 d_LW_law_505 ?_
  refine sc_a (k := 1) S hX hbl hbA hO.S (nI_add i 1) (by omega) hL d_LW_law_506 ?_
  refine lv_aload_n S.1 S.2.1 d_LW_law_507 rfl (lv_at hl 4 rfl) ?_
  refine lv_iload S.1 S.2.1 d_LW_law_508 (lv_at hl 0 rfl) ?_
  refine lv_iconst (v := 2) S.1 S.2.1 d_LW_law_510 (by decide) ?_
  refine lv_iadd S.1 S.2.1 d_LW_law_511 ?_
  refine sc_a (k := 2) S hX hbl hbA hO.S (nI_add i 2) (by omega) hL d_LW_law_512 ?_
  refine lv_aload_n S.1 S.2.1 d_LW_law_513 rfl (lv_at hl 4 rfl) ?_
  refine lv_iload S.1 S.2.1 d_LW_law_514 (lv_at hl 0 rfl) ?_
  refine lv_iconst (v := 3) S.1 S.2.1 d_LW_law_516 (by decide) ?_
  refine lv_iadd S.1 S.2.1 d_LW_law_517 ?_
  refine sc_a (k := 3) S hX hbl hbA hO.S (nI_add i 3) (by omega) hL d_LW_law_518 ?_
  refine lv_aload_n S.1 S.2.1 d_LW_law_519 rfl (lv_at hl 4 rfl) ?_
  refine lv_iload S.1 S.2.1 d_LW_law_520 (lv_at hl 0 rfl) ?_
  refine lv_iconst (v := 4) S.1 S.2.1 d_LW_law_522 (by decide) ?_
  refine lv_iadd S.1 S.2.1 d_LW_law_523 ?_
  refine sc_a (k := 4) S hX hbl hbA hO.S (nI_add i 4) (by omega) hL d_LW_law_524 ?_
  refine lv_aload_n S.1 S.2.1 d_LW_law_525 rfl (lv_at hl 1 rfl) ?_
  refine g_SH (As := [.ref (adG G 0), .int (xs (i + 1)), .int (xs (i + 2)), .int (xs (i + 3)), .int (xs (i + 4)), .ref (adG G 158)]) (rest := []) S hO (fun _ h => h) hN (h_rule l hst G (adG G) σ τ (xs (i + 1)) (xs (i + 2)) (xs (i + 3)) (xs (i + 4)) n aRU.1.1.2.1 aRU.1.1.1 nc aRU.1.2.2.1 aRU.1.2.2.2 aRU.1.hod aRU.1.hkd) cw_LW_103 g_cfW hl.1 (Nat.le_of_ble_eq_true rfl) ⟨(Nat.le_of_ble_eq_true rfl), (Nat.le_of_ble_eq_true rfl)⟩ ⟨by show cells + 5 ≤ 601024; omega, by show slots + 30 ≤ 7293034; omega⟩ d_LW_law_526 (fun v σ1 τ1 H locs hp hO => ?_)
  obtain ⟨z, x, rfl, hp, h158⟩ := hp
  obtain ⟨e5, e18, e0, hR2, ev⟩ := r_rule hR aRU hp
  refine W.eq (g2 := F0 m 529 ls [.int z]) rfl ?_
  refine lv_istore (lv' := [(5, .int z), (4, .int (nI i)), (3, .ref (adG G 158)), (2, .ref (adG G 140)), (1, .ref (adG G 0)), (0, .ref b)]) S.1 S.2.1 d_LW_law_529 hl (by decide) rfl (fun ls hl => ?_)
  refine lv_aload_n S.1 S.2.1 d_LW_law_531 rfl (lv_at hl 3 rfl) ?_
  refine lv_aload_n S.1 S.2.1 d_LW_law_532 rfl (lv_at hl 5 rfl) ?_
  refine lv_iload S.1 S.2.1 d_LW_law_533 (lv_at hl 1 rfl) ?_
  refine lv_iconst (v := 1) S.1 S.2.1 d_LW_law_535 (by decide) ?_
  refine lv_iadd S.1 S.2.1 d_LW_law_536 ?_
  refine sc_a (k := 1) S hX hbl hbA hO.S (nI_add i 1) (by omega) hL d_LW_law_537 ?_
  refine lv_aload_n S.1 S.2.1 d_LW_law_538 rfl (lv_at hl 5 rfl) ?_
  refine lv_iload S.1 S.2.1 d_LW_law_539 (lv_at hl 1 rfl) ?_
  refine lv_iconst (v := 2) S.1 S.2.1 d_LW_law_541 (by decide) ?_
  refine lv_iadd S.1 S.2.1 d_LW_law_542 ?_
  refine sc_a (k := 2) S hX hbl hbA hO.S (nI_add i 2) (by omega) hL d_LW_law_543 ?_
  refine lv_aload_n S.1 S.2.1 d_LW_law_544 rfl (lv_at hl 5 rfl) ?_
  refine lv_iload S.1 S.2.1 d_LW_law_545 (lv_at hl 1 rfl) ?_
  refine lv_iconst (v := 3) S.1 S.2.1 d_LW_law_547 (by decide) ?_
  refine lv_iadd S.1 S.2.1 d_LW_law_548 ?_
  refine sc_a (k := 3) S hX hbl hbA hO.S (nI_add i 3) (by omega) hL d_LW_law_549 ?_
  refine lv_aload_n S.1 S.2.1 d_LW_law_550 rfl (lv_at hl 5 rfl) ?_
  refine lv_iload S.1 S.2.1 d_LW_law_551 (lv_at hl 1 rfl) ?_
  refine lv_iconst (v := 4) S.1 S.2.1 d_LW_law_553 (by decide) ?_
  refine lv_iadd S.1 S.2.1 d_LW_law_554 ?_
  refine sc_a (k := 4) S hX hbl hbA hO.S (nI_add i 4) (by omega) hL d_LW_law_555 ?_
  refine g_VI (As := [.int (xs (i + 1)), .int (xs (i + 2)), .int (xs (i + 3)), .int (xs (i + 4))]) (rest := []) S hO (fun _ h => h) (k_MD_rule l G (adG G) σ1 τ1 (xs (i + 1)) (xs (i + 2)) (xs (i + 3)) (xs (i + 4)) n aRU.1.1.2.1 e5 nc e18 aRU.1.2.2.2) cw_LW_106 (k := 140) (by decide) (sh_140 G (adG G) _ _) rfl rfl hl.1 (Nat.le_of_ble_eq_true rfl) ⟨(Nat.le_of_ble_eq_true rfl), (Nat.le_of_ble_eq_true rfl)⟩ ⟨by show cells + 5 + 0 ≤ 601024; omega, by show slots + 30 + 0 ≤ 7293034; omega⟩ d_LW_law_556 (fun q x ce H locs hx => hx.elim) (fun v E1 H locs hp2 hO => ?_)
  obtain ⟨σ2, τ2, rfl, rfl, rfl, ht⟩ := hp2
  rw [ht] at hO
  refine W.eq (g2 := F0 m 559 ls [.int _]) rfl ?_
  refine lv_istore (lv' := [(6, .int _), (5, .int z), (4, .int (nI i)), (3, .ref (adG G 158)), (2, .ref (adG G 140)), (1, .ref (adG G 0)), (0, .ref b)]) S.1 S.2.1 d_LW_law_559 hl (by decide) rfl (fun ls hl => ?_)
  refine lv_aload_n S.1 S.2.1 d_LW_law_561 rfl (lv_at hl 4 rfl) ?_
  refine g_VP (As := []) (rest := []) S hO (k_MD_thrown l G (adG G) _ τ1) cw_LW_84 (k := 140) (by decide) (sh_140 G (adG G) _ _) rfl rfl hl.1 (Nat.le_of_ble_eq_true rfl) ⟨(Nat.le_of_ble_eq_true rfl), (Nat.le_of_ble_eq_true rfl)⟩ ⟨by show cells + 5 + 0 + 0 ≤ 601024; omega, by show slots + 30 + 0 + 0 ≤ 7293034; omega⟩ d_LW_law_562 (fun q x ce H hx => hx.elim) (fun v H hp3 hO => ?_)
  subst hp3
  refine W.eq (g2 := F0 m 565 ls [.int _]) rfl ?_
  refine lv_iload S.1 S.2.1 d_LW_law_565 (lv_at hl 1 rfl) ?_
  refine lv_icmp_eq (tgt := 572) S.1 S.2.1 d_LW_law_567 (by decide) (fun _ => ?_) (fun hne => absurd e0 hne)
  refine lv_iload S.1 S.2.1 d_LW_law_572 (lv_at hl 1 rfl) ?_
  refine lv_if_ne (tgt := 589) S.1 S.2.1 d_LW_law_574 (by decide) (fun _ => ?_) (fun hz => ?_)
  · refine lv_goto (tgt := 1287) S.1 S.2.1 d_LW_law_589 (by decide) ?_
    exact W.widen (by omega) (by omega) (kk _ _ _ _ _ hR2 hO (lv_sub hl [2, 3, 4, 5, 6] rfl))
  · have hz : z = 0 := by first | exact hz | exact Decidable.not_not.mp hz
    refine lv_aload_n S.1 S.2.1 d_LW_law_577 rfl (lv_at hl 3 rfl) ?_
    refine lv_iconst (v := 0) S.1 S.2.1 d_LW_law_578 (by decide) ?_
    refine g_lal S hO (k := 158) (N := 1) (i := 0) (by decide) (sh_158 G (adG G) _ _) (vp_in_nI (n := 0) (by decide) (by decide)) d_LW_law_579 ?_
    refine lv_iload S.1 S.2.1 d_LW_law_580 (lv_at hl 0 rfl) ?_
    refine lv_i2l S.1 S.2.1 d_LW_law_582 rfl ?_
    refine W.lcmp S.1 S.2.1 d_LW_law_583 ?_
    refine lv_if_eq (tgt := 589) S.1 S.2.1 d_LW_law_584 (by decide) (fun _ => ?_) (fun hne => absurd ?_ hne)
    · refine lv_goto (tgt := 1287) S.1 S.2.1 d_LW_law_589 (by decide) ?_
      exact W.widen (by omega) (by omega) (kk _ _ _ _ _ hR2 hO (lv_sub hl [2, 3, 4, 5, 6] rfl))
    · show lg_cmp (τ1 158 0) _ = 0
      rw [h158 hz, ev hz]
      exact lg_cc _
set_option maxHeartbeats 4000000 in
theorem c_sign {p : Program} {e : Env} {s : State} {m : MethodId} {args : Array Value} {below : List Frame} {meth : Method} {c : Code} {H : Heap} {locs : List Loc} {cells slots : Nat} {Q : State → Prop} {ls : Array Slot} {G : gP} {σ : Nat → Nat → Int32} {τ : Nat → Nat → Int64} {b L i : Nat} {xs : Nat → Int32} (l : Launch) (hst : l.stackTraces = false) (S : CallFix p m c code 7 s args gts "PlaceRulesLaw") (hX : va_X b L xs s s.heap) (hbl : b < s.heap.size) (hbA : ¬ gA G b) (hN : ncJ s) (hL : L ≤ 3072) (hi : i + 6 ≤ L) (hR : RR σ) (hO : gO G (gA G) 159 (adG G) (enc G (adG G) σ τ) s H locs) (hl : lv_has ls 7 [(4, .int (nI i)), (3, .ref (adG G 158)), (2, .ref (adG G 140)), (1, .ref (adG G 0)), (0, .ref b)]) (hcs : cells + 6 ≤ 601024 ∧ slots + 36 ≤ 7293034)
    (kk : ∀ (σ' : Nat → Nat → Int32) (τ' : Nat → Nat → Int64) (H' : Heap) (locs' : List Loc) (ls' : Array Slot), RR σ' → gO G (gA G) 159 (adG G) (enc G (adG G) σ' τ') s H' locs' → lv_has ls' 7 [(4, .int (nI i)), (3, .ref (adG G 158)), (2, .ref (adG G 140)), (1, .ref (adG G 0)), (0, .ref b)] → W p l e room_1 s m args below meth c H' locs' (cells + 6) (slots + 36) Q (F0 m 1287 ls' [])) : W p l e room_1 s m args below meth c H locs cells slots Q (F0 m 592 ls []) := by
  obtain ⟨aPL, ⟨nu, aUN⟩, ⟨n, nc, aRU⟩, ⟨ne, aEX⟩, aOW, ⟨nt, aTO⟩, ⟨N, aTX⟩, aNM⟩ := id hR
  refine lv_aload_n S.1 S.2.1 d_LW_law_592 rfl (lv_at hl 3 rfl) ?_
  refine lv_aload_n S.1 S.2.1 d_LW_law_593 rfl (lv_at hl 4 rfl) ?_
  refine lv_iload S.1 S.2.1 d_LW_law_594 (lv_at hl 0 rfl) ?_
  refine lv_iconst (v := 1) S.1 S.2.1 d_LW_law_596 (by decide) ?_
  refine lv_iadd S.1 S.2.1 d_LW_law_597 ?_
  refine sc_a (k := 1) S hX hbl hbA hO.S (nI_add i 1) (by omega) hL d_LW_law_598 ?_
  refine g_VI (As := [.int (xs (i + 1))]) (rest := []) S hO (fun _ h => h) (k_PR_sign l G (adG G) σ τ (xs (i + 1)) N aTX.1 aTX.2.2.1) cw_LW_107 (k := 0) (by decide) (sh_0 G (adG G) _ _) rfl rfl hl.1 (Nat.le_of_ble_eq_true rfl) ⟨(Nat.le_of_ble_eq_true rfl), (Nat.le_of_ble_eq_true rfl)⟩ ⟨by show cells + 0 ≤ 601024; omega, by show slots + 0 ≤ 7293034; omega⟩ d_LW_law_599 (fun q x ce H locs hx => hx.elim) (fun v E1 H locs hp hO => ?_)
  obtain ⟨σ1, τ1, rfl, rfl, hs1, -⟩ := hp
  obtain ⟨e22, hR2, ev⟩ := r_sign hR aTX hs1
  refine W.eq (g2 := F0 m 602 ls [.int _]) rfl ?_
  refine lv_aload_n S.1 S.2.1 d_LW_law_602 rfl (lv_at hl 2 rfl) ?_
  refine lv_aload_n S.1 S.2.1 d_LW_law_603 rfl (lv_at hl 4 rfl) ?_
  refine lv_iload S.1 S.2.1 d_LW_law_604 (lv_at hl 0 rfl) ?_
  refine lv_iconst (v := 1) S.1 S.2.1 d_LW_law_606 (by decide) ?_
  refine lv_iadd S.1 S.2.1 d_LW_law_607 ?_
  refine sc_a (k := 1) S hX hbl hbA hO.S (nI_add i 1) (by omega) hL d_LW_law_608 ?_
  refine g_VI (As := [.int (xs (i + 1))]) (rest := [.int _]) S hO (fun _ h => h) (k_MD_sign l G (adG G) σ1 τ1 (xs (i + 1)) N e22 aTX.2.2.1) cw_LW_110 (k := 140) (by decide) (sh_140 G (adG G) _ _) rfl rfl hl.1 (Nat.le_of_ble_eq_true rfl) ⟨(Nat.le_of_ble_eq_true rfl), (Nat.le_of_ble_eq_true rfl)⟩ ⟨by show cells + 0 + 0 ≤ 601024; omega, by show slots + 0 + 0 ≤ 7293034; omega⟩ d_LW_law_609 (fun q x ce H locs hx => hx.elim) (fun v E1 H locs hp2 hO => ?_)
  obtain ⟨σ2, τ2, rfl, rfl, rfl, ht⟩ := hp2
  refine W.eq (g2 := F0 m 612 ls [.int _, .int _]) rfl ?_
  refine lv_icmp_eq (tgt := 1287) S.1 S.2.1 d_LW_law_612 (by decide) (fun _ => ?_) (fun hne => absurd ev hne)
  exact W.widen (by omega) (by omega) (kk _ _ _ _ _ hR2 hO hl)
set_option maxHeartbeats 4000000 in
theorem c_read {p : Program} {e : Env} {s : State} {m : MethodId} {args : Array Value} {below : List Frame} {meth : Method} {c : Code} {H : Heap} {locs : List Loc} {cells slots : Nat} {Q : State → Prop} {ls : Array Slot} {G : gP} {σ : Nat → Nat → Int32} {τ : Nat → Nat → Int64} {b L i : Nat} {xs : Nat → Int32} (l : Launch) (hst : l.stackTraces = false) (S : CallFix p m c code 7 s args gts "PlaceRulesLaw") (hX : va_X b L xs s s.heap) (hbl : b < s.heap.size) (hbA : ¬ gA G b) (hN : ncJ s) (hL : L ≤ 3072) (hi : i + 6 ≤ L) (hR : RR σ) (hO : gO G (gA G) 159 (adG G) (enc G (adG G) σ τ) s H locs) (hl : lv_has ls 7 [(4, .int (nI i)), (3, .ref (adG G 158)), (2, .ref (adG G 140)), (1, .ref (adG G 0)), (0, .ref b)]) (hcs : cells + 6 ≤ 601024 ∧ slots + 36 ≤ 7293034)
    (kk : ∀ (σ' : Nat → Nat → Int32) (τ' : Nat → Nat → Int64) (H' : Heap) (locs' : List Loc) (ls' : Array Slot), RR σ' → gO G (gA G) 159 (adG G) (enc G (adG G) σ' τ') s H' locs' → lv_has ls' 7 [(4, .int (nI i)), (3, .ref (adG G 158)), (2, .ref (adG G 140)), (1, .ref (adG G 0)), (0, .ref b)] → W p l e room_1 s m args below meth c H' locs' (cells + 6) (slots + 36) Q (F0 m 1287 ls' [])) : W p l e room_1 s m args below meth c H locs cells slots Q (F0 m 617 ls []) := by
  obtain ⟨aPL, ⟨nu, aUN⟩, ⟨n, nc, aRU⟩, ⟨ne, aEX⟩, aOW, ⟨nt, aTO⟩, ⟨N, aTX⟩, aNM⟩ := id hR
  refine lv_aload_n S.1 S.2.1 d_LW_law_617 rfl (lv_at hl 3 rfl) ?_
  refine g_VI (As := []) (rest := []) S hO (fun _ h => h) (k_PR_read l G (adG G) σ τ n nc aRU.1 N aTX.1 aTX.2.2.1 aTX.2.2.2.2 (fun e2 h2 => by have := prs_eb aTX.2.2.1 _ _ e2 h2; omega)) cw_LW_111 (k := 0) (by decide) (sh_0 G (adG G) _ _) rfl rfl hl.1 (Nat.le_of_ble_eq_true rfl) ⟨(Nat.le_of_ble_eq_true rfl), (Nat.le_of_ble_eq_true rfl)⟩ ⟨by show cells + 0 ≤ 601024; omega, by show slots + 0 ≤ 7293034; omega⟩ d_LW_law_618 (fun q x ce H locs hx => hx.elim) (fun v E1 H locs hp hO => ?_)
  obtain ⟨σ1, τ1, rfl, s0, hT, hV, hD, -⟩ := hp
  obtain ⟨x0, rfl⟩ := rdP_v hD
  have hc := rdP_c hT aRU.1.1.2.1 hD
  refine W.eq (g2 := F0 m 621 ls [.int _]) rfl ?_
  refine lv_aload_n S.1 S.2.1 d_LW_law_621 rfl (lv_at hl 2 rfl) ?_
  refine g_VI (As := []) (rest := [.int _]) S hO (fun _ h => h) (k_MD_read l G (adG G) σ1 τ1 n nc ⟨by rw [hc 140 (by omega)]; exact aRU.2.1, by rw [hc 140 (by omega)]; exact aRU.2.2.1, aRU.1.2.2.2⟩ aRU.1.1.2.1 N (by rw [hc 140 (by omega)]; exact aTX.2.1) aTX.2.2.1 (aNM.f (fun k j hd => by rw [show k = 157 from hd, hc 157 (by omega)]))) cw_LW_114 (k := 140) (by decide) (sh_140 G (adG G) _ _) rfl rfl hl.1 (Nat.le_of_ble_eq_true rfl) ⟨(Nat.le_of_ble_eq_true rfl), (Nat.le_of_ble_eq_true rfl)⟩ ⟨by show cells + 0 + 0 ≤ 601024; omega, by show slots + 0 + 0 ≤ 7293034; omega⟩ d_LW_law_622 (fun q x ce H locs hx => hx.elim) (fun v E1 H locs hp2 hO => ?_)
  obtain ⟨σ2, τ2, rfl, hm, ht⟩ := hp2
  obtain ⟨ev, hR2⟩ := r_read hR aRU aTX ⟨s0, hT, hV, hD⟩ hm
  subst ev
  refine W.eq (g2 := F0 m 625 ls [.int _, .int _]) rfl ?_
  refine lv_icmp_eq (tgt := 1287) S.1 S.2.1 d_LW_law_625 (by decide) (fun _ => ?_) (fun hne => absurd rfl hne)
  exact W.widen (by omega) (by omega) (kk _ _ _ _ _ hR2 hO hl)
set_option maxHeartbeats 4000000 in
theorem c_own {p : Program} {e : Env} {s : State} {m : MethodId} {args : Array Value} {below : List Frame} {meth : Method} {c : Code} {H : Heap} {locs : List Loc} {cells slots : Nat} {Q : State → Prop} {ls : Array Slot} {G : gP} {σ : Nat → Nat → Int32} {τ : Nat → Nat → Int64} {b L i : Nat} {xs : Nat → Int32} (l : Launch) (hst : l.stackTraces = false) (S : CallFix p m c code 7 s args gts "PlaceRulesLaw") (hX : va_X b L xs s s.heap) (hbl : b < s.heap.size) (hbA : ¬ gA G b) (hN : ncJ s) (hL : L ≤ 3072) (hi : i + 6 ≤ L) (hR : RR σ) (hO : gO G (gA G) 159 (adG G) (enc G (adG G) σ τ) s H locs) (hl : lv_has ls 7 [(4, .int (nI i)), (3, .ref (adG G 158)), (2, .ref (adG G 140)), (1, .ref (adG G 0)), (0, .ref b)]) (hcs : cells + 6 ≤ 601024 ∧ slots + 36 ≤ 7293034)
    (kk : ∀ (σ' : Nat → Nat → Int32) (τ' : Nat → Nat → Int64) (H' : Heap) (locs' : List Loc) (ls' : Array Slot), RR σ' → gO G (gA G) 159 (adG G) (enc G (adG G) σ' τ') s H' locs' → lv_has ls' 7 [(4, .int (nI i)), (3, .ref (adG G 158)), (2, .ref (adG G 140)), (1, .ref (adG G 0)), (0, .ref b)] → W p l e room_1 s m args below meth c H' locs' (cells + 6) (slots + 36) Q (F0 m 1287 ls' [])) : W p l e room_1 s m args below meth c H locs cells slots Q (F0 m 630 ls []) := by
  obtain ⟨aPL, ⟨nu, aUN⟩, ⟨n, nc, aRU⟩, ⟨ne, aEX⟩, aOW, ⟨nt, aTO⟩, ⟨N, aTX⟩, aNM⟩ := id hR
  refine lv_aload_n S.1 S.2.1 d_LW_law_630 rfl (lv_at hl 3 rfl) ?_
  refine lv_aload_n S.1 S.2.1 d_LW_law_631 rfl (lv_at hl 4 rfl) ?_
  refine lv_iload S.1 S.2.1 d_LW_law_632 (lv_at hl 0 rfl) ?_
  refine lv_iconst (v := 1) S.1 S.2.1 d_LW_law_634 (by decide) ?_
  refine lv_iadd S.1 S.2.1 d_LW_law_635 ?_
  refine sc_a (k := 1) S hX hbl hbA hO.S (nI_add i 1) (by omega) hL d_LW_law_636 ?_
  refine lv_aload_n S.1 S.2.1 d_LW_law_637 rfl (lv_at hl 4 rfl) ?_
  refine lv_iload S.1 S.2.1 d_LW_law_638 (lv_at hl 0 rfl) ?_
  refine lv_iconst (v := 2) S.1 S.2.1 d_LW_law_640 (by decide) ?_
  refine lv_iadd S.1 S.2.1 d_LW_law_641 ?_
  refine sc_a (k := 2) S hX hbl hbA hO.S (nI_add i 2) (by omega) hL d_LW_law_642 ?_
  refine g_SH (As := [.ref (adG G 0), .int (xs (i + 1)), .int (xs (i + 2))]) (rest := []) S hO (fun _ h => h) hN (h_own l hst G (adG G) σ τ (xs (i + 1)) (xs (i + 2)) ) cw_LW_115 g_cfW hl.1 (Nat.le_of_ble_eq_true rfl) ⟨(Nat.le_of_ble_eq_true rfl), (Nat.le_of_ble_eq_true rfl)⟩ ⟨by show cells + 2 ≤ 601024; omega, by show slots + 12 ≤ 7293034; omega⟩ d_LW_law_643 (fun v σ1 τ1 H locs hp hO => ?_)
  obtain ⟨z, rfl, hp⟩ := hp
  obtain ⟨e0, hR2⟩ := r_own hR hp
  refine W.eq (g2 := F0 m 646 ls [.int z]) rfl ?_
  refine lv_istore (lv' := [(5, .int z), (4, .int (nI i)), (3, .ref (adG G 158)), (2, .ref (adG G 140)), (1, .ref (adG G 0)), (0, .ref b)]) S.1 S.2.1 d_LW_law_646 hl (by decide) rfl (fun ls hl => ?_)
  refine lv_aload_n S.1 S.2.1 d_LW_law_648 rfl (lv_at hl 3 rfl) ?_
  refine lv_aload_n S.1 S.2.1 d_LW_law_649 rfl (lv_at hl 5 rfl) ?_
  refine lv_iload S.1 S.2.1 d_LW_law_650 (lv_at hl 1 rfl) ?_
  refine lv_iconst (v := 1) S.1 S.2.1 d_LW_law_652 (by decide) ?_
  refine lv_iadd S.1 S.2.1 d_LW_law_653 ?_
  refine sc_a (k := 1) S hX hbl hbA hO.S (nI_add i 1) (by omega) hL d_LW_law_654 ?_
  refine lv_aload_n S.1 S.2.1 d_LW_law_655 rfl (lv_at hl 5 rfl) ?_
  refine lv_iload S.1 S.2.1 d_LW_law_656 (lv_at hl 1 rfl) ?_
  refine lv_iconst (v := 2) S.1 S.2.1 d_LW_law_658 (by decide) ?_
  refine lv_iadd S.1 S.2.1 d_LW_law_659 ?_
  refine sc_a (k := 2) S hX hbl hbA hO.S (nI_add i 2) (by omega) hL d_LW_law_660 ?_
  refine g_VI (As := [.int (xs (i + 1)), .int (xs (i + 2))]) (rest := []) S hO (fun _ h => h) (k_MD_own l G (adG G) σ1 τ1 (xs (i + 1)) (xs (i + 2)) ) cw_LW_118 (k := 140) (by decide) (sh_140 G (adG G) _ _) rfl rfl hl.1 (Nat.le_of_ble_eq_true rfl) ⟨(Nat.le_of_ble_eq_true rfl), (Nat.le_of_ble_eq_true rfl)⟩ ⟨by show cells + 2 + 0 ≤ 601024; omega, by show slots + 12 + 0 ≤ 7293034; omega⟩ d_LW_law_661 (fun q x ce H locs hx => hx.elim) (fun v E1 H locs hp2 hO => ?_)
  obtain ⟨σ2, τ2, rfl, rfl, rfl, ht⟩ := hp2
  rw [ht] at hO
  refine W.eq (g2 := F0 m 664 ls []) rfl ?_
  refine lv_aload_n S.1 S.2.1 d_LW_law_664 rfl (lv_at hl 3 rfl) ?_
  refine g_VP (As := []) (rest := []) S hO (k_MD_thrown l G (adG G) _ τ1) cw_LW_84 (k := 140) (by decide) (sh_140 G (adG G) _ _) rfl rfl hl.1 (Nat.le_of_ble_eq_true rfl) ⟨(Nat.le_of_ble_eq_true rfl), (Nat.le_of_ble_eq_true rfl)⟩ ⟨by show cells + 2 + 0 + 0 ≤ 601024; omega, by show slots + 12 + 0 + 0 ≤ 7293034; omega⟩ d_LW_law_665 (fun q x ce H hx => hx.elim) (fun v H hp3 hO => ?_)
  subst hp3
  refine W.eq (g2 := F0 m 668 ls [.int _]) rfl ?_
  refine lv_iload S.1 S.2.1 d_LW_law_668 (lv_at hl 0 rfl) ?_
  refine lv_icmp_eq (tgt := 675) S.1 S.2.1 d_LW_law_670 (by decide) (fun _ => ?_) (fun hne => absurd e0 hne)
  refine lv_goto (tgt := 1287) S.1 S.2.1 d_LW_law_675 (by decide) ?_
  exact W.widen (by omega) (by omega) (kk _ _ _ _ _ hR2 hO (lv_sub hl [1, 2, 3, 4, 5] rfl))
set_option maxHeartbeats 4000000 in
theorem c_except {p : Program} {e : Env} {s : State} {m : MethodId} {args : Array Value} {below : List Frame} {meth : Method} {c : Code} {H : Heap} {locs : List Loc} {cells slots : Nat} {Q : State → Prop} {ls : Array Slot} {G : gP} {σ : Nat → Nat → Int32} {τ : Nat → Nat → Int64} {b L i : Nat} {xs : Nat → Int32} (l : Launch) (hst : l.stackTraces = false) (S : CallFix p m c code 7 s args gts "PlaceRulesLaw") (hX : va_X b L xs s s.heap) (hbl : b < s.heap.size) (hbA : ¬ gA G b) (hN : ncJ s) (hL : L ≤ 3072) (hi : i + 6 ≤ L) (hR : RR σ) (hO : gO G (gA G) 159 (adG G) (enc G (adG G) σ τ) s H locs) (hl : lv_has ls 7 [(4, .int (nI i)), (3, .ref (adG G 158)), (2, .ref (adG G 140)), (1, .ref (adG G 0)), (0, .ref b)]) (hcs : cells + 6 ≤ 601024 ∧ slots + 36 ≤ 7293034)
    (kk : ∀ (σ' : Nat → Nat → Int32) (τ' : Nat → Nat → Int64) (H' : Heap) (locs' : List Loc) (ls' : Array Slot), RR σ' → gO G (gA G) 159 (adG G) (enc G (adG G) σ' τ') s H' locs' → lv_has ls' 7 [(4, .int (nI i)), (3, .ref (adG G 158)), (2, .ref (adG G 140)), (1, .ref (adG G 0)), (0, .ref b)] → W p l e room_1 s m args below meth c H' locs' (cells + 6) (slots + 36) Q (F0 m 1287 ls' [])) : W p l e room_1 s m args below meth c H locs cells slots Q (F0 m 678 ls []) := by
  obtain ⟨aPL, ⟨nu, aUN⟩, ⟨n, nc, aRU⟩, ⟨ne, aEX⟩, aOW, ⟨nt, aTO⟩, ⟨N, aTX⟩, aNM⟩ := id hR
  refine lv_aload_n S.1 S.2.1 d_LW_law_678 rfl (lv_at hl 3 rfl) ?_
  refine lv_aload_n S.1 S.2.1 d_LW_law_679 rfl (lv_at hl 4 rfl) ?_
  refine lv_iload S.1 S.2.1 d_LW_law_680 (lv_at hl 0 rfl) ?_
  refine lv_iconst (v := 1) S.1 S.2.1 d_LW_law_682 (by decide) ?_
  refine lv_iadd S.1 S.2.1 d_LW_law_683 ?_
  refine sc_a (k := 1) S hX hbl hbA hO.S (nI_add i 1) (by omega) hL d_LW_law_684 ?_
  refine lv_aload_n S.1 S.2.1 d_LW_law_685 rfl (lv_at hl 4 rfl) ?_
  refine lv_iload S.1 S.2.1 d_LW_law_686 (lv_at hl 0 rfl) ?_
  refine lv_iconst (v := 2) S.1 S.2.1 d_LW_law_688 (by decide) ?_
  refine lv_iadd S.1 S.2.1 d_LW_law_689 ?_
  refine sc_a (k := 2) S hX hbl hbA hO.S (nI_add i 2) (by omega) hL d_LW_law_690 ?_
  refine lv_aload_n S.1 S.2.1 d_LW_law_691 rfl (lv_at hl 4 rfl) ?_
  refine lv_iload S.1 S.2.1 d_LW_law_692 (lv_at hl 0 rfl) ?_
  refine lv_iconst (v := 3) S.1 S.2.1 d_LW_law_694 (by decide) ?_
  refine lv_iadd S.1 S.2.1 d_LW_law_695 ?_
  refine sc_a (k := 3) S hX hbl hbA hO.S (nI_add i 3) (by omega) hL d_LW_law_696 ?_
  refine lv_aload_n S.1 S.2.1 d_LW_law_697 rfl (lv_at hl 4 rfl) ?_
  refine lv_iload S.1 S.2.1 d_LW_law_698 (lv_at hl 0 rfl) ?_
  refine lv_iconst (v := 4) S.1 S.2.1 d_LW_law_700 (by decide) ?_
  refine lv_iadd S.1 S.2.1 d_LW_law_701 ?_
  refine sc_a (k := 4) S hX hbl hbA hO.S (nI_add i 4) (by omega) hL d_LW_law_702 ?_
  refine g_SH (As := [.ref (adG G 0), .int (xs (i + 1)), .int (xs (i + 2)), .int (xs (i + 3)), .int (xs (i + 4))]) (rest := []) S hO (fun _ h => h) hN (h_except l hst G (adG G) σ τ (xs (i + 1)) (xs (i + 2)) (xs (i + 3)) (xs (i + 4)) ne aEX.1 aEX.2.2.1) cw_LW_119 g_cfW hl.1 (Nat.le_of_ble_eq_true rfl) ⟨(Nat.le_of_ble_eq_true rfl), (Nat.le_of_ble_eq_true rfl)⟩ ⟨by show cells + 4 ≤ 601024; omega, by show slots + 24 ≤ 7293034; omega⟩ d_LW_law_703 (fun v σ1 τ1 H locs hp hO => ?_)
  obtain ⟨z, rfl, hp⟩ := hp
  obtain ⟨e5, e11, e0, hR2⟩ := r_except hR aRU aEX hp
  refine W.eq (g2 := F0 m 706 ls [.int z]) rfl ?_
  refine lv_istore (lv' := [(5, .int z), (4, .int (nI i)), (3, .ref (adG G 158)), (2, .ref (adG G 140)), (1, .ref (adG G 0)), (0, .ref b)]) S.1 S.2.1 d_LW_law_706 hl (by decide) rfl (fun ls hl => ?_)
  refine lv_aload_n S.1 S.2.1 d_LW_law_708 rfl (lv_at hl 3 rfl) ?_
  refine lv_aload_n S.1 S.2.1 d_LW_law_709 rfl (lv_at hl 5 rfl) ?_
  refine lv_iload S.1 S.2.1 d_LW_law_710 (lv_at hl 1 rfl) ?_
  refine lv_iconst (v := 1) S.1 S.2.1 d_LW_law_712 (by decide) ?_
  refine lv_iadd S.1 S.2.1 d_LW_law_713 ?_
  refine sc_a (k := 1) S hX hbl hbA hO.S (nI_add i 1) (by omega) hL d_LW_law_714 ?_
  refine lv_aload_n S.1 S.2.1 d_LW_law_715 rfl (lv_at hl 5 rfl) ?_
  refine lv_iload S.1 S.2.1 d_LW_law_716 (lv_at hl 1 rfl) ?_
  refine lv_iconst (v := 2) S.1 S.2.1 d_LW_law_718 (by decide) ?_
  refine lv_iadd S.1 S.2.1 d_LW_law_719 ?_
  refine sc_a (k := 2) S hX hbl hbA hO.S (nI_add i 2) (by omega) hL d_LW_law_720 ?_
  refine lv_aload_n S.1 S.2.1 d_LW_law_721 rfl (lv_at hl 5 rfl) ?_
  refine lv_iload S.1 S.2.1 d_LW_law_722 (lv_at hl 1 rfl) ?_
  refine lv_iconst (v := 3) S.1 S.2.1 d_LW_law_724 (by decide) ?_
  refine lv_iadd S.1 S.2.1 d_LW_law_725 ?_
  refine sc_a (k := 3) S hX hbl hbA hO.S (nI_add i 3) (by omega) hL d_LW_law_726 ?_
  refine lv_aload_n S.1 S.2.1 d_LW_law_727 rfl (lv_at hl 5 rfl) ?_
  refine lv_iload S.1 S.2.1 d_LW_law_728 (lv_at hl 1 rfl) ?_
  refine lv_iconst (v := 4) S.1 S.2.1 d_LW_law_730 (by decide) ?_
  refine lv_iadd S.1 S.2.1 d_LW_law_731 ?_
  refine sc_a (k := 4) S hX hbl hbA hO.S (nI_add i 4) (by omega) hL d_LW_law_732 ?_
  refine g_VI (As := [.int (xs (i + 1)), .int (xs (i + 2)), .int (xs (i + 3)), .int (xs (i + 4))]) (rest := []) S hO (fun _ h => h) (k_MD_except l G (adG G) σ1 τ1 (xs (i + 1)) (xs (i + 2)) (xs (i + 3)) (xs (i + 4)) n e5 ne e11 aEX.2.2.1) cw_LW_121 (k := 140) (by decide) (sh_140 G (adG G) _ _) rfl rfl hl.1 (Nat.le_of_ble_eq_true rfl) ⟨(Nat.le_of_ble_eq_true rfl), (Nat.le_of_ble_eq_true rfl)⟩ ⟨by show cells + 4 + 0 ≤ 601024; omega, by show slots + 24 + 0 ≤ 7293034; omega⟩ d_LW_law_733 (fun q x ce H locs hx => hx.elim) (fun v E1 H locs hp2 hO => ?_)
  obtain ⟨σ2, τ2, rfl, rfl, rfl, ht⟩ := hp2
  rw [ht] at hO
  refine W.eq (g2 := F0 m 736 ls []) rfl ?_
  refine lv_aload_n S.1 S.2.1 d_LW_law_736 rfl (lv_at hl 3 rfl) ?_
  refine g_VP (As := []) (rest := []) S hO (k_MD_thrown l G (adG G) _ τ1) cw_LW_84 (k := 140) (by decide) (sh_140 G (adG G) _ _) rfl rfl hl.1 (Nat.le_of_ble_eq_true rfl) ⟨(Nat.le_of_ble_eq_true rfl), (Nat.le_of_ble_eq_true rfl)⟩ ⟨by show cells + 4 + 0 + 0 ≤ 601024; omega, by show slots + 24 + 0 + 0 ≤ 7293034; omega⟩ d_LW_law_737 (fun q x ce H hx => hx.elim) (fun v H hp3 hO => ?_)
  subst hp3
  refine W.eq (g2 := F0 m 740 ls [.int _]) rfl ?_
  refine lv_iload S.1 S.2.1 d_LW_law_740 (lv_at hl 0 rfl) ?_
  refine lv_icmp_eq (tgt := 747) S.1 S.2.1 d_LW_law_742 (by decide) (fun _ => ?_) (fun hne => absurd e0 hne)
  refine lv_goto (tgt := 1287) S.1 S.2.1 d_LW_law_747 (by decide) ?_
  exact W.widen (by omega) (by omega) (kk _ _ _ _ _ hR2 hO (lv_sub hl [1, 2, 3, 4, 5] rfl))
set_option maxHeartbeats 4000000 in
theorem c_may {p : Program} {e : Env} {s : State} {m : MethodId} {args : Array Value} {below : List Frame} {meth : Method} {c : Code} {H : Heap} {locs : List Loc} {cells slots : Nat} {Q : State → Prop} {ls : Array Slot} {G : gP} {σ : Nat → Nat → Int32} {τ : Nat → Nat → Int64} {b L i : Nat} {xs : Nat → Int32} (l : Launch) (hst : l.stackTraces = false) (S : CallFix p m c code 7 s args gts "PlaceRulesLaw") (hX : va_X b L xs s s.heap) (hbl : b < s.heap.size) (hbA : ¬ gA G b) (hN : ncJ s) (hL : L ≤ 3072) (hi : i + 6 ≤ L) (hR : RR σ) (hO : gO G (gA G) 159 (adG G) (enc G (adG G) σ τ) s H locs) (hl : lv_has ls 7 [(4, .int (nI i)), (3, .ref (adG G 158)), (2, .ref (adG G 140)), (1, .ref (adG G 0)), (0, .ref b)]) (hcs : cells + 6 ≤ 601024 ∧ slots + 36 ≤ 7293034)
    (kk : ∀ (σ' : Nat → Nat → Int32) (τ' : Nat → Nat → Int64) (H' : Heap) (locs' : List Loc) (ls' : Array Slot), RR σ' → gO G (gA G) 159 (adG G) (enc G (adG G) σ' τ') s H' locs' → lv_has ls' 7 [(4, .int (nI i)), (3, .ref (adG G 158)), (2, .ref (adG G 140)), (1, .ref (adG G 0)), (0, .ref b)] → W p l e room_1 s m args below meth c H' locs' (cells + 6) (slots + 36) Q (F0 m 1287 ls' [])) : W p l e room_1 s m args below meth c H locs cells slots Q (F0 m 750 ls []) := by
  obtain ⟨aPL, ⟨nu, aUN⟩, ⟨n, nc, aRU⟩, ⟨ne, aEX⟩, aOW, ⟨nt, aTO⟩, ⟨N, aTX⟩, aNM⟩ := id hR
  refine lv_aload_n S.1 S.2.1 d_LW_law_750 rfl (lv_at hl 3 rfl) ?_
  refine lv_aload_n S.1 S.2.1 d_LW_law_751 rfl (lv_at hl 4 rfl) ?_
  refine lv_iload S.1 S.2.1 d_LW_law_752 (lv_at hl 0 rfl) ?_
  refine lv_iconst (v := 1) S.1 S.2.1 d_LW_law_754 (by decide) ?_
  refine lv_iadd S.1 S.2.1 d_LW_law_755 ?_
  refine sc_a (k := 1) S hX hbl hbA hO.S (nI_add i 1) (by omega) hL d_LW_law_756 ?_
  refine lv_aload_n S.1 S.2.1 d_LW_law_757 rfl (lv_at hl 4 rfl) ?_
  refine lv_iload S.1 S.2.1 d_LW_law_758 (lv_at hl 0 rfl) ?_
  refine lv_iconst (v := 2) S.1 S.2.1 d_LW_law_760 (by decide) ?_
  refine lv_iadd S.1 S.2.1 d_LW_law_761 ?_
  refine sc_a (k := 2) S hX hbl hbA hO.S (nI_add i 2) (by omega) hL d_LW_law_762 ?_
  refine lv_aload_n S.1 S.2.1 d_LW_law_763 rfl (lv_at hl 4 rfl) ?_
  refine lv_iload S.1 S.2.1 d_LW_law_764 (lv_at hl 0 rfl) ?_
  refine lv_iconst (v := 3) S.1 S.2.1 d_LW_law_766 (by decide) ?_
  refine lv_iadd S.1 S.2.1 d_LW_law_767 ?_
  refine sc_a (k := 3) S hX hbl hbA hO.S (nI_add i 3) (by omega) hL d_LW_law_768 ?_
  refine lv_aload_n S.1 S.2.1 d_LW_law_769 rfl (lv_at hl 1 rfl) ?_
  refine g_SH (As := [.ref (adG G 0), .int (xs (i + 1)), .int (xs (i + 2)), .int (xs (i + 3)), .ref (adG G 158)]) (rest := []) S hO (fun _ h => h) hN (h_may l hst G (adG G) σ τ (xs (i + 1)) (xs (i + 2)) (xs (i + 3)) nu aUN.1 aUN.2.2.1 n ne aRU.1.1 aEX.1 aEX.2.2.1) cw_LW_122 g_cfW hl.1 (Nat.le_of_ble_eq_true rfl) ⟨(Nat.le_of_ble_eq_true rfl), (Nat.le_of_ble_eq_true rfl)⟩ ⟨by show cells + 3 ≤ 601024; omega, by show slots + 18 ≤ 7293034; omega⟩ d_LW_law_770 (fun v σ1 τ1 H locs hp hO => ?_)
  obtain ⟨z, x, rfl, hp, h158⟩ := hp
  obtain ⟨e2, e5, e11, hH, e0, hR2, ev⟩ := r_may hR aUN aRU aEX hp
  refine W.eq (g2 := F0 m 773 ls [.int z]) rfl ?_
  refine lv_istore (lv' := [(5, .int z), (4, .int (nI i)), (3, .ref (adG G 158)), (2, .ref (adG G 140)), (1, .ref (adG G 0)), (0, .ref b)]) S.1 S.2.1 d_LW_law_773 hl (by decide) rfl (fun ls hl => ?_)
  refine lv_aload_n S.1 S.2.1 d_LW_law_775 rfl (lv_at hl 3 rfl) ?_
  refine lv_aload_n S.1 S.2.1 d_LW_law_776 rfl (lv_at hl 5 rfl) ?_
  refine lv_iload S.1 S.2.1 d_LW_law_777 (lv_at hl 1 rfl) ?_
  refine lv_iconst (v := 1) S.1 S.2.1 d_LW_law_779 (by decide) ?_
  refine lv_iadd S.1 S.2.1 d_LW_law_780 ?_
  refine sc_a (k := 1) S hX hbl hbA hO.S (nI_add i 1) (by omega) hL d_LW_law_781 ?_
  refine lv_aload_n S.1 S.2.1 d_LW_law_782 rfl (lv_at hl 5 rfl) ?_
  refine lv_iload S.1 S.2.1 d_LW_law_783 (lv_at hl 1 rfl) ?_
  refine lv_iconst (v := 2) S.1 S.2.1 d_LW_law_785 (by decide) ?_
  refine lv_iadd S.1 S.2.1 d_LW_law_786 ?_
  refine sc_a (k := 2) S hX hbl hbA hO.S (nI_add i 2) (by omega) hL d_LW_law_787 ?_
  refine lv_aload_n S.1 S.2.1 d_LW_law_788 rfl (lv_at hl 5 rfl) ?_
  refine lv_iload S.1 S.2.1 d_LW_law_789 (lv_at hl 1 rfl) ?_
  refine lv_iconst (v := 3) S.1 S.2.1 d_LW_law_791 (by decide) ?_
  refine lv_iadd S.1 S.2.1 d_LW_law_792 ?_
  refine sc_a (k := 3) S hX hbl hbA hO.S (nI_add i 3) (by omega) hL d_LW_law_793 ?_
  refine g_VI (As := [.int (xs (i + 1)), .int (xs (i + 2)), .int (xs (i + 3))]) (rest := []) S hO (fun _ h => h) (k_MD_may l G (adG G) σ1 τ1 (xs (i + 1)) (xs (i + 2)) (xs (i + 3)) nu e2 aUN.2.2.1 n e5 aRU.1.1.2.1 ne e11 aEX.2.2.1 hH) cw_LW_124 (k := 140) (by decide) (sh_140 G (adG G) _ _) rfl rfl hl.1 (Nat.le_of_ble_eq_true rfl) ⟨(Nat.le_of_ble_eq_true rfl), (Nat.le_of_ble_eq_true rfl)⟩ ⟨by show cells + 3 + 0 ≤ 601024; omega, by show slots + 18 + 0 ≤ 7293034; omega⟩ d_LW_law_794 (fun q x ce H locs hx => hx.elim) (fun v E1 H locs hp2 hO => ?_)
  obtain ⟨σ2, τ2, rfl, rfl, rfl, ht⟩ := hp2
  rw [ht] at hO
  refine W.eq (g2 := F0 m 797 ls [.int _]) rfl ?_
  refine lv_istore (lv' := [(6, .int _), (5, .int z), (4, .int (nI i)), (3, .ref (adG G 158)), (2, .ref (adG G 140)), (1, .ref (adG G 0)), (0, .ref b)]) S.1 S.2.1 d_LW_law_797 hl (by decide) rfl (fun ls hl => ?_)
  refine lv_aload_n S.1 S.2.1 d_LW_law_799 rfl (lv_at hl 4 rfl) ?_
  refine g_VP (As := []) (rest := []) S hO (k_MD_thrown l G (adG G) _ τ1) cw_LW_84 (k := 140) (by decide) (sh_140 G (adG G) _ _) rfl rfl hl.1 (Nat.le_of_ble_eq_true rfl) ⟨(Nat.le_of_ble_eq_true rfl), (Nat.le_of_ble_eq_true rfl)⟩ ⟨by show cells + 3 + 0 + 0 ≤ 601024; omega, by show slots + 18 + 0 + 0 ≤ 7293034; omega⟩ d_LW_law_800 (fun q x ce H hx => hx.elim) (fun v H hp3 hO => ?_)
  subst hp3
  refine W.eq (g2 := F0 m 803 ls [.int _]) rfl ?_
  refine lv_iload S.1 S.2.1 d_LW_law_803 (lv_at hl 1 rfl) ?_
  refine lv_icmp_eq (tgt := 810) S.1 S.2.1 d_LW_law_805 (by decide) (fun _ => ?_) (fun hne => absurd e0 hne)
  refine lv_iload S.1 S.2.1 d_LW_law_810 (lv_at hl 1 rfl) ?_
  refine lv_if_ne (tgt := 827) S.1 S.2.1 d_LW_law_812 (by decide) (fun _ => ?_) (fun hz => ?_)
  · refine lv_goto (tgt := 1287) S.1 S.2.1 d_LW_law_827 (by decide) ?_
    exact W.widen (by omega) (by omega) (kk _ _ _ _ _ hR2 hO (lv_sub hl [2, 3, 4, 5, 6] rfl))
  · have hz : z = 0 := by first | exact hz | exact Decidable.not_not.mp hz
    refine lv_aload_n S.1 S.2.1 d_LW_law_815 rfl (lv_at hl 3 rfl) ?_
    refine lv_iconst (v := 0) S.1 S.2.1 d_LW_law_816 (by decide) ?_
    refine g_lal S hO (k := 158) (N := 1) (i := 0) (by decide) (sh_158 G (adG G) _ _) (vp_in_nI (n := 0) (by decide) (by decide)) d_LW_law_817 ?_
    refine lv_iload S.1 S.2.1 d_LW_law_818 (lv_at hl 0 rfl) ?_
    refine lv_i2l S.1 S.2.1 d_LW_law_820 rfl ?_
    refine W.lcmp S.1 S.2.1 d_LW_law_821 ?_
    refine lv_if_eq (tgt := 827) S.1 S.2.1 d_LW_law_822 (by decide) (fun _ => ?_) (fun hne => absurd ?_ hne)
    · refine lv_goto (tgt := 1287) S.1 S.2.1 d_LW_law_827 (by decide) ?_
      exact W.widen (by omega) (by omega) (kk _ _ _ _ _ hR2 hO (lv_sub hl [2, 3, 4, 5, 6] rfl))
    · show lg_cmp (τ1 158 0) _ = 0
      rw [h158 hz, ev hz]
      exact lg_cc _
set_option maxHeartbeats 4000000 in
theorem c_explain {p : Program} {e : Env} {s : State} {m : MethodId} {args : Array Value} {below : List Frame} {meth : Method} {c : Code} {H : Heap} {locs : List Loc} {cells slots : Nat} {Q : State → Prop} {ls : Array Slot} {G : gP} {σ : Nat → Nat → Int32} {τ : Nat → Nat → Int64} {b L i : Nat} {xs : Nat → Int32} (l : Launch) (hst : l.stackTraces = false) (S : CallFix p m c code 7 s args gts "PlaceRulesLaw") (hX : va_X b L xs s s.heap) (hbl : b < s.heap.size) (hbA : ¬ gA G b) (hN : ncJ s) (hL : L ≤ 3072) (hi : i + 6 ≤ L) (hR : RR σ) (hO : gO G (gA G) 159 (adG G) (enc G (adG G) σ τ) s H locs) (hl : lv_has ls 7 [(4, .int (nI i)), (3, .ref (adG G 158)), (2, .ref (adG G 140)), (1, .ref (adG G 0)), (0, .ref b)]) (hcs : cells + 6 ≤ 601024 ∧ slots + 36 ≤ 7293034)
    (kk : ∀ (σ' : Nat → Nat → Int32) (τ' : Nat → Nat → Int64) (H' : Heap) (locs' : List Loc) (ls' : Array Slot), RR σ' → gO G (gA G) 159 (adG G) (enc G (adG G) σ' τ') s H' locs' → lv_has ls' 7 [(4, .int (nI i)), (3, .ref (adG G 158)), (2, .ref (adG G 140)), (1, .ref (adG G 0)), (0, .ref b)] → W p l e room_1 s m args below meth c H' locs' (cells + 6) (slots + 36) Q (F0 m 1287 ls' [])) : W p l e room_1 s m args below meth c H locs cells slots Q (F0 m 830 ls []) := by
  obtain ⟨aPL, ⟨nu, aUN⟩, ⟨n, nc, aRU⟩, ⟨ne, aEX⟩, aOW, ⟨nt, aTO⟩, ⟨N, aTX⟩, aNM⟩ := id hR
  refine lv_aload_n S.1 S.2.1 d_LW_law_830 rfl (lv_at hl 3 rfl) ?_
  refine lv_aload_n S.1 S.2.1 d_LW_law_831 rfl (lv_at hl 4 rfl) ?_
  refine lv_iload S.1 S.2.1 d_LW_law_832 (lv_at hl 0 rfl) ?_
  refine lv_iconst (v := 1) S.1 S.2.1 d_LW_law_834 (by decide) ?_
  refine lv_iadd S.1 S.2.1 d_LW_law_835 ?_
  refine sc_a (k := 1) S hX hbl hbA hO.S (nI_add i 1) (by omega) hL d_LW_law_836 ?_
  refine lv_aload_n S.1 S.2.1 d_LW_law_837 rfl (lv_at hl 1 rfl) ?_
  refine g_SH (As := [.ref (adG G 0), .int (xs (i + 1)), .ref (adG G 158)]) (rest := []) S hO (fun _ h => h) hN (h_explain l hst G (adG G) σ τ (xs (i + 1)) nt aTO.1 aTO.2.2.1) cw_LW_125 g_cfW hl.1 (Nat.le_of_ble_eq_true rfl) ⟨(Nat.le_of_ble_eq_true rfl), (Nat.le_of_ble_eq_true rfl)⟩ ⟨by show cells + 1 ≤ 601024; omega, by show slots + 6 ≤ 7293034; omega⟩ d_LW_law_838 (fun v σ1 τ1 H locs hp hO => ?_)
  obtain ⟨z, x, rfl, hp, h158⟩ := hp
  obtain ⟨e20, e0, hR2, ev⟩ := r_explain hR aTO hp
  refine W.eq (g2 := F0 m 841 ls [.int z]) rfl ?_
  refine lv_istore (lv' := [(5, .int z), (4, .int (nI i)), (3, .ref (adG G 158)), (2, .ref (adG G 140)), (1, .ref (adG G 0)), (0, .ref b)]) S.1 S.2.1 d_LW_law_841 hl (by decide) rfl (fun ls hl => ?_)
  refine lv_aload_n S.1 S.2.1 d_LW_law_843 rfl (lv_at hl 3 rfl) ?_
  refine lv_aload_n S.1 S.2.1 d_LW_law_844 rfl (lv_at hl 5 rfl) ?_
  refine lv_iload S.1 S.2.1 d_LW_law_845 (lv_at hl 1 rfl) ?_
  refine lv_iconst (v := 1) S.1 S.2.1 d_LW_law_847 (by decide) ?_
  refine lv_iadd S.1 S.2.1 d_LW_law_848 ?_
  refine sc_a (k := 1) S hX hbl hbA hO.S (nI_add i 1) (by omega) hL d_LW_law_849 ?_
  refine g_VI (As := [.int (xs (i + 1))]) (rest := []) S hO (fun _ h => h) (k_MD_explain l G (adG G) σ1 τ1 (xs (i + 1)) nt e20 aTO.2.2.1) cw_LW_128 (k := 140) (by decide) (sh_140 G (adG G) _ _) rfl rfl hl.1 (Nat.le_of_ble_eq_true rfl) ⟨(Nat.le_of_ble_eq_true rfl), (Nat.le_of_ble_eq_true rfl)⟩ ⟨by show cells + 1 + 0 ≤ 601024; omega, by show slots + 6 + 0 ≤ 7293034; omega⟩ d_LW_law_850 (fun q x ce H locs hx => hx.elim) (fun v E1 H locs hp2 hO => ?_)
  obtain ⟨σ2, τ2, rfl, rfl, rfl, ht⟩ := hp2
  rw [ht] at hO
  refine W.eq (g2 := F0 m 853 ls [.int _]) rfl ?_
  refine lv_istore (lv' := [(6, .int _), (5, .int z), (4, .int (nI i)), (3, .ref (adG G 158)), (2, .ref (adG G 140)), (1, .ref (adG G 0)), (0, .ref b)]) S.1 S.2.1 d_LW_law_853 hl (by decide) rfl (fun ls hl => ?_)
  refine lv_aload_n S.1 S.2.1 d_LW_law_855 rfl (lv_at hl 4 rfl) ?_
  refine g_VP (As := []) (rest := []) S hO (k_MD_thrown l G (adG G) _ τ1) cw_LW_84 (k := 140) (by decide) (sh_140 G (adG G) _ _) rfl rfl hl.1 (Nat.le_of_ble_eq_true rfl) ⟨(Nat.le_of_ble_eq_true rfl), (Nat.le_of_ble_eq_true rfl)⟩ ⟨by show cells + 1 + 0 + 0 ≤ 601024; omega, by show slots + 6 + 0 + 0 ≤ 7293034; omega⟩ d_LW_law_856 (fun q x ce H hx => hx.elim) (fun v H hp3 hO => ?_)
  subst hp3
  refine W.eq (g2 := F0 m 859 ls [.int _]) rfl ?_
  refine lv_iload S.1 S.2.1 d_LW_law_859 (lv_at hl 1 rfl) ?_
  refine lv_icmp_eq (tgt := 866) S.1 S.2.1 d_LW_law_861 (by decide) (fun _ => ?_) (fun hne => absurd e0 hne)
  refine lv_iload S.1 S.2.1 d_LW_law_866 (lv_at hl 1 rfl) ?_
  refine lv_if_ne (tgt := 883) S.1 S.2.1 d_LW_law_868 (by decide) (fun _ => ?_) (fun hz => ?_)
  · refine lv_goto (tgt := 1287) S.1 S.2.1 d_LW_law_883 (by decide) ?_
    exact W.widen (by omega) (by omega) (kk _ _ _ _ _ hR2 hO (lv_sub hl [2, 3, 4, 5, 6] rfl))
  · have hz : z = 0 := by first | exact hz | exact Decidable.not_not.mp hz
    refine lv_aload_n S.1 S.2.1 d_LW_law_871 rfl (lv_at hl 3 rfl) ?_
    refine lv_iconst (v := 0) S.1 S.2.1 d_LW_law_872 (by decide) ?_
    refine g_lal S hO (k := 158) (N := 1) (i := 0) (by decide) (sh_158 G (adG G) _ _) (vp_in_nI (n := 0) (by decide) (by decide)) d_LW_law_873 ?_
    refine lv_iload S.1 S.2.1 d_LW_law_874 (lv_at hl 0 rfl) ?_
    refine lv_i2l S.1 S.2.1 d_LW_law_876 rfl ?_
    refine W.lcmp S.1 S.2.1 d_LW_law_877 ?_
    refine lv_if_eq (tgt := 883) S.1 S.2.1 d_LW_law_878 (by decide) (fun _ => ?_) (fun hne => absurd ?_ hne)
    · refine lv_goto (tgt := 1287) S.1 S.2.1 d_LW_law_883 (by decide) ?_
      exact W.widen (by omega) (by omega) (kk _ _ _ _ _ hR2 hO (lv_sub hl [2, 3, 4, 5, 6] rfl))
    · show lg_cmp (τ1 158 0) _ = 0
      rw [h158 hz, ev hz]
      exact lg_cc _
set_option maxHeartbeats 4000000 in
theorem c_put {p : Program} {e : Env} {s : State} {m : MethodId} {args : Array Value} {below : List Frame} {meth : Method} {c : Code} {H : Heap} {locs : List Loc} {cells slots : Nat} {Q : State → Prop} {ls : Array Slot} {G : gP} {σ : Nat → Nat → Int32} {τ : Nat → Nat → Int64} {b L i : Nat} {xs : Nat → Int32} (l : Launch) (hst : l.stackTraces = false) (S : CallFix p m c code 7 s args gts "PlaceRulesLaw") (hX : va_X b L xs s s.heap) (hbl : b < s.heap.size) (hbA : ¬ gA G b) (hN : ncJ s) (hL : L ≤ 3072) (hi : i + 6 ≤ L) (hR : RR σ) (hO : gO G (gA G) 159 (adG G) (enc G (adG G) σ τ) s H locs) (hl : lv_has ls 7 [(4, .int (nI i)), (3, .ref (adG G 158)), (2, .ref (adG G 140)), (1, .ref (adG G 0)), (0, .ref b)]) (hcs : cells + 6 ≤ 601024 ∧ slots + 36 ≤ 7293034)
    (kk : ∀ (σ' : Nat → Nat → Int32) (τ' : Nat → Nat → Int64) (H' : Heap) (locs' : List Loc) (ls' : Array Slot), RR σ' → gO G (gA G) 159 (adG G) (enc G (adG G) σ' τ') s H' locs' → lv_has ls' 7 [(4, .int (nI i)), (3, .ref (adG G 158)), (2, .ref (adG G 140)), (1, .ref (adG G 0)), (0, .ref b)] → W p l e room_1 s m args below meth c H' locs' (cells + 6) (slots + 36) Q (F0 m 1287 ls' [])) : W p l e room_1 s m args below meth c H locs cells slots Q (F0 m 886 ls []) := by
  obtain ⟨aPL, ⟨nu, aUN⟩, ⟨n, nc, aRU⟩, ⟨ne, aEX⟩, aOW, ⟨nt, aTO⟩, ⟨N, aTX⟩, aNM⟩ := id hR
  refine lv_aload_n S.1 S.2.1 d_LW_law_886 rfl (lv_at hl 3 rfl) ?_
  refine lv_aload_n S.1 S.2.1 d_LW_law_887 rfl (lv_at hl 4 rfl) ?_
  refine lv_iload S.1 S.2.1 d_LW_law_888 (lv_at hl 0 rfl) ?_
  refine lv_iconst (v := 1) S.1 S.2.1 d_LW_law_890 (by decide) ?_
  refine lv_iadd S.1 S.2.1 d_LW_law_891 ?_
  refine sc_a (k := 1) S hX hbl hbA hO.S (nI_add i 1) (by omega) hL d_LW_law_892 ?_
  refine lv_aload_n S.1 S.2.1 d_LW_law_893 rfl (lv_at hl 4 rfl) ?_
  refine lv_iload S.1 S.2.1 d_LW_law_894 (lv_at hl 0 rfl) ?_
  refine lv_iconst (v := 2) S.1 S.2.1 d_LW_law_896 (by decide) ?_
  refine lv_iadd S.1 S.2.1 d_LW_law_897 ?_
  refine sc_a (k := 2) S hX hbl hbA hO.S (nI_add i 2) (by omega) hL d_LW_law_898 ?_
  refine lv_aload_n S.1 S.2.1 d_LW_law_899 rfl (lv_at hl 4 rfl) ?_
  refine lv_iload S.1 S.2.1 d_LW_law_900 (lv_at hl 0 rfl) ?_
  refine lv_iconst (v := 3) S.1 S.2.1 d_LW_law_902 (by decide) ?_
  refine lv_iadd S.1 S.2.1 d_LW_law_903 ?_
  refine sc_a (k := 3) S hX hbl hbA hO.S (nI_add i 3) (by omega) hL d_LW_law_904 ?_
  refine lv_aload_n S.1 S.2.1 d_LW_law_905 rfl (lv_at hl 1 rfl) ?_
  refine g_SH (As := [.ref (adG G 0), .int (xs (i + 1)), .int (xs (i + 2)), .int (xs (i + 3)), .ref (adG G 158)]) (rest := []) S hO (fun _ h => h) hN (h_put l hst G (adG G) σ τ (xs (i + 1)) (xs (i + 2)) (xs (i + 3)) nu aUN.1 aUN.2.2.1 n ne aRU.1.1 aEX.1 aEX.2.2.1) cw_LW_129 g_cfW hl.1 (Nat.le_of_ble_eq_true rfl) ⟨(Nat.le_of_ble_eq_true rfl), (Nat.le_of_ble_eq_true rfl)⟩ ⟨by show cells + 4 ≤ 601024; omega, by show slots + 24 ≤ 7293034; omega⟩ d_LW_law_906 (fun v σ1 τ1 H locs hp hO => ?_)
  obtain ⟨z, x, rfl, hp, h158⟩ := hp
  obtain ⟨e2, e5, e11, hH, e0, hR2, ev⟩ := r_put hR aUN aRU aEX hp
  refine W.eq (g2 := F0 m 909 ls [.int z]) rfl ?_
  refine lv_istore (lv' := [(5, .int z), (4, .int (nI i)), (3, .ref (adG G 158)), (2, .ref (adG G 140)), (1, .ref (adG G 0)), (0, .ref b)]) S.1 S.2.1 d_LW_law_909 hl (by decide) rfl (fun ls hl => ?_)
  refine lv_aload_n S.1 S.2.1 d_LW_law_911 rfl (lv_at hl 3 rfl) ?_
  refine lv_aload_n S.1 S.2.1 d_LW_law_912 rfl (lv_at hl 5 rfl) ?_
  refine lv_iload S.1 S.2.1 d_LW_law_913 (lv_at hl 1 rfl) ?_
  refine lv_iconst (v := 1) S.1 S.2.1 d_LW_law_915 (by decide) ?_
  refine lv_iadd S.1 S.2.1 d_LW_law_916 ?_
  refine sc_a (k := 1) S hX hbl hbA hO.S (nI_add i 1) (by omega) hL d_LW_law_917 ?_
  refine lv_aload_n S.1 S.2.1 d_LW_law_918 rfl (lv_at hl 5 rfl) ?_
  refine lv_iload S.1 S.2.1 d_LW_law_919 (lv_at hl 1 rfl) ?_
  refine lv_iconst (v := 2) S.1 S.2.1 d_LW_law_921 (by decide) ?_
  refine lv_iadd S.1 S.2.1 d_LW_law_922 ?_
  refine sc_a (k := 2) S hX hbl hbA hO.S (nI_add i 2) (by omega) hL d_LW_law_923 ?_
  refine lv_aload_n S.1 S.2.1 d_LW_law_924 rfl (lv_at hl 5 rfl) ?_
  refine lv_iload S.1 S.2.1 d_LW_law_925 (lv_at hl 1 rfl) ?_
  refine lv_iconst (v := 3) S.1 S.2.1 d_LW_law_927 (by decide) ?_
  refine lv_iadd S.1 S.2.1 d_LW_law_928 ?_
  refine sc_a (k := 3) S hX hbl hbA hO.S (nI_add i 3) (by omega) hL d_LW_law_929 ?_
  refine g_VI (As := [.int (xs (i + 1)), .int (xs (i + 2)), .int (xs (i + 3))]) (rest := []) S hO (fun _ h => h) (k_MD_put l G (adG G) σ1 τ1 (xs (i + 1)) (xs (i + 2)) (xs (i + 3)) nu e2 aUN.2.2.1 n e5 aRU.1.1.2.1 ne e11 aEX.2.2.1 hH) cw_LW_131 (k := 140) (by decide) (sh_140 G (adG G) _ _) rfl rfl hl.1 (Nat.le_of_ble_eq_true rfl) ⟨(Nat.le_of_ble_eq_true rfl), (Nat.le_of_ble_eq_true rfl)⟩ ⟨by show cells + 4 + 0 ≤ 601024; omega, by show slots + 24 + 0 ≤ 7293034; omega⟩ d_LW_law_930 (fun q x ce H locs hx => hx.elim) (fun v E1 H locs hp2 hO => ?_)
  obtain ⟨σ2, τ2, rfl, rfl, rfl, ht⟩ := hp2
  rw [ht] at hO
  refine W.eq (g2 := F0 m 933 ls [.int _]) rfl ?_
  refine lv_istore (lv' := [(6, .int _), (5, .int z), (4, .int (nI i)), (3, .ref (adG G 158)), (2, .ref (adG G 140)), (1, .ref (adG G 0)), (0, .ref b)]) S.1 S.2.1 d_LW_law_933 hl (by decide) rfl (fun ls hl => ?_)
  refine lv_aload_n S.1 S.2.1 d_LW_law_935 rfl (lv_at hl 4 rfl) ?_
  refine g_VP (As := []) (rest := []) S hO (k_MD_thrown l G (adG G) _ τ1) cw_LW_84 (k := 140) (by decide) (sh_140 G (adG G) _ _) rfl rfl hl.1 (Nat.le_of_ble_eq_true rfl) ⟨(Nat.le_of_ble_eq_true rfl), (Nat.le_of_ble_eq_true rfl)⟩ ⟨by show cells + 4 + 0 + 0 ≤ 601024; omega, by show slots + 24 + 0 + 0 ≤ 7293034; omega⟩ d_LW_law_936 (fun q x ce H hx => hx.elim) (fun v H hp3 hO => ?_)
  subst hp3
  refine W.eq (g2 := F0 m 939 ls [.int _]) rfl ?_
  refine lv_iload S.1 S.2.1 d_LW_law_939 (lv_at hl 1 rfl) ?_
  refine lv_icmp_eq (tgt := 946) S.1 S.2.1 d_LW_law_941 (by decide) (fun _ => ?_) (fun hne => absurd e0 hne)
  refine lv_iload S.1 S.2.1 d_LW_law_946 (lv_at hl 1 rfl) ?_
  refine lv_if_ne (tgt := 963) S.1 S.2.1 d_LW_law_948 (by decide) (fun _ => ?_) (fun hz => ?_)
  · refine lv_goto (tgt := 1287) S.1 S.2.1 d_LW_law_963 (by decide) ?_
    exact W.widen (by omega) (by omega) (kk _ _ _ _ _ hR2 hO (lv_sub hl [2, 3, 4, 5, 6] rfl))
  · have hz : z = 0 := by first | exact hz | exact Decidable.not_not.mp hz
    refine lv_aload_n S.1 S.2.1 d_LW_law_951 rfl (lv_at hl 3 rfl) ?_
    refine lv_iconst (v := 0) S.1 S.2.1 d_LW_law_952 (by decide) ?_
    refine g_lal S hO (k := 158) (N := 1) (i := 0) (by decide) (sh_158 G (adG G) _ _) (vp_in_nI (n := 0) (by decide) (by decide)) d_LW_law_953 ?_
    refine lv_iload S.1 S.2.1 d_LW_law_954 (lv_at hl 0 rfl) ?_
    refine lv_i2l S.1 S.2.1 d_LW_law_956 rfl ?_
    refine W.lcmp S.1 S.2.1 d_LW_law_957 ?_
    refine lv_if_eq (tgt := 963) S.1 S.2.1 d_LW_law_958 (by decide) (fun _ => ?_) (fun hne => absurd ?_ hne)
    · refine lv_goto (tgt := 1287) S.1 S.2.1 d_LW_law_963 (by decide) ?_
      exact W.widen (by omega) (by omega) (kk _ _ _ _ _ hR2 hO (lv_sub hl [2, 3, 4, 5, 6] rfl))
    · show lg_cmp (τ1 158 0) _ = 0
      rw [h158 hz, ev hz]
      exact lg_cc _
set_option maxHeartbeats 4000000 in
theorem c_take {p : Program} {e : Env} {s : State} {m : MethodId} {args : Array Value} {below : List Frame} {meth : Method} {c : Code} {H : Heap} {locs : List Loc} {cells slots : Nat} {Q : State → Prop} {ls : Array Slot} {G : gP} {σ : Nat → Nat → Int32} {τ : Nat → Nat → Int64} {b L i : Nat} {xs : Nat → Int32} (l : Launch) (hst : l.stackTraces = false) (S : CallFix p m c code 7 s args gts "PlaceRulesLaw") (hX : va_X b L xs s s.heap) (hbl : b < s.heap.size) (hbA : ¬ gA G b) (hN : ncJ s) (hL : L ≤ 3072) (hi : i + 6 ≤ L) (hR : RR σ) (hO : gO G (gA G) 159 (adG G) (enc G (adG G) σ τ) s H locs) (hl : lv_has ls 7 [(4, .int (nI i)), (3, .ref (adG G 158)), (2, .ref (adG G 140)), (1, .ref (adG G 0)), (0, .ref b)]) (hcs : cells + 6 ≤ 601024 ∧ slots + 36 ≤ 7293034)
    (kk : ∀ (σ' : Nat → Nat → Int32) (τ' : Nat → Nat → Int64) (H' : Heap) (locs' : List Loc) (ls' : Array Slot), RR σ' → gO G (gA G) 159 (adG G) (enc G (adG G) σ' τ') s H' locs' → lv_has ls' 7 [(4, .int (nI i)), (3, .ref (adG G 158)), (2, .ref (adG G 140)), (1, .ref (adG G 0)), (0, .ref b)] → W p l e room_1 s m args below meth c H' locs' (cells + 6) (slots + 36) Q (F0 m 1287 ls' [])) : W p l e room_1 s m args below meth c H locs cells slots Q (F0 m 966 ls []) := by
  obtain ⟨aPL, ⟨nu, aUN⟩, ⟨n, nc, aRU⟩, ⟨ne, aEX⟩, aOW, ⟨nt, aTO⟩, ⟨N, aTX⟩, aNM⟩ := id hR
  refine lv_aload_n S.1 S.2.1 d_LW_law_966 rfl (lv_at hl 3 rfl) ?_
  refine lv_aload_n S.1 S.2.1 d_LW_law_967 rfl (lv_at hl 4 rfl) ?_
  refine lv_iload S.1 S.2.1 d_LW_law_968 (lv_at hl 0 rfl) ?_
  refine lv_iconst (v := 1) S.1 S.2.1 d_LW_law_970 (by decide) ?_
  refine lv_iadd S.1 S.2.1 d_LW_law_971 ?_
  refine sc_a (k := 1) S hX hbl hbA hO.S (nI_add i 1) (by omega) hL d_LW_law_972 ?_
  refine g_SH (As := [.ref (adG G 0), .int (xs (i + 1))]) (rest := []) S hO (fun _ h => h) hN (h_take l hst G (adG G) σ τ (xs (i + 1)) nu aUN.1 aUN.2.2.1) cw_LW_132 g_cfW hl.1 (Nat.le_of_ble_eq_true rfl) ⟨(Nat.le_of_ble_eq_true rfl), (Nat.le_of_ble_eq_true rfl)⟩ ⟨by show cells + 2 ≤ 601024; omega, by show slots + 12 ≤ 7293034; omega⟩ d_LW_law_973 (fun v σ1 τ1 H locs hp hO => ?_)
  obtain ⟨z, rfl, hp⟩ := hp
  obtain ⟨e2, e0, hR2⟩ := r_take hR aUN hp
  refine W.eq (g2 := F0 m 976 ls [.int z]) rfl ?_
  refine lv_istore (lv' := [(5, .int z), (4, .int (nI i)), (3, .ref (adG G 158)), (2, .ref (adG G 140)), (1, .ref (adG G 0)), (0, .ref b)]) S.1 S.2.1 d_LW_law_976 hl (by decide) rfl (fun ls hl => ?_)
  refine lv_aload_n S.1 S.2.1 d_LW_law_978 rfl (lv_at hl 3 rfl) ?_
  refine lv_aload_n S.1 S.2.1 d_LW_law_979 rfl (lv_at hl 5 rfl) ?_
  refine lv_iload S.1 S.2.1 d_LW_law_980 (lv_at hl 1 rfl) ?_
  refine lv_iconst (v := 1) S.1 S.2.1 d_LW_law_982 (by decide) ?_
  refine lv_iadd S.1 S.2.1 d_LW_law_983 ?_
  refine sc_a (k := 1) S hX hbl hbA hO.S (nI_add i 1) (by omega) hL d_LW_law_984 ?_
  refine g_VI (As := [.int (xs (i + 1))]) (rest := []) S hO (fun _ h => h) (k_MD_take l G (adG G) σ1 τ1 (xs (i + 1)) nu e2 aUN.2.2.1) cw_LW_135 (k := 140) (by decide) (sh_140 G (adG G) _ _) rfl rfl hl.1 (Nat.le_of_ble_eq_true rfl) ⟨(Nat.le_of_ble_eq_true rfl), (Nat.le_of_ble_eq_true rfl)⟩ ⟨by show cells + 2 + 0 ≤ 601024; omega, by show slots + 12 + 0 ≤ 7293034; omega⟩ d_LW_law_985 (fun q x ce H locs hx => hx.elim) (fun v E1 H locs hp2 hO => ?_)
  obtain ⟨σ2, τ2, rfl, rfl, rfl, ht⟩ := hp2
  rw [ht] at hO
  refine W.eq (g2 := F0 m 988 ls []) rfl ?_
  refine lv_aload_n S.1 S.2.1 d_LW_law_988 rfl (lv_at hl 3 rfl) ?_
  refine g_VP (As := []) (rest := []) S hO (k_MD_thrown l G (adG G) _ τ1) cw_LW_84 (k := 140) (by decide) (sh_140 G (adG G) _ _) rfl rfl hl.1 (Nat.le_of_ble_eq_true rfl) ⟨(Nat.le_of_ble_eq_true rfl), (Nat.le_of_ble_eq_true rfl)⟩ ⟨by show cells + 2 + 0 + 0 ≤ 601024; omega, by show slots + 12 + 0 + 0 ≤ 7293034; omega⟩ d_LW_law_989 (fun q x ce H hx => hx.elim) (fun v H hp3 hO => ?_)
  subst hp3
  refine W.eq (g2 := F0 m 992 ls [.int _]) rfl ?_
  refine lv_iload S.1 S.2.1 d_LW_law_992 (lv_at hl 0 rfl) ?_
  refine lv_icmp_eq (tgt := 999) S.1 S.2.1 d_LW_law_994 (by decide) (fun _ => ?_) (fun hne => absurd e0 hne)
  refine lv_goto (tgt := 1287) S.1 S.2.1 d_LW_law_999 (by decide) ?_
  exact W.widen (by omega) (by omega) (kk _ _ _ _ _ hR2 hO (lv_sub hl [1, 2, 3, 4, 5] rfl))
set_option maxHeartbeats 4000000 in
theorem c_turned {p : Program} {e : Env} {s : State} {m : MethodId} {args : Array Value} {below : List Frame} {meth : Method} {c : Code} {H : Heap} {locs : List Loc} {cells slots : Nat} {Q : State → Prop} {ls : Array Slot} {G : gP} {σ : Nat → Nat → Int32} {τ : Nat → Nat → Int64} {b L i : Nat} {xs : Nat → Int32} (l : Launch) (hst : l.stackTraces = false) (S : CallFix p m c code 7 s args gts "PlaceRulesLaw") (hX : va_X b L xs s s.heap) (hbl : b < s.heap.size) (hbA : ¬ gA G b) (hN : ncJ s) (hL : L ≤ 3072) (hi : i + 6 ≤ L) (hR : RR σ) (hO : gO G (gA G) 159 (adG G) (enc G (adG G) σ τ) s H locs) (hl : lv_has ls 7 [(4, .int (nI i)), (3, .ref (adG G 158)), (2, .ref (adG G 140)), (1, .ref (adG G 0)), (0, .ref b)]) (hcs : cells + 6 ≤ 601024 ∧ slots + 36 ≤ 7293034)
    (kk : ∀ (σ' : Nat → Nat → Int32) (τ' : Nat → Nat → Int64) (H' : Heap) (locs' : List Loc) (ls' : Array Slot), RR σ' → gO G (gA G) 159 (adG G) (enc G (adG G) σ' τ') s H' locs' → lv_has ls' 7 [(4, .int (nI i)), (3, .ref (adG G 158)), (2, .ref (adG G 140)), (1, .ref (adG G 0)), (0, .ref b)] → W p l e room_1 s m args below meth c H' locs' (cells + 6) (slots + 36) Q (F0 m 1287 ls' [])) : W p l e room_1 s m args below meth c H locs cells slots Q (F0 m 1002 ls []) := by
  obtain ⟨aPL, ⟨nu, aUN⟩, ⟨n, nc, aRU⟩, ⟨ne, aEX⟩, aOW, ⟨nt, aTO⟩, ⟨N, aTX⟩, aNM⟩ := id hR
  refine lv_aload_n S.1 S.2.1 d_LW_law_1002 rfl (lv_at hl 3 rfl) ?_
  refine lv_aload_n S.1 S.2.1 d_LW_law_1003 rfl (lv_at hl 4 rfl) ?_
  refine lv_iload S.1 S.2.1 d_LW_law_1004 (lv_at hl 0 rfl) ?_
  refine lv_iconst (v := 1) S.1 S.2.1 d_LW_law_1006 (by decide) ?_
  refine lv_iadd S.1 S.2.1 d_LW_law_1007 ?_
  refine sc_a (k := 1) S hX hbl hbA hO.S (nI_add i 1) (by omega) hL d_LW_law_1008 ?_
  refine lv_aload_n S.1 S.2.1 d_LW_law_1009 rfl (lv_at hl 4 rfl) ?_
  refine lv_iload S.1 S.2.1 d_LW_law_1010 (lv_at hl 0 rfl) ?_
  refine lv_iconst (v := 2) S.1 S.2.1 d_LW_law_1012 (by decide) ?_
  refine lv_iadd S.1 S.2.1 d_LW_law_1013 ?_
  refine sc_a (k := 2) S hX hbl hbA hO.S (nI_add i 2) (by omega) hL d_LW_law_1014 ?_
  refine lv_aload_n S.1 S.2.1 d_LW_law_1015 rfl (lv_at hl 1 rfl) ?_
  refine g_SH (As := [.ref (adG G 0), .int (xs (i + 1)), .int (xs (i + 2)), .ref (adG G 158)]) (rest := []) S hO (fun _ h => h) hN (h_turned l hst G (adG G) σ τ (xs (i + 1)) (xs (i + 2)) nu aUN.1 aUN.2.2.1) cw_LW_136 g_cfW hl.1 (Nat.le_of_ble_eq_true rfl) ⟨(Nat.le_of_ble_eq_true rfl), (Nat.le_of_ble_eq_true rfl)⟩ ⟨by show cells + 2 ≤ 601024; omega, by show slots + 12 ≤ 7293034; omega⟩ d_LW_law_1016 (fun v σ1 τ1 H locs hp hO => ?_)
  obtain ⟨z, x, rfl, hp, h158⟩ := hp
  obtain ⟨e2, e0, hR2, ev⟩ := r_turned hR aUN hp
  refine W.eq (g2 := F0 m 1019 ls [.int z]) rfl ?_
  refine lv_istore (lv' := [(5, .int z), (4, .int (nI i)), (3, .ref (adG G 158)), (2, .ref (adG G 140)), (1, .ref (adG G 0)), (0, .ref b)]) S.1 S.2.1 d_LW_law_1019 hl (by decide) rfl (fun ls hl => ?_)
  refine lv_aload_n S.1 S.2.1 d_LW_law_1021 rfl (lv_at hl 3 rfl) ?_
  refine lv_aload_n S.1 S.2.1 d_LW_law_1022 rfl (lv_at hl 5 rfl) ?_
  refine lv_iload S.1 S.2.1 d_LW_law_1023 (lv_at hl 1 rfl) ?_
  refine lv_iconst (v := 1) S.1 S.2.1 d_LW_law_1025 (by decide) ?_
  refine lv_iadd S.1 S.2.1 d_LW_law_1026 ?_
  refine sc_a (k := 1) S hX hbl hbA hO.S (nI_add i 1) (by omega) hL d_LW_law_1027 ?_
  refine lv_aload_n S.1 S.2.1 d_LW_law_1028 rfl (lv_at hl 5 rfl) ?_
  refine lv_iload S.1 S.2.1 d_LW_law_1029 (lv_at hl 1 rfl) ?_
  refine lv_iconst (v := 2) S.1 S.2.1 d_LW_law_1031 (by decide) ?_
  refine lv_iadd S.1 S.2.1 d_LW_law_1032 ?_
  refine sc_a (k := 2) S hX hbl hbA hO.S (nI_add i 2) (by omega) hL d_LW_law_1033 ?_
  refine g_VI (As := [.int (xs (i + 1)), .int (xs (i + 2))]) (rest := []) S hO (fun _ h => h) (k_MD_turned l G (adG G) σ1 τ1 (xs (i + 1)) (xs (i + 2)) nu e2 aUN.2.2.1) cw_LW_139 (k := 140) (by decide) (sh_140 G (adG G) _ _) rfl rfl hl.1 (Nat.le_of_ble_eq_true rfl) ⟨(Nat.le_of_ble_eq_true rfl), (Nat.le_of_ble_eq_true rfl)⟩ ⟨by show cells + 2 + 0 ≤ 601024; omega, by show slots + 12 + 0 ≤ 7293034; omega⟩ d_LW_law_1034 (fun q x ce H locs hx => hx.elim) (fun v E1 H locs hp2 hO => ?_)
  obtain ⟨σ2, τ2, rfl, rfl, rfl, ht⟩ := hp2
  rw [ht] at hO
  refine W.eq (g2 := F0 m 1037 ls [.int _]) rfl ?_
  refine lv_istore (lv' := [(6, .int _), (5, .int z), (4, .int (nI i)), (3, .ref (adG G 158)), (2, .ref (adG G 140)), (1, .ref (adG G 0)), (0, .ref b)]) S.1 S.2.1 d_LW_law_1037 hl (by decide) rfl (fun ls hl => ?_)
  refine lv_aload_n S.1 S.2.1 d_LW_law_1039 rfl (lv_at hl 4 rfl) ?_
  refine g_VP (As := []) (rest := []) S hO (k_MD_thrown l G (adG G) _ τ1) cw_LW_84 (k := 140) (by decide) (sh_140 G (adG G) _ _) rfl rfl hl.1 (Nat.le_of_ble_eq_true rfl) ⟨(Nat.le_of_ble_eq_true rfl), (Nat.le_of_ble_eq_true rfl)⟩ ⟨by show cells + 2 + 0 + 0 ≤ 601024; omega, by show slots + 12 + 0 + 0 ≤ 7293034; omega⟩ d_LW_law_1040 (fun q x ce H hx => hx.elim) (fun v H hp3 hO => ?_)
  subst hp3
  refine W.eq (g2 := F0 m 1043 ls [.int _]) rfl ?_
  refine lv_iload S.1 S.2.1 d_LW_law_1043 (lv_at hl 1 rfl) ?_
  refine lv_icmp_eq (tgt := 1050) S.1 S.2.1 d_LW_law_1045 (by decide) (fun _ => ?_) (fun hne => absurd e0 hne)
  refine lv_iload S.1 S.2.1 d_LW_law_1050 (lv_at hl 1 rfl) ?_
  refine lv_if_ne (tgt := 1067) S.1 S.2.1 d_LW_law_1052 (by decide) (fun _ => ?_) (fun hz => ?_)
  · refine lv_goto (tgt := 1287) S.1 S.2.1 d_LW_law_1067 (by decide) ?_
    exact W.widen (by omega) (by omega) (kk _ _ _ _ _ hR2 hO (lv_sub hl [2, 3, 4, 5, 6] rfl))
  · have hz : z = 0 := by first | exact hz | exact Decidable.not_not.mp hz
    refine lv_aload_n S.1 S.2.1 d_LW_law_1055 rfl (lv_at hl 3 rfl) ?_
    refine lv_iconst (v := 0) S.1 S.2.1 d_LW_law_1056 (by decide) ?_
    refine g_lal S hO (k := 158) (N := 1) (i := 0) (by decide) (sh_158 G (adG G) _ _) (vp_in_nI (n := 0) (by decide) (by decide)) d_LW_law_1057 ?_
    refine lv_iload S.1 S.2.1 d_LW_law_1058 (lv_at hl 0 rfl) ?_
    refine lv_i2l S.1 S.2.1 d_LW_law_1060 rfl ?_
    refine W.lcmp S.1 S.2.1 d_LW_law_1061 ?_
    refine lv_if_eq (tgt := 1067) S.1 S.2.1 d_LW_law_1062 (by decide) (fun _ => ?_) (fun hne => absurd ?_ hne)
    · refine lv_goto (tgt := 1287) S.1 S.2.1 d_LW_law_1067 (by decide) ?_
      exact W.widen (by omega) (by omega) (kk _ _ _ _ _ hR2 hO (lv_sub hl [2, 3, 4, 5, 6] rfl))
    · show lg_cmp (τ1 158 0) _ = 0
      rw [h158 hz, ev hz]
      exact lg_cc _
set_option maxHeartbeats 4000000 in
theorem c_never {p : Program} {e : Env} {s : State} {m : MethodId} {args : Array Value} {below : List Frame} {meth : Method} {c : Code} {H : Heap} {locs : List Loc} {cells slots : Nat} {Q : State → Prop} {ls : Array Slot} {G : gP} {σ : Nat → Nat → Int32} {τ : Nat → Nat → Int64} {b L i : Nat} {xs : Nat → Int32} (l : Launch) (hst : l.stackTraces = false) (S : CallFix p m c code 7 s args gts "PlaceRulesLaw") (hX : va_X b L xs s s.heap) (hbl : b < s.heap.size) (hbA : ¬ gA G b) (hN : ncJ s) (hL : L ≤ 3072) (hi : i + 6 ≤ L) (hR : RR σ) (hO : gO G (gA G) 159 (adG G) (enc G (adG G) σ τ) s H locs) (hl : lv_has ls 7 [(4, .int (nI i)), (3, .ref (adG G 158)), (2, .ref (adG G 140)), (1, .ref (adG G 0)), (0, .ref b)]) (hcs : cells + 6 ≤ 601024 ∧ slots + 36 ≤ 7293034)
    (kk : ∀ (σ' : Nat → Nat → Int32) (τ' : Nat → Nat → Int64) (H' : Heap) (locs' : List Loc) (ls' : Array Slot), RR σ' → gO G (gA G) 159 (adG G) (enc G (adG G) σ' τ') s H' locs' → lv_has ls' 7 [(4, .int (nI i)), (3, .ref (adG G 158)), (2, .ref (adG G 140)), (1, .ref (adG G 0)), (0, .ref b)] → W p l e room_1 s m args below meth c H' locs' (cells + 6) (slots + 36) Q (F0 m 1287 ls' [])) : W p l e room_1 s m args below meth c H locs cells slots Q (F0 m 1070 ls []) := by
  obtain ⟨aPL, ⟨nu, aUN⟩, ⟨n, nc, aRU⟩, ⟨ne, aEX⟩, aOW, ⟨nt, aTO⟩, ⟨N, aTX⟩, aNM⟩ := id hR
  refine lv_aload_n S.1 S.2.1 d_LW_law_1070 rfl (lv_at hl 3 rfl) ?_
  refine lv_aload_n S.1 S.2.1 d_LW_law_1071 rfl (lv_at hl 4 rfl) ?_
  refine lv_iload S.1 S.2.1 d_LW_law_1072 (lv_at hl 0 rfl) ?_
  refine lv_iconst (v := 1) S.1 S.2.1 d_LW_law_1074 (by decide) ?_
  refine lv_iadd S.1 S.2.1 d_LW_law_1075 ?_
  refine sc_a (k := 1) S hX hbl hbA hO.S (nI_add i 1) (by omega) hL d_LW_law_1076 ?_
  refine lv_aload_n S.1 S.2.1 d_LW_law_1077 rfl (lv_at hl 1 rfl) ?_
  refine g_SH (As := [.ref (adG G 0), .int (xs (i + 1)), .ref (adG G 158)]) (rest := []) S hO (fun _ h => h) hN (h_never l hst G (adG G) σ τ (xs (i + 1)) n aRU.1.1) cw_LW_140 g_cfW hl.1 (Nat.le_of_ble_eq_true rfl) ⟨(Nat.le_of_ble_eq_true rfl), (Nat.le_of_ble_eq_true rfl)⟩ ⟨by show cells + 1 ≤ 601024; omega, by show slots + 6 ≤ 7293034; omega⟩ d_LW_law_1078 (fun v σ1 τ1 H locs hp hO => ?_)
  obtain ⟨z, x, rfl, hp, h158⟩ := hp
  obtain ⟨e5, e0, hR2, ev⟩ := r_never hR aRU hp
  refine W.eq (g2 := F0 m 1081 ls [.int z]) rfl ?_
  refine lv_istore (lv' := [(5, .int z), (4, .int (nI i)), (3, .ref (adG G 158)), (2, .ref (adG G 140)), (1, .ref (adG G 0)), (0, .ref b)]) S.1 S.2.1 d_LW_law_1081 hl (by decide) rfl (fun ls hl => ?_)
  refine lv_aload_n S.1 S.2.1 d_LW_law_1083 rfl (lv_at hl 3 rfl) ?_
  refine lv_aload_n S.1 S.2.1 d_LW_law_1084 rfl (lv_at hl 5 rfl) ?_
  refine lv_iload S.1 S.2.1 d_LW_law_1085 (lv_at hl 1 rfl) ?_
  refine lv_iconst (v := 1) S.1 S.2.1 d_LW_law_1087 (by decide) ?_
  refine lv_iadd S.1 S.2.1 d_LW_law_1088 ?_
  refine sc_a (k := 1) S hX hbl hbA hO.S (nI_add i 1) (by omega) hL d_LW_law_1089 ?_
  refine g_VI (As := [.int (xs (i + 1))]) (rest := []) S hO (fun _ h => h) (k_MD_never l G (adG G) σ1 τ1 (xs (i + 1)) n e5 aRU.1.1.2.1) cw_LW_142 (k := 140) (by decide) (sh_140 G (adG G) _ _) rfl rfl hl.1 (Nat.le_of_ble_eq_true rfl) ⟨(Nat.le_of_ble_eq_true rfl), (Nat.le_of_ble_eq_true rfl)⟩ ⟨by show cells + 1 + 0 ≤ 601024; omega, by show slots + 6 + 0 ≤ 7293034; omega⟩ d_LW_law_1090 (fun q x ce H locs hx => hx.elim) (fun v E1 H locs hp2 hO => ?_)
  obtain ⟨σ2, τ2, rfl, rfl, rfl, ht⟩ := hp2
  rw [ht] at hO
  refine W.eq (g2 := F0 m 1093 ls [.int _]) rfl ?_
  refine lv_istore (lv' := [(6, .int _), (5, .int z), (4, .int (nI i)), (3, .ref (adG G 158)), (2, .ref (adG G 140)), (1, .ref (adG G 0)), (0, .ref b)]) S.1 S.2.1 d_LW_law_1093 hl (by decide) rfl (fun ls hl => ?_)
  refine lv_aload_n S.1 S.2.1 d_LW_law_1095 rfl (lv_at hl 4 rfl) ?_
  refine g_VP (As := []) (rest := []) S hO (k_MD_thrown l G (adG G) _ τ1) cw_LW_84 (k := 140) (by decide) (sh_140 G (adG G) _ _) rfl rfl hl.1 (Nat.le_of_ble_eq_true rfl) ⟨(Nat.le_of_ble_eq_true rfl), (Nat.le_of_ble_eq_true rfl)⟩ ⟨by show cells + 1 + 0 + 0 ≤ 601024; omega, by show slots + 6 + 0 + 0 ≤ 7293034; omega⟩ d_LW_law_1096 (fun q x ce H hx => hx.elim) (fun v H hp3 hO => ?_)
  subst hp3
  refine W.eq (g2 := F0 m 1099 ls [.int _]) rfl ?_
  refine lv_iload S.1 S.2.1 d_LW_law_1099 (lv_at hl 1 rfl) ?_
  refine lv_icmp_eq (tgt := 1106) S.1 S.2.1 d_LW_law_1101 (by decide) (fun _ => ?_) (fun hne => absurd e0 hne)
  refine lv_iload S.1 S.2.1 d_LW_law_1106 (lv_at hl 1 rfl) ?_
  refine lv_if_ne (tgt := 1123) S.1 S.2.1 d_LW_law_1108 (by decide) (fun _ => ?_) (fun hz => ?_)
  · refine lv_goto (tgt := 1287) S.1 S.2.1 d_LW_law_1123 (by decide) ?_
    exact W.widen (by omega) (by omega) (kk _ _ _ _ _ hR2 hO (lv_sub hl [2, 3, 4, 5, 6] rfl))
  · have hz : z = 0 := by first | exact hz | exact Decidable.not_not.mp hz
    refine lv_aload_n S.1 S.2.1 d_LW_law_1111 rfl (lv_at hl 3 rfl) ?_
    refine lv_iconst (v := 0) S.1 S.2.1 d_LW_law_1112 (by decide) ?_
    refine g_lal S hO (k := 158) (N := 1) (i := 0) (by decide) (sh_158 G (adG G) _ _) (vp_in_nI (n := 0) (by decide) (by decide)) d_LW_law_1113 ?_
    refine lv_iload S.1 S.2.1 d_LW_law_1114 (lv_at hl 0 rfl) ?_
    refine lv_i2l S.1 S.2.1 d_LW_law_1116 rfl ?_
    refine W.lcmp S.1 S.2.1 d_LW_law_1117 ?_
    refine lv_if_eq (tgt := 1123) S.1 S.2.1 d_LW_law_1118 (by decide) (fun _ => ?_) (fun hne => absurd ?_ hne)
    · refine lv_goto (tgt := 1287) S.1 S.2.1 d_LW_law_1123 (by decide) ?_
      exact W.widen (by omega) (by omega) (kk _ _ _ _ _ hR2 hO (lv_sub hl [2, 3, 4, 5, 6] rfl))
    · show lg_cmp (τ1 158 0) _ = 0
      rw [h158 hz, ev hz]
      exact lg_cc _
set_option maxHeartbeats 4000000 in
theorem c_clash {p : Program} {e : Env} {s : State} {m : MethodId} {args : Array Value} {below : List Frame} {meth : Method} {c : Code} {H : Heap} {locs : List Loc} {cells slots : Nat} {Q : State → Prop} {ls : Array Slot} {G : gP} {σ : Nat → Nat → Int32} {τ : Nat → Nat → Int64} {b L i : Nat} {xs : Nat → Int32} (l : Launch) (hst : l.stackTraces = false) (S : CallFix p m c code 7 s args gts "PlaceRulesLaw") (hX : va_X b L xs s s.heap) (hbl : b < s.heap.size) (hbA : ¬ gA G b) (hN : ncJ s) (hL : L ≤ 3072) (hi : i + 6 ≤ L) (hR : RR σ) (hO : gO G (gA G) 159 (adG G) (enc G (adG G) σ τ) s H locs) (hl : lv_has ls 7 [(4, .int (nI i)), (3, .ref (adG G 158)), (2, .ref (adG G 140)), (1, .ref (adG G 0)), (0, .ref b)]) (hcs : cells + 6 ≤ 601024 ∧ slots + 36 ≤ 7293034)
    (kk : ∀ (σ' : Nat → Nat → Int32) (τ' : Nat → Nat → Int64) (H' : Heap) (locs' : List Loc) (ls' : Array Slot), RR σ' → gO G (gA G) 159 (adG G) (enc G (adG G) σ' τ') s H' locs' → lv_has ls' 7 [(4, .int (nI i)), (3, .ref (adG G 158)), (2, .ref (adG G 140)), (1, .ref (adG G 0)), (0, .ref b)] → W p l e room_1 s m args below meth c H' locs' (cells + 6) (slots + 36) Q (F0 m 1287 ls' [])) : W p l e room_1 s m args below meth c H locs cells slots Q (F0 m 1126 ls []) := by
  obtain ⟨aPL, ⟨nu, aUN⟩, ⟨n, nc, aRU⟩, ⟨ne, aEX⟩, aOW, ⟨nt, aTO⟩, ⟨N, aTX⟩, aNM⟩ := id hR
  have hc276 : nc ≤ 276 := by
    have h3 : n * (n - 1) ≤ 24 * 23 := Nat.mul_le_mul aRU.1.1.2.1 (by have := aRU.1.1.2.1; omega)
    have h4 := aRU.1.2.2.2
    omega
  refine lv_aload_n S.1 S.2.1 d_LW_law_1126 rfl (lv_at hl 3 rfl) ?_
  refine lv_aload_n S.1 S.2.1 d_LW_law_1127 rfl (lv_at hl 4 rfl) ?_
  refine lv_iload S.1 S.2.1 d_LW_law_1128 (lv_at hl 0 rfl) ?_
  refine lv_iconst (v := 1) S.1 S.2.1 d_LW_law_1130 (by decide) ?_
  refine lv_iadd S.1 S.2.1 d_LW_law_1131 ?_
  refine sc_a (k := 1) S hX hbl hbA hO.S (nI_add i 1) (by omega) hL d_LW_law_1132 ?_
  refine lv_aload_n S.1 S.2.1 d_LW_law_1133 rfl (lv_at hl 4 rfl) ?_
  refine lv_iload S.1 S.2.1 d_LW_law_1134 (lv_at hl 0 rfl) ?_
  refine lv_iconst (v := 2) S.1 S.2.1 d_LW_law_1136 (by decide) ?_
  refine lv_iadd S.1 S.2.1 d_LW_law_1137 ?_
  refine sc_a (k := 2) S hX hbl hbA hO.S (nI_add i 2) (by omega) hL d_LW_law_1138 ?_
  refine lv_aload_n S.1 S.2.1 d_LW_law_1139 rfl (lv_at hl 1 rfl) ?_
  refine g_SH (As := [.ref (adG G 0), .int (xs (i + 1)), .int (xs (i + 2)), .ref (adG G 158)]) (rest := []) S hO (fun _ h => h) hN (h_clash l hst G (adG G) σ τ (xs (i + 1)) (xs (i + 2)) nc aRU.1.2.2.1 hc276) cw_LW_143 g_cfW hl.1 (Nat.le_of_ble_eq_true rfl) ⟨(Nat.le_of_ble_eq_true rfl), (Nat.le_of_ble_eq_true rfl)⟩ ⟨by show cells + 2 ≤ 601024; omega, by show slots + 12 ≤ 7293034; omega⟩ d_LW_law_1140 (fun v σ1 τ1 H locs hp hO => ?_)
  obtain ⟨z, x, rfl, hp, h158⟩ := hp
  obtain ⟨e18, e0, hR2, ev⟩ := r_clash hR aRU hp
  refine W.eq (g2 := F0 m 1143 ls [.int z]) rfl ?_
  refine lv_istore (lv' := [(5, .int z), (4, .int (nI i)), (3, .ref (adG G 158)), (2, .ref (adG G 140)), (1, .ref (adG G 0)), (0, .ref b)]) S.1 S.2.1 d_LW_law_1143 hl (by decide) rfl (fun ls hl => ?_)
  refine lv_aload_n S.1 S.2.1 d_LW_law_1145 rfl (lv_at hl 3 rfl) ?_
  refine lv_aload_n S.1 S.2.1 d_LW_law_1146 rfl (lv_at hl 5 rfl) ?_
  refine lv_iload S.1 S.2.1 d_LW_law_1147 (lv_at hl 1 rfl) ?_
  refine lv_iconst (v := 1) S.1 S.2.1 d_LW_law_1149 (by decide) ?_
  refine lv_iadd S.1 S.2.1 d_LW_law_1150 ?_
  refine sc_a (k := 1) S hX hbl hbA hO.S (nI_add i 1) (by omega) hL d_LW_law_1151 ?_
  refine lv_aload_n S.1 S.2.1 d_LW_law_1152 rfl (lv_at hl 5 rfl) ?_
  refine lv_iload S.1 S.2.1 d_LW_law_1153 (lv_at hl 1 rfl) ?_
  refine lv_iconst (v := 2) S.1 S.2.1 d_LW_law_1155 (by decide) ?_
  refine lv_iadd S.1 S.2.1 d_LW_law_1156 ?_
  refine sc_a (k := 2) S hX hbl hbA hO.S (nI_add i 2) (by omega) hL d_LW_law_1157 ?_
  refine g_VI (As := [.int (xs (i + 1)), .int (xs (i + 2))]) (rest := []) S hO (fun _ h => h) (k_MD_clash l G (adG G) σ1 τ1 (xs (i + 1)) (xs (i + 2)) nc e18 hc276) cw_LW_145 (k := 140) (by decide) (sh_140 G (adG G) _ _) rfl rfl hl.1 (Nat.le_of_ble_eq_true rfl) ⟨(Nat.le_of_ble_eq_true rfl), (Nat.le_of_ble_eq_true rfl)⟩ ⟨by show cells + 2 + 0 ≤ 601024; omega, by show slots + 12 + 0 ≤ 7293034; omega⟩ d_LW_law_1158 (fun q x ce H locs hx => hx.elim) (fun v E1 H locs hp2 hO => ?_)
  obtain ⟨σ2, τ2, rfl, rfl, rfl, ht⟩ := hp2
  rw [ht] at hO
  refine W.eq (g2 := F0 m 1161 ls [.int _]) rfl ?_
  refine lv_istore (lv' := [(6, .int _), (5, .int z), (4, .int (nI i)), (3, .ref (adG G 158)), (2, .ref (adG G 140)), (1, .ref (adG G 0)), (0, .ref b)]) S.1 S.2.1 d_LW_law_1161 hl (by decide) rfl (fun ls hl => ?_)
  refine lv_aload_n S.1 S.2.1 d_LW_law_1163 rfl (lv_at hl 4 rfl) ?_
  refine g_VP (As := []) (rest := []) S hO (k_MD_thrown l G (adG G) _ τ1) cw_LW_84 (k := 140) (by decide) (sh_140 G (adG G) _ _) rfl rfl hl.1 (Nat.le_of_ble_eq_true rfl) ⟨(Nat.le_of_ble_eq_true rfl), (Nat.le_of_ble_eq_true rfl)⟩ ⟨by show cells + 2 + 0 + 0 ≤ 601024; omega, by show slots + 12 + 0 + 0 ≤ 7293034; omega⟩ d_LW_law_1164 (fun q x ce H hx => hx.elim) (fun v H hp3 hO => ?_)
  subst hp3
  refine W.eq (g2 := F0 m 1167 ls [.int _]) rfl ?_
  refine lv_iload S.1 S.2.1 d_LW_law_1167 (lv_at hl 1 rfl) ?_
  refine lv_icmp_eq (tgt := 1174) S.1 S.2.1 d_LW_law_1169 (by decide) (fun _ => ?_) (fun hne => absurd e0 hne)
  refine lv_iload S.1 S.2.1 d_LW_law_1174 (lv_at hl 1 rfl) ?_
  refine lv_if_ne (tgt := 1191) S.1 S.2.1 d_LW_law_1176 (by decide) (fun _ => ?_) (fun hz => ?_)
  · refine lv_goto (tgt := 1287) S.1 S.2.1 d_LW_law_1191 (by decide) ?_
    exact W.widen (by omega) (by omega) (kk _ _ _ _ _ hR2 hO (lv_sub hl [2, 3, 4, 5, 6] rfl))
  · have hz : z = 0 := by first | exact hz | exact Decidable.not_not.mp hz
    refine lv_aload_n S.1 S.2.1 d_LW_law_1179 rfl (lv_at hl 3 rfl) ?_
    refine lv_iconst (v := 0) S.1 S.2.1 d_LW_law_1180 (by decide) ?_
    refine g_lal S hO (k := 158) (N := 1) (i := 0) (by decide) (sh_158 G (adG G) _ _) (vp_in_nI (n := 0) (by decide) (by decide)) d_LW_law_1181 ?_
    refine lv_iload S.1 S.2.1 d_LW_law_1182 (lv_at hl 0 rfl) ?_
    refine lv_i2l S.1 S.2.1 d_LW_law_1184 rfl ?_
    refine W.lcmp S.1 S.2.1 d_LW_law_1185 ?_
    refine lv_if_eq (tgt := 1191) S.1 S.2.1 d_LW_law_1186 (by decide) (fun _ => ?_) (fun hne => absurd ?_ hne)
    · refine lv_goto (tgt := 1287) S.1 S.2.1 d_LW_law_1191 (by decide) ?_
      exact W.widen (by omega) (by omega) (kk _ _ _ _ _ hR2 hO (lv_sub hl [2, 3, 4, 5, 6] rfl))
    · show lg_cmp (τ1 158 0) _ = 0
      rw [h158 hz, ev hz]
      exact lg_cc _
set_option maxHeartbeats 4000000 in
theorem c_at {p : Program} {e : Env} {s : State} {m : MethodId} {args : Array Value} {below : List Frame} {meth : Method} {c : Code} {H : Heap} {locs : List Loc} {cells slots : Nat} {Q : State → Prop} {ls : Array Slot} {G : gP} {σ : Nat → Nat → Int32} {τ : Nat → Nat → Int64} {b L i : Nat} {xs : Nat → Int32} (l : Launch) (hst : l.stackTraces = false) (S : CallFix p m c code 7 s args gts "PlaceRulesLaw") (hX : va_X b L xs s s.heap) (hbl : b < s.heap.size) (hbA : ¬ gA G b) (hN : ncJ s) (hL : L ≤ 3072) (hi : i + 6 ≤ L) (hR : RR σ) (hO : gO G (gA G) 159 (adG G) (enc G (adG G) σ τ) s H locs) (hl : lv_has ls 7 [(4, .int (nI i)), (3, .ref (adG G 158)), (2, .ref (adG G 140)), (1, .ref (adG G 0)), (0, .ref b)]) (hcs : cells + 6 ≤ 601024 ∧ slots + 36 ≤ 7293034)
    (kk : ∀ (σ' : Nat → Nat → Int32) (τ' : Nat → Nat → Int64) (H' : Heap) (locs' : List Loc) (ls' : Array Slot), RR σ' → gO G (gA G) 159 (adG G) (enc G (adG G) σ' τ') s H' locs' → lv_has ls' 7 [(4, .int (nI i)), (3, .ref (adG G 158)), (2, .ref (adG G 140)), (1, .ref (adG G 0)), (0, .ref b)] → W p l e room_1 s m args below meth c H' locs' (cells + 6) (slots + 36) Q (F0 m 1287 ls' [])) : W p l e room_1 s m args below meth c H locs cells slots Q (F0 m 1194 ls []) := by
  obtain ⟨aPL, ⟨nu, aUN⟩, ⟨n, nc, aRU⟩, ⟨ne, aEX⟩, aOW, ⟨nt, aTO⟩, ⟨N, aTX⟩, aNM⟩ := id hR
  refine lv_aload_n S.1 S.2.1 d_LW_law_1194 rfl (lv_at hl 3 rfl) ?_
  refine lv_aload_n S.1 S.2.1 d_LW_law_1195 rfl (lv_at hl 4 rfl) ?_
  refine lv_iload S.1 S.2.1 d_LW_law_1196 (lv_at hl 0 rfl) ?_
  refine lv_iconst (v := 1) S.1 S.2.1 d_LW_law_1198 (by decide) ?_
  refine lv_iadd S.1 S.2.1 d_LW_law_1199 ?_
  refine sc_a (k := 1) S hX hbl hbA hO.S (nI_add i 1) (by omega) hL d_LW_law_1200 ?_
  refine lv_aload_n S.1 S.2.1 d_LW_law_1201 rfl (lv_at hl 4 rfl) ?_
  refine lv_iload S.1 S.2.1 d_LW_law_1202 (lv_at hl 0 rfl) ?_
  refine lv_iconst (v := 2) S.1 S.2.1 d_LW_law_1204 (by decide) ?_
  refine lv_iadd S.1 S.2.1 d_LW_law_1205 ?_
  refine sc_a (k := 2) S hX hbl hbA hO.S (nI_add i 2) (by omega) hL d_LW_law_1206 ?_
  refine lv_aload_n S.1 S.2.1 d_LW_law_1207 rfl (lv_at hl 1 rfl) ?_
  refine g_SH (As := [.ref (adG G 0), .int (xs (i + 1)), .int (xs (i + 2)), .ref (adG G 158)]) (rest := []) S hO (fun _ h => h) hN (h_at l hst G (adG G) σ τ (xs (i + 1)) (xs (i + 2)) nu aUN.1 aUN.2.2.1) cw_LW_146 g_cfW hl.1 (Nat.le_of_ble_eq_true rfl) ⟨(Nat.le_of_ble_eq_true rfl), (Nat.le_of_ble_eq_true rfl)⟩ ⟨by show cells + 2 ≤ 601024; omega, by show slots + 12 ≤ 7293034; omega⟩ d_LW_law_1208 (fun v σ1 τ1 H locs hp hO => ?_)
  obtain ⟨z, x, rfl, hp, h158⟩ := hp
  obtain ⟨e2, e0, hR2, ev⟩ := r_at hR aUN hp
  refine W.eq (g2 := F0 m 1211 ls [.int z]) rfl ?_
  refine lv_istore (lv' := [(5, .int z), (4, .int (nI i)), (3, .ref (adG G 158)), (2, .ref (adG G 140)), (1, .ref (adG G 0)), (0, .ref b)]) S.1 S.2.1 d_LW_law_1211 hl (by decide) rfl (fun ls hl => ?_)
  refine lv_aload_n S.1 S.2.1 d_LW_law_1213 rfl (lv_at hl 3 rfl) ?_
  refine lv_aload_n S.1 S.2.1 d_LW_law_1214 rfl (lv_at hl 5 rfl) ?_
  refine lv_iload S.1 S.2.1 d_LW_law_1215 (lv_at hl 1 rfl) ?_
  refine lv_iconst (v := 1) S.1 S.2.1 d_LW_law_1217 (by decide) ?_
  refine lv_iadd S.1 S.2.1 d_LW_law_1218 ?_
  refine sc_a (k := 1) S hX hbl hbA hO.S (nI_add i 1) (by omega) hL d_LW_law_1219 ?_
  refine lv_aload_n S.1 S.2.1 d_LW_law_1220 rfl (lv_at hl 5 rfl) ?_
  refine lv_iload S.1 S.2.1 d_LW_law_1221 (lv_at hl 1 rfl) ?_
  refine lv_iconst (v := 2) S.1 S.2.1 d_LW_law_1223 (by decide) ?_
  refine lv_iadd S.1 S.2.1 d_LW_law_1224 ?_
  refine sc_a (k := 2) S hX hbl hbA hO.S (nI_add i 2) (by omega) hL d_LW_law_1225 ?_
  refine g_VI (As := [.int (xs (i + 1)), .int (xs (i + 2))]) (rest := []) S hO (fun _ h => h) (k_MD_at l G (adG G) σ1 τ1 (xs (i + 1)) (xs (i + 2)) nu e2 aUN.2.2.1) cw_LW_148 (k := 140) (by decide) (sh_140 G (adG G) _ _) rfl rfl hl.1 (Nat.le_of_ble_eq_true rfl) ⟨(Nat.le_of_ble_eq_true rfl), (Nat.le_of_ble_eq_true rfl)⟩ ⟨by show cells + 2 + 0 ≤ 601024; omega, by show slots + 12 + 0 ≤ 7293034; omega⟩ d_LW_law_1226 (fun q x ce H locs hx => hx.elim) (fun v E1 H locs hp2 hO => ?_)
  obtain ⟨σ2, τ2, rfl, rfl, rfl, ht⟩ := hp2
  rw [ht] at hO
  refine W.eq (g2 := F0 m 1229 ls [.int _]) rfl ?_
  refine lv_istore (lv' := [(6, .int _), (5, .int z), (4, .int (nI i)), (3, .ref (adG G 158)), (2, .ref (adG G 140)), (1, .ref (adG G 0)), (0, .ref b)]) S.1 S.2.1 d_LW_law_1229 hl (by decide) rfl (fun ls hl => ?_)
  refine lv_aload_n S.1 S.2.1 d_LW_law_1231 rfl (lv_at hl 4 rfl) ?_
  refine g_VP (As := []) (rest := []) S hO (k_MD_thrown l G (adG G) _ τ1) cw_LW_84 (k := 140) (by decide) (sh_140 G (adG G) _ _) rfl rfl hl.1 (Nat.le_of_ble_eq_true rfl) ⟨(Nat.le_of_ble_eq_true rfl), (Nat.le_of_ble_eq_true rfl)⟩ ⟨by show cells + 2 + 0 + 0 ≤ 601024; omega, by show slots + 12 + 0 + 0 ≤ 7293034; omega⟩ d_LW_law_1232 (fun q x ce H hx => hx.elim) (fun v H hp3 hO => ?_)
  subst hp3
  refine W.eq (g2 := F0 m 1235 ls [.int _]) rfl ?_
  refine lv_iload S.1 S.2.1 d_LW_law_1235 (lv_at hl 1 rfl) ?_
  refine lv_icmp_eq (tgt := 1242) S.1 S.2.1 d_LW_law_1237 (by decide) (fun _ => ?_) (fun hne => absurd e0 hne)
  refine lv_iload S.1 S.2.1 d_LW_law_1242 (lv_at hl 1 rfl) ?_
  refine lv_if_ne (tgt := 1259) S.1 S.2.1 d_LW_law_1244 (by decide) (fun _ => ?_) (fun hz => ?_)
  · refine lv_goto (tgt := 1287) S.1 S.2.1 d_LW_law_1259 (by decide) ?_
    exact W.widen (by omega) (by omega) (kk _ _ _ _ _ hR2 hO (lv_sub hl [2, 3, 4, 5, 6] rfl))
  · have hz : z = 0 := by first | exact hz | exact Decidable.not_not.mp hz
    refine lv_aload_n S.1 S.2.1 d_LW_law_1247 rfl (lv_at hl 3 rfl) ?_
    refine lv_iconst (v := 0) S.1 S.2.1 d_LW_law_1248 (by decide) ?_
    refine g_lal S hO (k := 158) (N := 1) (i := 0) (by decide) (sh_158 G (adG G) _ _) (vp_in_nI (n := 0) (by decide) (by decide)) d_LW_law_1249 ?_
    refine lv_iload S.1 S.2.1 d_LW_law_1250 (lv_at hl 0 rfl) ?_
    refine lv_i2l S.1 S.2.1 d_LW_law_1252 rfl ?_
    refine W.lcmp S.1 S.2.1 d_LW_law_1253 ?_
    refine lv_if_eq (tgt := 1259) S.1 S.2.1 d_LW_law_1254 (by decide) (fun _ => ?_) (fun hne => absurd ?_ hne)
    · refine lv_goto (tgt := 1287) S.1 S.2.1 d_LW_law_1259 (by decide) ?_
      exact W.widen (by omega) (by omega) (kk _ _ _ _ _ hR2 hO (lv_sub hl [2, 3, 4, 5, 6] rfl))
    · show lg_cmp (τ1 158 0) _ = 0
      rw [h158 hz, ev hz]
      exact lg_cc _
set_option maxHeartbeats 4000000 in
theorem c_count {p : Program} {e : Env} {s : State} {m : MethodId} {args : Array Value} {below : List Frame} {meth : Method} {c : Code} {H : Heap} {locs : List Loc} {cells slots : Nat} {Q : State → Prop} {ls : Array Slot} {G : gP} {σ : Nat → Nat → Int32} {τ : Nat → Nat → Int64} {b L i : Nat} {xs : Nat → Int32} (l : Launch) (hst : l.stackTraces = false) (S : CallFix p m c code 7 s args gts "PlaceRulesLaw") (hX : va_X b L xs s s.heap) (hbl : b < s.heap.size) (hbA : ¬ gA G b) (hN : ncJ s) (hL : L ≤ 3072) (hi : i + 6 ≤ L) (hR : RR σ) (hO : gO G (gA G) 159 (adG G) (enc G (adG G) σ τ) s H locs) (hl : lv_has ls 7 [(4, .int (nI i)), (3, .ref (adG G 158)), (2, .ref (adG G 140)), (1, .ref (adG G 0)), (0, .ref b)]) (hcs : cells + 6 ≤ 601024 ∧ slots + 36 ≤ 7293034)
    (kk : ∀ (σ' : Nat → Nat → Int32) (τ' : Nat → Nat → Int64) (H' : Heap) (locs' : List Loc) (ls' : Array Slot), RR σ' → gO G (gA G) 159 (adG G) (enc G (adG G) σ' τ') s H' locs' → lv_has ls' 7 [(4, .int (nI i)), (3, .ref (adG G 158)), (2, .ref (adG G 140)), (1, .ref (adG G 0)), (0, .ref b)] → W p l e room_1 s m args below meth c H' locs' (cells + 6) (slots + 36) Q (F0 m 1287 ls' [])) : W p l e room_1 s m args below meth c H locs cells slots Q (F0 m 1262 ls []) := by
  obtain ⟨aPL, ⟨nu, aUN⟩, ⟨n, nc, aRU⟩, ⟨ne, aEX⟩, aOW, ⟨nt, aTO⟩, ⟨N, aTX⟩, aNM⟩ := id hR
  refine lv_aload_n S.1 S.2.1 d_LW_law_1262 rfl (lv_at hl 3 rfl) ?_
  refine lv_aload_n S.1 S.2.1 d_LW_law_1263 rfl (lv_at hl 4 rfl) ?_
  refine lv_iload S.1 S.2.1 d_LW_law_1264 (lv_at hl 0 rfl) ?_
  refine lv_iconst (v := 1) S.1 S.2.1 d_LW_law_1266 (by decide) ?_
  refine lv_iadd S.1 S.2.1 d_LW_law_1267 ?_
  refine sc_a (k := 1) S hX hbl hbA hO.S (nI_add i 1) (by omega) hL d_LW_law_1268 ?_
  refine g_VP (As := [.int (xs (i + 1))]) (rest := []) S hO (k_PR_count l G (adG G) σ τ (xs (i + 1))) cw_LW_149 (k := 0) (by decide) (sh_0 G (adG G) _ _) rfl rfl hl.1 (Nat.le_of_ble_eq_true rfl) ⟨(Nat.le_of_ble_eq_true rfl), (Nat.le_of_ble_eq_true rfl)⟩ ⟨by show cells + 0 ≤ 601024; omega, by show slots + 0 ≤ 7293034; omega⟩ d_LW_law_1269 (fun q x ce H hx => hx.elim) (fun v H hp hO => ?_)
  subst hp
  refine W.eq (g2 := F0 m 1272 ls [.int _]) rfl ?_
  refine lv_aload_n S.1 S.2.1 d_LW_law_1272 rfl (lv_at hl 2 rfl) ?_
  refine lv_aload_n S.1 S.2.1 d_LW_law_1273 rfl (lv_at hl 4 rfl) ?_
  refine lv_iload S.1 S.2.1 d_LW_law_1274 (lv_at hl 0 rfl) ?_
  refine lv_iconst (v := 1) S.1 S.2.1 d_LW_law_1276 (by decide) ?_
  refine lv_iadd S.1 S.2.1 d_LW_law_1277 ?_
  refine sc_a (k := 1) S hX hbl hbA hO.S (nI_add i 1) (by omega) hL d_LW_law_1278 ?_
  refine g_VI (As := [.int (xs (i + 1))]) (rest := [.int _]) S hO (fun _ h => h) (k_MD_count l G (adG G) σ τ (xs (i + 1))) cw_LW_152 (k := 140) (by decide) (sh_140 G (adG G) _ _) rfl rfl hl.1 (Nat.le_of_ble_eq_true rfl) ⟨(Nat.le_of_ble_eq_true rfl), (Nat.le_of_ble_eq_true rfl)⟩ ⟨by show cells + 0 + 0 ≤ 601024; omega, by show slots + 0 + 0 ≤ 7293034; omega⟩ d_LW_law_1279 (fun q x ce H locs hx => hx.elim) (fun v E1 H locs hp2 hO => ?_)
  obtain ⟨σ2, τ2, rfl, rfl, rfl, ht⟩ := hp2
  obtain ⟨ev, hR2⟩ := r_count (a := (xs (i + 1))) hR
  refine W.eq (g2 := F0 m 1282 ls [.int _, .int _]) rfl ?_
  refine lv_icmp_eq (tgt := 1287) S.1 S.2.1 d_LW_law_1282 (by decide) (fun _ => ?_) (fun hne => absurd ev hne)
  exact W.widen (by omega) (by omega) (kk _ _ _ _ _ hR2 hO hl)
