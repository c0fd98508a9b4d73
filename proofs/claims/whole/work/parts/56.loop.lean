/-! The law's loop. Written by wip/tools/m56.py; the rows up to lw_At are the skeleton's. -/
def R_law : String := "PlaceRulesLaw"
def lw_P (b : Addr) (xs : List Int32) (args : Array Value) (s : State) : Prop := args = #[.ref b] ∧ s.IntsAt b xs ∧ xs.length ≤ 3072 ∧ (Jvm.Cond.and given_1 narrow_1).before args s = true
def lw_Q (_ : Array Value) (s : State) (o : Outcome) (t : State) : Prop := o = .returned (some (.int 1)) ∧ Framed s o t [] 601024 7293034
def lw_Z (below : List Frame) (a : Array Value) (s : State) : State → Prop := fun t => ∃ o, t.status = .running ∧ Ended t below o ∧ lw_Q a s o t
/-- the law's own end, with 1 on the stack, nothing written that was there before, its room as the claim has it -/
theorem lw_ret {p : Program} {l : Launch} {e : Env} {s : State} {m : MethodId} {below : List Frame} {meth : Method} {c : Code} {b : Nat} (hx : p.tables.exec = Jvm.exec) (hb : c.code = code) (hr : meth.sig.returnType = ret) (hlocks : meth.locks = false) {pc : Nat} {H : Heap} {ls : Array Slot} (hdg : decode code pc = .ok (.ireturn, 1)) : W p l e room_1 s m #[Value.ref b] below meth c H [] 601024 7293034 (lw_Z below #[Value.ref b] s) (F0 m pc ls [.int 1]) := by
  intro T hT X
  obtain ⟨fs, hret, hrun, hended, hW, hframe⟩ := X.leave (v := some (.int 1)) (hlocks := hlocks) (fun h => by rw [hr] at h; cases h)
  have hmeth' : T.vm.method? m = some meth := X.method'
  refine ⟨T.setFrames fs, ?_, .returned (some (.int 1)), hrun, hended, rfl, ⟨_, rfl⟩, hW, hframe⟩
  jvm_step X.here [X.here.top, hx, hb, hdg, hmeth', hr, ret, narrow_b1]
  (try refine ⟨rfl, ?_⟩); (try refine ⟨rfl, ?_⟩)
  first | (intro acts; rw [hret _ acts rfl rfl rfl]) | rw [hret _ _ rfl rfl rfl]
  exact Steps.refl _
/-- what holds at the law's entry: the machine, the code, the tables' words (any of lw_tbl by 'hts w (by decide +kernel)'), the script of L ints xs at the cell b, what the Statement gives of the start (any of its parts by flat_of_before) -/
def lw_At (p : Program) (s : State) (m : MethodId) (meth : Method) (c : Code) (b L : Nat) (xs : Nat → Int32) : Prop :=
  p.tables.exec = Jvm.exec ∧ c.code = code ∧ meth.sig.returnType = ret ∧ c.maxLocals = 7 ∧ s.vm.findClass R_law = some m.cls ∧ (∀ w ∈ lw_tbl, w.before #[Value.ref b] s = true) ∧ va_X b L xs s s.heap ∧ b < s.heap.size ∧ meth.locks = false ∧ (Jvm.Cond.and given_1 narrow_1).before #[Value.ref b] s = true
theorem sw18 {x : Int32} (h0 : ¬ x = 0) (h1 : ¬ x = 1) (h2 : ¬ x = 2) (h3 : ¬ x = 3) (h4 : ¬ x = 4) (h5 : ¬ x = 5) (h6 : ¬ x = 6) (h7 : ¬ x = 7) (h8 : ¬ x = 8) (h9 : ¬ x = 9) (h10 : ¬ x = 10) (h11 : ¬ x = 11) (h12 : ¬ x = 12) (h13 : ¬ x = 13) (h14 : ¬ x = 14) (h15 : ¬ x = 15) (h16 : ¬ x = 16) (h17 : ¬ x = 17) (h18 : ¬ x = 18) : x.toInt < 0 ∨ 18 < x.toInt := by
  by_cases h : x < 0
  · left
    have := Int32.lt_iff_toInt_lt.mp h
    have e0 : (0 : Int32).toInt = 0 := by decide
    omega
  · obtain ⟨j, hj, rfl⟩ := nI_of h
    right
    rw [nI_toInt hj]
    apply Classical.byContradiction
    intro hn
    have hc : j = 0 ∨ j = 1 ∨ j = 2 ∨ j = 3 ∨ j = 4 ∨ j = 5 ∨ j = 6 ∨ j = 7 ∨ j = 8 ∨ j = 9 ∨ j = 10 ∨ j = 11 ∨ j = 12 ∨ j = 13 ∨ j = 14 ∨ j = 15 ∨ j = 16 ∨ j = 17 ∨ j = 18 := by omega
    rcases hc with rfl | rfl | rfl | rfl | rfl | rfl | rfl | rfl | rfl | rfl | rfl | rfl | rfl | rfl | rfl | rfl | rfl | rfl | rfl
    · exact h0 rfl
    · exact h1 rfl
    · exact h2 rfl
    · exact h3 rfl
    · exact h4 rfl
    · exact h5 rfl
    · exact h6 rfl
    · exact h7 rfl
    · exact h8 rfl
    · exact h9 rfl
    · exact h10 rfl
    · exact h11 rfl
    · exact h12 rfl
    · exact h13 rfl
    · exact h14 rfl
    · exact h15 rfl
    · exact h16 rfl
    · exact h17 rfl
    · exact h18 rfl
set_option maxHeartbeats 4000000 in
theorem law_loop {p : Program} {e : Env} {s : State} {m : MethodId} {below : List Frame} {meth : Method} {c : Code} {G : gP} {b L : Nat} {xs : Nat → Int32} (l : Launch) (hst : l.stackTraces = false) (S : CallFix p m c code 7 s #[Value.ref b] gts "PlaceRulesLaw") (hr : meth.sig.returnType = ret) (hlk : meth.locks = false) (hX : va_X b L xs s s.heap) (hbl : b < s.heap.size) (hbA : ¬ gA G b) (hgb : gb G = s.heap.size) (hN : ncJ s) (hL : L ≤ 3072) : ∀ (n9 i : Nat), L + 6 - i < n9 → i ≤ L + 6 → ∀ (σ : Nat → Nat → Int32) (τ : Nat → Nat → Int64) (H : Heap) (locs : List Loc) (ls : Array Slot), RR σ → gO G (gA G) 159 (adG G) (enc G (adG G) σ τ) s H locs → lv_has ls 7 [(4, .int (nI i)), (3, .ref (adG G 158)), (2, .ref (adG G 140)), (1, .ref (adG G 0)), (0, .ref b)] → W p l e room_1 s m #[Value.ref b] below meth c H locs (159 + i) (3793 + 6 * i) (lw_Z below #[Value.ref b] s) (F0 m 23 ls []) := by
  intro n9
  induction n9 with
  | zero =>
    intro i h9
    exact absurd h9 (Nat.not_lt_zero _)
  | succ n9 ih =>
    intro i h9 hi6 σ τ H locs ls hR hO hl
    refine lv_iload S.1 S.2.1 d_LW_law_23 (lv_at hl 0 rfl) ?_
    refine lv_aload_n S.1 S.2.1 d_LW_law_25 rfl (lv_at hl 4 rfl) ?_
    refine va_slen S.1 S.2.1 hX hbl hbA hO.S d_LW_law_26 ?_
    refine lv_bipush (v := 6) S.1 S.2.1 d_LW_law_27 (by decide) ?_
    refine lv_isub S.1 S.2.1 d_LW_law_29 ?_
    have hsub : (Int32.ofNat L - 6).toInt = (L : Int) - 6 := pk_sub_toInt (a := L) (b := 6) (by omega) (by omega)
    have hii : (nI i).toInt = (i : Int) := nI_toInt (by omega)
    refine lv_icmp_gt (tgt := 1293) S.1 S.2.1 d_LW_law_30 (by decide) (fun hc => ?_) (fun hc => ?_)
    · refine lv_iconst (v := 1) S.1 S.2.1 d_LW_law_1293 (by decide) ?_
      refine va_forget (fun q hq => ?_) ?_
      · rw [← hgb]
        exact hO.S.2.2 q hq
      · exact W.widen (by omega) (by omega) (lw_ret S.1 S.2.1 hr hlk d_LW_law_1294)
    · have hle : i + 6 ≤ L := by
        rw [Int32.lt_iff_toInt_lt, hsub, hii] at hc
        omega
      have hnext : ∀ (σ' : Nat → Nat → Int32) (τ' : Nat → Nat → Int64) (H' : Heap) (locs' : List Loc) (ls' : Array Slot), RR σ' → gO G (gA G) 159 (adG G) (enc G (adG G) σ' τ') s H' locs' → lv_has ls' 7 [(4, .int (nI i)), (3, .ref (adG G 158)), (2, .ref (adG G 140)), (1, .ref (adG G 0)), (0, .ref b)] → W p l e room_1 s m #[Value.ref b] below meth c H' locs' (159 + i + 6) (3793 + 6 * i + 36) (lw_Z below #[Value.ref b] s) (F0 m 1287 ls' []) := by
        intro σ' τ' H' locs' ls' hR' hO' hl'
        obtain ⟨x_3, ex_3⟩ : ∃ z : Int32, z = (nI i) + 6 := ⟨_, rfl⟩
        refine lv_iinc (v := x_3) (lv' := [(4, .int x_3), (3, .ref (adG G 158)), (2, .ref (adG G 140)), (1, .ref (adG G 0)), (0, .ref b)]) S.1 S.2.1 d_LW_law_1287 hl' (k := 0) rfl (by rw [ex_3]; rfl) (by decide) rfl (fun ls hl => ?_)
        refine lv_goto (tgt := 23) S.1 S.2.1 d_LW_law_1290 (by decide) ?_
        obtain rfl : x_3 = nI (i + 6) := by rw [ex_3]; exact nI_add i 6
        exact W.widen (by omega) (by omega) (ih (i + 6) (by omega) (by omega) σ' τ' H' locs' ls hR' hO' hl)
      refine lv_aload_n S.1 S.2.1 d_LW_law_33 rfl (lv_at hl 4 rfl) ?_
      refine lv_iload S.1 S.2.1 d_LW_law_34 (lv_at hl 0 rfl) ?_
      refine sc_a (k := 0) S hX hbl hbA hO.S rfl (by omega) hL d_LW_law_36 ?_
      refine lv_bipush (v := 31) S.1 S.2.1 d_LW_law_37 (by decide) ?_
      refine lv_iand S.1 S.2.1 d_LW_law_39 ?_
      generalize xs (i + 0) &&& 31 = x
      by_cases w0 : x = 0
      · refine W.eq (g2 := F0 m 40 ls [.int 0]) (by rw [w0]) ?_
        refine lv_tableIn (tgt := 132) S.1 S.2.1 d_LW_law_40 (by decide) (by decide) rfl (by decide) ?_
        exact c_place l hst S hX hbl hbA hN hL hle hR hO hl ⟨by omega, by omega⟩ hnext
      by_cases w1 : x = 1
      · refine W.eq (g2 := F0 m 40 ls [.int 1]) (by rw [w1]) ?_
        refine lv_tableIn (tgt := 204) S.1 S.2.1 d_LW_law_40 (by decide) (by decide) rfl (by decide) ?_
        exact c_limit l hst S hX hbl hbA hN hL hle hR hO hl ⟨by omega, by omega⟩ hnext
      by_cases w2 : x = 2
      · refine W.eq (g2 := F0 m 40 ls [.int 2]) (by rw [w2]) ?_
        refine lv_tableIn (tgt := 264) S.1 S.2.1 d_LW_law_40 (by decide) (by decide) rfl (by decide) ?_
        exact c_unit l hst S hX hbl hbA hN hL hle hR hO hl ⟨by omega, by omega⟩ hnext
      by_cases w3 : x = 3
      · refine W.eq (g2 := F0 m 40 ls [.int 3]) (by rw [w3]) ?_
        refine lv_tableIn (tgt := 344) S.1 S.2.1 d_LW_law_40 (by decide) (by decide) rfl (by decide) ?_
        exact c_size l hst S hX hbl hbA hN hL hle hR hO hl ⟨by omega, by omega⟩ hnext
      by_cases w4 : x = 4
      · refine W.eq (g2 := F0 m 40 ls [.int 4]) (by rw [w4]) ?_
        refine lv_tableIn (tgt := 428) S.1 S.2.1 d_LW_law_40 (by decide) (by decide) rfl (by decide) ?_
        exact c_nature l hst S hX hbl hbA hN hL hle hR hO hl ⟨by omega, by omega⟩ hnext
      by_cases w5 : x = 5
      · refine W.eq (g2 := F0 m 40 ls [.int 5]) (by rw [w5]) ?_
        refine lv_tableIn (tgt := 500) S.1 S.2.1 d_LW_law_40 (by decide) (by decide) rfl (by decide) ?_
        exact c_rule l hst S hX hbl hbA hN hL hle hR hO hl ⟨by omega, by omega⟩ hnext
      by_cases w6 : x = 6
      · refine W.eq (g2 := F0 m 40 ls [.int 6]) (by rw [w6]) ?_
        refine lv_tableIn (tgt := 592) S.1 S.2.1 d_LW_law_40 (by decide) (by decide) rfl (by decide) ?_
        exact c_sign l hst S hX hbl hbA hN hL hle hR hO hl ⟨by omega, by omega⟩ hnext
      by_cases w7 : x = 7
      · refine W.eq (g2 := F0 m 40 ls [.int 7]) (by rw [w7]) ?_
        refine lv_tableIn (tgt := 617) S.1 S.2.1 d_LW_law_40 (by decide) (by decide) rfl (by decide) ?_
        exact c_read l hst S hX hbl hbA hN hL hle hR hO hl ⟨by omega, by omega⟩ hnext
      by_cases w8 : x = 8
      · refine W.eq (g2 := F0 m 40 ls [.int 8]) (by rw [w8]) ?_
        refine lv_tableIn (tgt := 630) S.1 S.2.1 d_LW_law_40 (by decide) (by decide) rfl (by decide) ?_
        exact c_own l hst S hX hbl hbA hN hL hle hR hO hl ⟨by omega, by omega⟩ hnext
      by_cases w9 : x = 9
      · refine W.eq (g2 := F0 m 40 ls [.int 9]) (by rw [w9]) ?_
        refine lv_tableIn (tgt := 678) S.1 S.2.1 d_LW_law_40 (by decide) (by decide) rfl (by decide) ?_
        exact c_except l hst S hX hbl hbA hN hL hle hR hO hl ⟨by omega, by omega⟩ hnext
      by_cases w10 : x = 10
      · refine W.eq (g2 := F0 m 40 ls [.int 10]) (by rw [w10]) ?_
        refine lv_tableIn (tgt := 750) S.1 S.2.1 d_LW_law_40 (by decide) (by decide) rfl (by decide) ?_
        exact c_may l hst S hX hbl hbA hN hL hle hR hO hl ⟨by omega, by omega⟩ hnext
      by_cases w11 : x = 11
      · refine W.eq (g2 := F0 m 40 ls [.int 11]) (by rw [w11]) ?_
        refine lv_tableIn (tgt := 830) S.1 S.2.1 d_LW_law_40 (by decide) (by decide) rfl (by decide) ?_
        exact c_explain l hst S hX hbl hbA hN hL hle hR hO hl ⟨by omega, by omega⟩ hnext
      by_cases w12 : x = 12
      · refine W.eq (g2 := F0 m 40 ls [.int 12]) (by rw [w12]) ?_
        refine lv_tableIn (tgt := 886) S.1 S.2.1 d_LW_law_40 (by decide) (by decide) rfl (by decide) ?_
        exact c_put l hst S hX hbl hbA hN hL hle hR hO hl ⟨by omega, by omega⟩ hnext
      by_cases w13 : x = 13
      · refine W.eq (g2 := F0 m 40 ls [.int 13]) (by rw [w13]) ?_
        refine lv_tableIn (tgt := 966) S.1 S.2.1 d_LW_law_40 (by decide) (by decide) rfl (by decide) ?_
        exact c_take l hst S hX hbl hbA hN hL hle hR hO hl ⟨by omega, by omega⟩ hnext
      by_cases w14 : x = 14
      · refine W.eq (g2 := F0 m 40 ls [.int 14]) (by rw [w14]) ?_
        refine lv_tableIn (tgt := 1002) S.1 S.2.1 d_LW_law_40 (by decide) (by decide) rfl (by decide) ?_
        exact c_turned l hst S hX hbl hbA hN hL hle hR hO hl ⟨by omega, by omega⟩ hnext
      by_cases w15 : x = 15
      · refine W.eq (g2 := F0 m 40 ls [.int 15]) (by rw [w15]) ?_
        refine lv_tableIn (tgt := 1070) S.1 S.2.1 d_LW_law_40 (by decide) (by decide) rfl (by decide) ?_
        exact c_never l hst S hX hbl hbA hN hL hle hR hO hl ⟨by omega, by omega⟩ hnext
      by_cases w16 : x = 16
      · refine W.eq (g2 := F0 m 40 ls [.int 16]) (by rw [w16]) ?_
        refine lv_tableIn (tgt := 1126) S.1 S.2.1 d_LW_law_40 (by decide) (by decide) rfl (by decide) ?_
        exact c_clash l hst S hX hbl hbA hN hL hle hR hO hl ⟨by omega, by omega⟩ hnext
      by_cases w17 : x = 17
      · refine W.eq (g2 := F0 m 40 ls [.int 17]) (by rw [w17]) ?_
        refine lv_tableIn (tgt := 1194) S.1 S.2.1 d_LW_law_40 (by decide) (by decide) rfl (by decide) ?_
        exact c_at l hst S hX hbl hbA hN hL hle hR hO hl ⟨by omega, by omega⟩ hnext
      by_cases w18 : x = 18
      · refine W.eq (g2 := F0 m 40 ls [.int 18]) (by rw [w18]) ?_
        refine lv_tableIn (tgt := 1262) S.1 S.2.1 d_LW_law_40 (by decide) (by decide) rfl (by decide) ?_
        exact c_count l hst S hX hbl hbA hN hL hle hR hO hl ⟨by omega, by omega⟩ hnext
      refine lv_tableOut (tgt := 1287) S.1 S.2.1 d_LW_law_40 (sw18 w0 w1 w2 w3 w4 w5 w6 w7 w8 w9 w10 w11 w12 w13 w14 w15 w16 w17 w18) (by decide) ?_
      exact W.widen (by omega) (by omega) (hnext _ _ _ _ _ hR hO hl)
theorem s00_z {k j : Nat} (h1 : ¬ (68 ≤ k ∧ k < 80)) (h2 : ¬ (80 ≤ k ∧ k < 120)) (h3 : k ≠ 141) (h4 : k ≠ 157) : s00 k j = 0 := by
  unfold s00
  rw [if_neg h1, if_neg h2, if_neg h3, if_neg h4]
theorem nm_ok : ∀ k, k < 11 → ∀ j, j < 8 → nmF (8 * k + j) = if j < gkl.getD k 0 then kbC k j else 0 := by decide +kernel
theorem RR_0 : RR s00 := by
  refine ⟨?_, ⟨0, ?_⟩, ⟨0, 0, ?_⟩, ⟨0, ?_⟩, ?_, ⟨0, ?_⟩, ⟨0, ?_⟩, ?_⟩
  · intro i j hi hj
    have e1 : s00 (68 + i) j = if j < 3 then 1000 else if j = 3 then 100000 else 0 := by
      unfold s00
      rw [if_pos (by omega)]
    have e2 : s00 141 (5 * i + j) = plF 12 (5 * i + j) := by
      unfold s00
      rw [if_neg (by omega), if_neg (by omega), if_pos rfl]
    rw [e1, e2, plF, if_pos (show 5 * i + j < 5 * 12 by omega), show (5 * i + j) % 5 = j by omega]
    have hj2 : j = 0 ∨ j = 1 ∨ j = 2 ∨ j = 3 ∨ j = 4 := by omega
    rcases hj2 with rfl | rfl | rfl | rfl | rfl <;> rfl
  · refine ⟨s00_z (by omega) (by omega) (by omega) (by omega), s00_z (by omega) (by omega) (by omega) (by omega), by omega, fun u j hu => by omega, fun u hu => by omega, fun u hu => by omega, fun u hu => by omega, fun u _ hu => ?_⟩
    have e : ∀ j, s00 (80 + u) j = if j = 3 ∨ j = 4 ∨ j = 5 then 100 else if j = 6 ∨ j = 9 then 1000 else if j = 10 then (-1) else 0 := fun j => by
      unfold s00
      rw [if_neg (by omega), if_pos (by omega)]
    unfold rFU
    rw [e, e, e, e, e, e, e, e]
    exact ⟨rfl, rfl, rfl, rfl, rfl, rfl, rfl, rfl⟩
  · refine ⟨⟨⟨s00_z (by omega) (by omega) (by omega) (by omega), by omega, fun i hi => by omega, fun r hr => ⟨0, by omega, s00_z (by omega) (by omega) (by omega) (by omega), fun h => by omega⟩⟩, ⟨fun i hi => by omega, fun r hr => by omega, fun i j a b hij hj => by omega⟩, s00_z (by omega) (by omega) (by omega) (by omega), by omega⟩, s00_z (by omega) (by omega) (by omega) (by omega), s00_z (by omega) (by omega) (by omega) (by omega), fun r j hr => by omega, fun r _ hr => s00_z (by omega) (by omega) (by omega) (by omega), fun r hr => by omega, fun z hz => by omega⟩
  · exact ⟨s00_z (by omega) (by omega) (by omega) (by omega), s00_z (by omega) (by omega) (by omega) (by omega), by omega, fun j q hj => by omega, fun j hj => by omega, fun i j hi hj => by omega⟩
  · exact ⟨fun q hq => (s00_z (by omega) (by omega) (by omega) (by omega)).trans (s00_z (by omega) (by omega) (by omega) (by omega)).symm, (s00_z (by omega) (by omega) (by omega) (by omega)).trans (s00_z (by omega) (by omega) (by omega) (by omega)).symm⟩
  · exact ⟨s00_z (by omega) (by omega) (by omega) (by omega), s00_z (by omega) (by omega) (by omega) (by omega), by omega, fun i hi => by omega⟩
  · exact ⟨s00_z (by omega) (by omega) (by omega) (by omega), s00_z (by omega) (by omega) (by omega) (by omega), by omega, fun i => (s00_z (by omega) (by omega) (by omega) (by omega)).trans (s00_z (by omega) (by omega) (by omega) (by omega)).symm, ⟨0, by omega, s00_z (by omega) (by omega) (by omega) (by omega)⟩, fun i hi => ⟨0, by omega, s00_z (by omega) (by omega) (by omega) (by omega)⟩⟩
  · intro k j hk hj
    have e : s00 157 (8 * k + j) = nmF (8 * k + j) := by
      unfold s00
      rw [if_neg (by omega), if_neg (by omega), if_neg (by omega), if_pos rfl]
    rw [e]
    exact nm_ok k hk j hj
