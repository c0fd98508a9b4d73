/-! All rules are asked. Written by wip/tools/m25.py. -/
/-- what the rules' cells keep: how many, their order, their kinds -/
def InvR (σ : Nat → Nat → Int32) (nr : Nat) : Prop := σ 4 2 = nI nr ∧ nr ≤ 24 ∧ (∀ i, i < nr → ∃ q, q < nr ∧ σ 6 i = nI q) ∧ ∀ r, r < 24 → ∃ k, k < 11 ∧ σ (9 + r) 1 = nI k ∧ (k = 10 → ∃ j, j < 4 ∧ σ (9 + r) 2 = nI j)
theorem InvR.mono {σ σ1 : Nat → Nat → Int32} {nr : Nat} (h : InvR σ nr) (h4 : σ1 4 2 = σ 4 2) (h6 : σ1 6 = σ 6) (h9 : ∀ r, r < 24 → σ1 (9 + r) 1 = σ (9 + r) 1 ∧ σ1 (9 + r) 2 = σ (9 + r) 2) : InvR σ1 nr := by
  obtain ⟨a1, a2, a3, a4⟩ := h
  refine ⟨h4.trans a1, a2, fun i hi => ?_, fun r hr => ?_⟩
  · rw [h6]; exact a3 i hi
  · rw [(h9 r hr).1, (h9 r hr).2]; exact a4 r hr
theorem owS_c {σ : Nat → Nat → Int32} {j q : Nat} (h : q ≠ 33) : owS σ j q = σ q := by
  unfold owS
  split
  · exact up2_c h
  · rfl
theorem rfS_c {σ : Nat → Nat → Int32} {r k q : Nat} (h : q ≠ 33) : rfS σ r k q = σ q := by
  unfold rfS
  split
  · exact owS_c h
  · rfl
/-- the rule r has refused: the c-th of the refusals -/
def asr (σ : Nat → Nat → Int32) (r c : Nat) : Nat → Nat → Int32 := up2 (up2 (up2 σ (9 + r) 4 1) 67 c (nI r)) 0 10 ((up2 (up2 σ (9 + r) 4 1) 67 c (nI r)) 0 10 + 1)
def asn (τ : Nat → Nat → Int64) (nw : Nat) (p o d : Int32) (σ : Nat → Nat → Int32) (i : Nat) : Nat → Nat → Int32 :=
  if (lpf (wvB σ (σ 6 i) p o d) nw 0).isSome = true then σ
  else if rfP σ τ (σ 6 i).toNatClampNeg (σ (9 + (σ 6 i).toNatClampNeg) 1).toNatClampNeg then asr (rfS σ (σ 6 i).toNatClampNeg (σ (9 + (σ 6 i).toNatClampNeg) 1).toNatClampNeg) (σ 6 i).toNatClampNeg (σ 0 10).toNatClampNeg
  else rfS σ (σ 6 i).toNatClampNeg (σ (9 + (σ 6 i).toNatClampNeg) 1).toNatClampNeg
/-- the first i rules, in their order, have been asked -/
def asx (τ : Nat → Nat → Int64) (nw : Nat) (p o d : Int32) (σ : Nat → Nat → Int32) : Nat → Nat → Nat → Int32
  | 0 => σ
  | i + 1 => asn τ nw p o d (asx τ nw p o d σ i) i
def AskI (σ : Nat → Nat → Int32) (nr nw i : Nat) : Prop := InvR σ nr ∧ σ 0 4 = nI nw ∧ ∃ c, c ≤ i ∧ σ 0 10 = nI c
theorem asr_i {σ : Nat → Nat → Int32} {nr nw i r c : Nat} (h : InvR σ nr) (h4 : σ 0 4 = nI nw) (hc : σ 0 10 = nI c) (hi : c ≤ i) : AskI (asr σ r c) nr nw (i + 1) := by
  refine ⟨h.mono ?_ ?_ ?_, ?_, c + 1, by omega, ?_⟩
  · simp [asr, up2, va_up, show ¬ (4 = 9 + r) by omega]
  · funext j; simp [asr, up2, va_up, show ¬ (6 = 9 + r) by omega]
  · intro q hq
    by_cases hqr : q = r
    · subst hqr
      simp [asr, up2, va_up, upd, show ¬ (9 + q = 0) by omega, show ¬ (9 + q = 67) by omega]
    · simp [asr, up2, va_up, upd, show ¬ (9 + q = 0) by omega, show ¬ (9 + q = 67) by omega, hqr]
  · simp [asr, up2, va_up, upd, show ¬ (0 = 9 + r) by omega]; exact h4
  · simp [asr, up2, va_up, upd, show ¬ (0 = 9 + r) by omega, hc]; exact nI_1 c
theorem rfS_i {σ : Nat → Nat → Int32} {nr nw i r k : Nat} (h : AskI σ nr nw i) : AskI (rfS σ r k) nr nw i := by
  obtain ⟨h1, h2, c, h3, h4⟩ := h
  refine ⟨h1.mono (by rw [rfS_c (by decide)]) (rfS_c (by decide)) (fun q hq => by rw [rfS_c (by omega)]; exact ⟨rfl, rfl⟩), by rw [rfS_c (by decide)]; exact h2, c, h3, by rw [rfS_c (by decide)]; exact h4⟩
theorem asn_i {σ : Nat → Nat → Int32} {τ : Nat → Nat → Int64} {nr nw i : Nat} {p o d : Int32} (hi : i < 2 ^ 31) (h : AskI σ nr nw i) : AskI (asn τ nw p o d σ i) nr nw (i + 1) := by
  have up : ∀ σ1, AskI σ1 nr nw i → AskI σ1 nr nw (i + 1) := fun σ1 ⟨a, b, c, d, e⟩ => ⟨a, b, c, by omega, e⟩
  unfold asn
  split
  · exact up _ h
  · split
    · obtain ⟨a1, a2, c, a3, a4⟩ := rfS_i (r := (σ 6 i).toNatClampNeg) (k := (σ (9 + (σ 6 i).toNatClampNeg) 1).toNatClampNeg) h
      have e2 : σ 0 10 = nI c := by rw [← a4, rfS_c (by decide)]
      rw [show (σ 0 10).toNatClampNeg = c by rw [e2]; exact nI_clamp (by omega)]
      exact asr_i a1 a2 a4 a3
    · exact up _ (rfS_i h)
theorem asx_i {σ : Nat → Nat → Int32} {τ : Nat → Nat → Int64} {nr nw : Nat} {p o d : Int32} (h : AskI σ nr nw 0) : ∀ i, i < 2 ^ 31 → AskI (asx τ nw p o d σ i) nr nw i
  | 0, _ => h
  | i + 1, hi => asn_i (by omega) (asx_i h i (by omega))
theorem gst_c {σ : Nat → Nat → Int32} {τ : Nat → Nat → Int64} {u : Nat} {p : Int32} {k : Nat} (hk : k ≠ 62) : ∀ v, (gst σ τ u p v).1 k = σ k
  | 0 => rfl
  | v + 1 => by
    unfold gst
    split
    · show va_up (gst σ τ u p v).1 62 _ k = σ k
      rw [va_up, if_neg hk]
      exact gst_c hk v
    · exact gst_c hk v
set_option maxHeartbeats 4000000 in
set_option maxRecDepth 100000 in
theorem k_PR_ask (l : Launch) (G : gP) (ad : Nat → Nat) (σ : Nat → Nat → Int32) (τ : Nat → Nat → Int64) (u i : Nat) (hi : i < 12) (d : Int32) (nu : Nat) (hnu : σ 0 2 = nI nu) (hn4 : nu ≤ 40) (hu : u < nu) (nr nw : Nat) (hIR : InvR σ nr) (hnw : σ 0 4 = nI nw) (hw2 : nw ≤ 20) : gim l y_PR_ask c_PR_ask 8 (some .int) { frames := 5, cells := 0, slots := 0, locals := 114 } G ad σ τ [.ref (ad 0), .int (nI u), .int (nI i), .int d] 0 0 (fun v σ1 τ1 => v = some (.int (if (asx (gst (va_up σ 62 (qbf σ i u d)) (qbt σ τ u) u (nI i) nu).2 nw (nI i) (σ (80 + u) 2) d (up2 (gst (va_up σ 62 (qbf σ i u d)) (qbt σ τ u) u (nI i) nu).1 0 10 0) nr) 0 10 = 0 then 0 else (asx (gst (va_up σ 62 (qbf σ i u d)) (qbt σ τ u) u (nI i) nu).2 nw (nI i) (σ (80 + u) 2) d (up2 (gst (va_up σ 62 (qbf σ i u d)) (qbt σ τ u) u (nI i) nu).1 0 10 0) nr) 67 0 + 1)) ∧ σ1 = asx (gst (va_up σ 62 (qbf σ i u d)) (qbt σ τ u) u (nI i) nu).2 nw (nI i) (σ (80 + u) 2) d (up2 (gst (va_up σ 62 (qbf σ i u d)) (qbt σ τ u) u (nI i) nu).1 0 10 0) nr ∧ τ1 = (gst (va_up σ 62 (qbf σ i u d)) (qbt σ τ u) u (nI i) nu).2) (fun _ => False) := by
  refine gs_of (fun _ h => h) (by decide) (Nat.le_of_ble_eq_true rfl) ?_
  intro p e s m args below meth c ls S hk hr hx hl hO
  have hl : lv_has ls 8 [(0, .ref (ad 0)), (1, .int (nI u)), (2, .int (nI i)), (3, .int d)] := hl
  have hI0 : AskI (up2 (gst (va_up σ 62 (qbf σ i u d)) (qbt σ τ u) u (nI i) nu).1 0 10 0) nr nw 0 := ⟨hIR.mono (by simp [up2, va_up, gst_c]) (by funext z; simp [up2, va_up, gst_c]) (fun q hq => by simp [up2, va_up, gst_c (show 9 + q ≠ 62 by omega), show ¬ (9 + q = 0) by omega, show ¬ (9 + q = 62) by omega]), by simp [up2, va_up, upd, gst_c]; exact hnw, 0, by omega, by simp [up2, va_up, upd]; rfl⟩
  refine lv_aload_n S.1 S.2.1 d_PR_ask_0 rfl (lv_at hl 0 rfl) ?_
  refine lv_iload_n S.1 S.2.1 d_PR_ask_1 rfl (lv_at hl 1 rfl) ?_
  refine lv_iload_n S.1 S.2.1 d_PR_ask_2 rfl (lv_at hl 2 rfl) ?_
  refine lv_iload_n S.1 S.2.1 d_PR_ask_3 rfl (lv_at hl 3 rfl) ?_
  refine g_VI (As := [.int (nI u), .int (nI i), .int d]) (rest := []) S hO (fun _ h => h) (k_PR_gather l G ad σ τ u i hi d nu hnu hn4 hu) cw_PR_266 (by decide) (sh_0 G ad _ _) rfl rfl hl.1 (Nat.le_of_ble_eq_true rfl) ⟨(Nat.le_of_ble_eq_true rfl), (Nat.le_of_ble_eq_true rfl)⟩ ⟨(Nat.le_of_ble_eq_true rfl), (Nat.le_of_ble_eq_true rfl)⟩ d_PR_ask_4 (fun q x ce H locs h9 => h9.elim) (fun v E1 H locs v_1 hO => ?_)
  obtain ⟨s_2, tg, rfl, rfl, hs_2, htg⟩ := v_1
  refine W.eq (g2 := F0 m 7 ls []) rfl ?_
  refine lv_aload_n S.1 S.2.1 d_PR_ask_7 rfl (lv_at hl 0 rfl) ?_
  refine g_get S hO fl_PR_17 (by decide) (sh_0 G ad _ _) (v := .ref (ad 2)) rfl d_PR_ask_8 ?_
  refine lv_iload_n S.1 S.2.1 d_PR_ask_11 rfl (lv_at hl 1 rfl) ?_
  refine g_aal S hO (t0 := 4) (by decide) (sh_2 G ad _ _) rfl (vp_in_nI (show u < 40 by omega) (by decide)) (v := .ref (ad (80 + u))) (by rw [nI_clamp (by omega)]; rfl) d_PR_ask_12 ?_
  refine g_get S hO fl_PR_106 (by omega) (sh_UN G ad _ _ (by omega)) (v := .int (s_2 (80 + u) 2)) rfl d_PR_ask_13 ?_
  refine W.eq (g2 := F0 m 16 ls [.int (σ (80 + u) 2)]) (by rw [hs_2, gst_c (by omega), va_up, if_neg (by omega)]) ?_
  refine lv_istore (lv' := [(4, .int (σ (80 + u) 2)), (0, .ref (ad 0)), (1, .int (nI u)), (2, .int (nI i)), (3, .int d)]) S.1 S.2.1 d_PR_ask_16 hl (by decide) rfl (fun ls hl => ?_)
  refine lv_aload_n S.1 S.2.1 d_PR_ask_18 rfl (lv_at hl 1 rfl) ?_
  refine lv_iconst (v := 0) S.1 S.2.1 d_PR_ask_19 (by decide) ?_
  obtain ⟨s_3, hs_3⟩ : ∃ z : Nat → Nat → Int32, z = up2 s_2 0 10 0 := ⟨_, rfl⟩
  refine g_put S hO (fun _ h => h) fp_PR_233 (by decide) (sh_0 G ad _ _) (v := .int 0) rfl rfl (Nat.le_of_ble_eq_true rfl) (E2 := enc G ad s_3 tg) (by rw [hs_3]; exact enc_i (sh_0 G ad _ _)) d_PR_ask_20 (fun H locs hO => ?_)
  refine lv_iconst (v := 0) S.1 S.2.1 d_PR_ask_23 (by decide) ?_
  refine lv_istore (lv' := [(5, .int 0), (4, .int (σ (80 + u) 2)), (0, .ref (ad 0)), (1, .int (nI u)), (2, .int (nI i)), (3, .int d)]) S.1 S.2.1 d_PR_ask_24 hl (by decide) rfl (fun ls hl => ?_)
  have K_26 : ∀ (n9 : Nat) (j : Nat) (s9 : Nat → Nat → Int32), nr - j < n9 → (j ≤ nr) → (s9 = asx (gst (va_up σ 62 (qbf σ i u d)) (qbt σ τ u) u (nI i) nu).2 nw (nI i) (σ (80 + u) 2) d (up2 (gst (va_up σ 62 (qbf σ i u d)) (qbt σ τ u) u (nI i) nu).1 0 10 0) j) → ∀ (H : Heap) (locs : List Loc), gO G (gA G) 159 ad (enc G ad s9 tg) s H locs → ∀ ls : Array Slot, lv_has ls 8 [(5, .int (nI j)), (0, .ref (ad 0)), (1, .int (nI u)), (2, .int (nI i)), (3, .int d), (4, .int (σ (80 + u) 2))] → W p l e { frames := 5, cells := 0, slots := 0, locals := 114 } s m args below meth c H locs 0 0 (gM below (gA G) 0 0 (fun v t => ∃ E1, (∃ σ1 τ1, E1 = enc G ad σ1 τ1 ∧ (fun v σ1 τ1 => v = some (.int (if (asx (gst (va_up σ 62 (qbf σ i u d)) (qbt σ τ u) u (nI i) nu).2 nw (nI i) (σ (80 + u) 2) d (up2 (gst (va_up σ 62 (qbf σ i u d)) (qbt σ τ u) u (nI i) nu).1 0 10 0) nr) 0 10 = 0 then 0 else (asx (gst (va_up σ 62 (qbf σ i u d)) (qbt σ τ u) u (nI i) nu).2 nw (nI i) (σ (80 + u) 2) d (up2 (gst (va_up σ 62 (qbf σ i u d)) (qbt σ τ u) u (nI i) nu).1 0 10 0) nr) 67 0 + 1)) ∧ σ1 = asx (gst (va_up σ 62 (qbf σ i u d)) (qbt σ τ u) u (nI i) nu).2 nw (nI i) (σ (80 + u) 2) d (up2 (gst (va_up σ 62 (qbf σ i u d)) (qbt σ τ u) u (nI i) nu).1 0 10 0) nr ∧ τ1 = (gst (va_up σ 62 (qbf σ i u d)) (qbt σ τ u) u (nI i) nu).2) v σ1 τ1) ∧ va_P G.1 gcl (gw 159 ad E1) t.heap) (fun x t => (fun _ => False) x ∧ va_P G.1 gcl (gw 159 ad (enc G ad σ τ)) t.heap) args s) (F0 m 26 ls []) := by
    intro n9
    induction n9 with
    | zero =>
      intro j s9 hn9 hj hs9 H locs hO ls hl
      exact absurd hn9 (Nat.not_lt_zero _)
    | succ n9 ih_26 =>
      intro j s9 hn9 hj hs9 H locs hO ls hl
      have hI9 : AskI s9 nr nw j := by rw [hs9]; exact asx_i hI0 j (by have := hIR.2.1; omega)
      have hr9 : s9 4 2 = nI nr := hI9.1.1
      obtain ⟨c, hcj, hc⟩ := hI9.2.2
      refine lv_iload S.1 S.2.1 d_PR_ask_26 (lv_at hl 0 rfl) ?_
      refine lv_aload_n S.1 S.2.1 d_PR_ask_28 rfl (lv_at hl 1 rfl) ?_
      refine g_get S hO fl_PR_30 (by decide) (sh_0 G ad _ _) (v := .ref (ad 4)) rfl d_PR_ask_29 ?_
      refine g_get S hO fl_PR_191 (by decide) (sh_4 G ad _ _) (v := .int (s9 4 2)) rfl d_PR_ask_32 ?_
      refine lv_icmp_ge (tgt := 124) S.1 S.2.1 d_PR_ask_35 (by decide) (fun c_35 => ?_) (fun c_35 => ?_)
      · skip
        have hw : j = nr := by have h9 := ge_nI hr9 rfl (by have := hI9.1.2.1; omega) (by have := hI9.1.2.1; omega) c_35; omega
        refine lv_aload_n S.1 S.2.1 d_PR_ask_124 rfl (lv_at hl 1 rfl) ?_
        refine g_get S hO fl_PR_233 (by decide) (sh_0 G ad _ _) (v := .int (s9 0 10)) rfl d_PR_ask_125 ?_
        refine lv_if_ne (tgt := 135) S.1 S.2.1 d_PR_ask_128 (by decide) (fun c_128 => ?_) (fun c_128 => ?_)
        · skip
          refine lv_aload_n S.1 S.2.1 d_PR_ask_135 rfl (lv_at hl 1 rfl) ?_
          refine g_get S hO fl_PR_55 (by decide) (sh_0 G ad _ _) (v := .ref (ad 67)) rfl d_PR_ask_136 ?_
          refine lv_iconst (v := 0) S.1 S.2.1 d_PR_ask_139 (by decide) ?_
          refine g_ial S hO (by decide) (sh_67 G ad _ _) (vp_in_nI (n := 0) (by decide) (by decide)) d_PR_ask_140 ?_
          refine W.eq (g2 := F0 m 141 ls [.int (s9 67 0)]) (by rw [show (0 : Int32).toNatClampNeg = 0 by decide]) ?_
          refine lv_iconst (v := 1) S.1 S.2.1 d_PR_ask_141 (by decide) ?_
          refine lv_iadd S.1 S.2.1 d_PR_ask_142 ?_
          subst htg
          exact im_i S hk hr hO ⟨(by rw [← hw, ← hs9]; first | exact congrArg (fun z => some (Value.int z)) (if_pos c_128).symm | exact congrArg (fun z => some (Value.int z)) (if_neg c_128).symm), by rw [hs9, hw], by first | rfl | assumption⟩ (Nat.le_of_ble_eq_true rfl) (Nat.le_of_ble_eq_true rfl) d_PR_ask_143
        · skip
          refine lv_iconst (v := 0) S.1 S.2.1 d_PR_ask_131 (by decide) ?_
          refine lv_goto (tgt := 143) S.1 S.2.1 d_PR_ask_132 (by decide) ?_
          subst htg
          exact im_i S hk hr hO ⟨(by rw [← hw, ← hs9]; first | exact congrArg (fun z => some (Value.int z)) (if_pos c_128).symm | exact congrArg (fun z => some (Value.int z)) (if_neg c_128).symm), by rw [hs9, hw], by first | rfl | assumption⟩ (Nat.le_of_ble_eq_true rfl) (Nat.le_of_ble_eq_true rfl) d_PR_ask_143
      · skip
        have hw : j < nr := ngt_nI hr9 rfl (by have := hI9.1.2.1; omega) (by have := hI9.1.2.1; omega) c_35
        have hr24 := hI9.1.2.1
        refine lv_aload_n S.1 S.2.1 d_PR_ask_38 rfl (lv_at hl 1 rfl) ?_
        refine g_get S hO fl_PR_30 (by decide) (sh_0 G ad _ _) (v := .ref (ad 4)) rfl d_PR_ask_39 ?_
        refine g_get S hO fl_PR_269 (by decide) (sh_4 G ad _ _) (v := .ref (ad 6)) rfl d_PR_ask_42 ?_
        refine lv_iload S.1 S.2.1 d_PR_ask_45 (lv_at hl 0 rfl) ?_
        refine g_ial S hO (by decide) (sh_6 G ad _ _) (vp_in_nI (show j < 24 by omega) (by decide)) d_PR_ask_47 ?_
        refine W.eq (g2 := F0 m 48 ls [.int (s9 6 j)]) (by rw [nI_clamp (by omega)]) ?_
        obtain ⟨q, hq, hq6⟩ := hI9.1.2.2.1 j hw
        obtain ⟨k, hk11, hk9, hown⟩ := hI9.1.2.2.2 q (by omega)
        refine W.eq (g2 := F0 m 48 ls [.int (nI q)]) (by rw [hq6]) ?_
        refine lv_istore (lv' := [(6, .int (nI q)), (5, .int (nI j)), (0, .ref (ad 0)), (1, .int (nI u)), (2, .int (nI i)), (3, .int d), (4, .int (σ (80 + u) 2))]) S.1 S.2.1 d_PR_ask_48 hl (by decide) rfl (fun ls hl => ?_)
        refine lv_aload_n S.1 S.2.1 d_PR_ask_50 rfl (lv_at hl 2 rfl) ?_
        refine g_get S hO fl_PR_30 (by decide) (sh_0 G ad _ _) (v := .ref (ad 4)) rfl d_PR_ask_51 ?_
        refine g_get S hO fl_PR_272 (by decide) (sh_4 G ad _ _) (v := .ref (ad 5)) rfl d_PR_ask_54 ?_
        refine lv_iload S.1 S.2.1 d_PR_ask_57 (lv_at hl 0 rfl) ?_
        refine g_aal S hO (t0 := 6) (by decide) (sh_5 G ad _ _) rfl (vp_in_nI (show q < 24 by omega) (by decide)) (v := .ref (ad (9 + q))) (by rw [nI_clamp (by omega)]; rfl) d_PR_ask_59 ?_
        refine lv_astore (lv' := [(7, .ref (ad (9 + q))), (6, .int (nI q)), (5, .int (nI j)), (0, .ref (ad 0)), (1, .int (nI u)), (2, .int (nI i)), (3, .int d), (4, .int (σ (80 + u) 2))]) S.1 S.2.1 d_PR_ask_60 hl (by decide) rfl (fun ls hl => ?_)
        refine lv_aload_n S.1 S.2.1 d_PR_ask_62 rfl (lv_at hl 3 rfl) ?_
        refine lv_iload S.1 S.2.1 d_PR_ask_63 (lv_at hl 1 rfl) ?_
        refine lv_iload_n S.1 S.2.1 d_PR_ask_65 rfl (lv_at hl 5 rfl) ?_
        refine lv_iload S.1 S.2.1 d_PR_ask_66 (lv_at hl 7 rfl) ?_
        refine lv_iload_n S.1 S.2.1 d_PR_ask_68 rfl (lv_at hl 6 rfl) ?_
        refine g_VP (As := [.int (nI q), .int (nI i), .int (σ (80 + u) 2), .int d]) (rest := []) S hO (k_PR_isWaived l G ad s9 _ (nI q) (nI i) (σ (80 + u) 2) d nw hI9.2.1 hw2) cw_PR_275 (by decide) (sh_0 G ad _ _) rfl rfl hl.1 (Nat.le_of_ble_eq_true rfl) ⟨(Nat.le_of_ble_eq_true rfl), (Nat.le_of_ble_eq_true rfl)⟩ ⟨(Nat.le_of_ble_eq_true rfl), (Nat.le_of_ble_eq_true rfl)⟩ d_PR_ask_69 (fun q x ce H h9 => h9.elim) (fun v H v_4 hO => ?_)
        subst v_4
        refine W.eq (g2 := F0 m 72 ls [.int (if (lpf (wvB s9 (nI q) (nI i) (σ (80 + u) 2) d) nw 0).isSome = true then 1 else 0)]) rfl ?_
        refine lv_if_ne (tgt := 118) S.1 S.2.1 d_PR_ask_72 (by decide) (fun c_72 => ?_) (fun c_72 => ?_)
        · skip
          obtain ⟨x_5, ex_5⟩ : ∃ z : Int32, z = (nI j) + 1 := ⟨_, rfl⟩
          refine lv_iinc (v := x_5) (lv' := [(5, .int x_5), (7, .ref (ad (9 + q))), (6, .int (nI q)), (0, .ref (ad 0)), (1, .int (nI u)), (2, .int (nI i)), (3, .int d), (4, .int (σ (80 + u) 2))]) S.1 S.2.1 d_PR_ask_118 hl (k := 2) rfl (by rw [ex_5]; rfl) (by decide) rfl (fun ls hl => ?_)
          refine lv_goto (tgt := 26) S.1 S.2.1 d_PR_ask_121 (by decide) ?_
          obtain rfl : x_5 = nI (j + 1) := by rw [ex_5]; exact nI_1 j
          exact ih_26 (j + 1) s9 (by omega) (by omega) (by show s9 = asn _ _ _ _ _ _ _; rw [← hs9, asn, hq6, if_pos (z_1.mp c_72)]) _ _ hO ls (lv_sub hl [0, 3, 4, 5, 6, 7] rfl)
        · skip
          refine lv_aload S.1 S.2.1 d_PR_ask_75 (lv_at hl 0 rfl) ?_
          refine lv_aload_n S.1 S.2.1 d_PR_ask_77 rfl (lv_at hl 3 rfl) ?_
          refine g_get S hO fl_PR_51 (by decide) (sh_0 G ad _ _) (v := .ref (ad 62)) rfl d_PR_ask_78 ?_
          refine lv_aload_n S.1 S.2.1 d_PR_ask_81 rfl (lv_at hl 3 rfl) ?_
          refine g_get S hO fl_PR_37 (by decide) (sh_0 G ad _ _) (v := .ref (ad 33)) rfl d_PR_ask_82 ?_
          refine g_VI (As := [.ref (ad 62), .ref (ad 33)]) (rest := []) S hO (fun _ h => h) (k_RU_refuses l G ad s9 _ q (by omega) k hk11 hk9 hown) cw_PR_279 (by omega) (sh_RU G ad _ _ (by omega)) rfl rfl hl.1 (Nat.le_of_ble_eq_true rfl) ⟨(Nat.le_of_ble_eq_true rfl), (Nat.le_of_ble_eq_true rfl)⟩ ⟨(Nat.le_of_ble_eq_true rfl), (Nat.le_of_ble_eq_true rfl)⟩ d_PR_ask_85 (fun q x ce H locs h9 => h9.elim) (fun v E1 H locs v_6 hO => ?_)
          obtain ⟨sa, t_7, rfl, rfl, hsa, ht_7⟩ := v_6
          rw [ht_7] at hO
          refine W.eq (g2 := F0 m 88 ls [.int (if rfP s9 tg q k then 1 else 0)]) rfl ?_
          refine lv_if_eq (tgt := 118) S.1 S.2.1 d_PR_ask_88 (by decide) (fun c_88 => ?_) (fun c_88 => ?_)
          · skip
            obtain ⟨x_8, ex_8⟩ : ∃ z : Int32, z = (nI j) + 1 := ⟨_, rfl⟩
            refine lv_iinc (v := x_8) (lv' := [(5, .int x_8), (7, .ref (ad (9 + q))), (6, .int (nI q)), (0, .ref (ad 0)), (1, .int (nI u)), (2, .int (nI i)), (3, .int d), (4, .int (σ (80 + u) 2))]) S.1 S.2.1 d_PR_ask_118 hl (k := 2) rfl (by rw [ex_8]; rfl) (by decide) rfl (fun ls hl => ?_)
            refine lv_goto (tgt := 26) S.1 S.2.1 d_PR_ask_121 (by decide) ?_
            obtain rfl : x_8 = nI (j + 1) := by rw [ex_8]; exact nI_1 j
            exact ih_26 (j + 1) sa (by omega) (by omega) (by show sa = asn _ _ _ _ _ _ _; rw [← hs9, ← htg, asn, hq6, nI_clamp (show q < 2 ^ 31 by omega), hk9, nI_clamp (show k < 2 ^ 31 by omega), if_neg (z_0.mp c_72), if_neg (z_0.mp c_88)]; exact hsa) _ _ hO ls (lv_sub hl [0, 3, 4, 5, 6, 7] rfl)
          · skip
            refine lv_aload S.1 S.2.1 d_PR_ask_91 (lv_at hl 0 rfl) ?_
            refine lv_iconst (v := 1) S.1 S.2.1 d_PR_ask_93 (by decide) ?_
            obtain ⟨sb, hsb⟩ : ∃ z : Nat → Nat → Int32, z = up2 sa (9 + q) 4 1 := ⟨_, rfl⟩
            refine g_put S hO (fun _ h => h) fp_PR_283 (by omega) (sh_RU G ad _ _ (by omega)) (v := .int 1) rfl rfl (Nat.le_of_ble_eq_true rfl) (E2 := enc G ad sb tg) (by rw [hsb]; exact enc_i (sh_RU G ad _ _ (by omega))) d_PR_ask_94 (fun H locs hO => ?_)
            refine lv_aload_n S.1 S.2.1 d_PR_ask_97 rfl (lv_at hl 3 rfl) ?_
            refine g_get S hO fl_PR_55 (by decide) (sh_0 G ad _ _) (v := .ref (ad 67)) rfl d_PR_ask_98 ?_
            refine lv_aload_n S.1 S.2.1 d_PR_ask_101 rfl (lv_at hl 3 rfl) ?_
            refine g_get S hO fl_PR_233 (by decide) (sh_0 G ad _ _) (v := .int (sb 0 10)) rfl d_PR_ask_102 ?_
            refine lv_iload S.1 S.2.1 d_PR_ask_105 (lv_at hl 1 rfl) ?_
            have hc2 : sb 0 10 = nI c := by rw [hsb, up2_k (by omega), hsa, rfS_c (by decide)]; exact hc
            obtain ⟨sc, hsc⟩ : ∃ z : Nat → Nat → Int32, z = up2 sb 67 c (nI q) := ⟨_, rfl⟩
            refine g_ias S hO (fun _ h => h) (by decide) (sh_67 G ad _ _) (by rw [hc2]; exact vp_in_nI (show c < 24 by omega) (by decide)) (E2 := enc G ad sc tg) (by rw [hsc, hc2, nI_clamp (show c < 2 ^ 31 by omega)]; exact enc_i (sh_67 G ad _ _)) d_PR_ask_107 (fun H locs hO => ?_)
            refine lv_aload_n S.1 S.2.1 d_PR_ask_108 rfl (lv_at hl 3 rfl) ?_
            refine lv_dup S.1 S.2.1 d_PR_ask_109 rfl ?_
            refine g_get S hO fl_PR_233 (by decide) (sh_0 G ad _ _) (v := .int (sc 0 10)) rfl d_PR_ask_110 ?_
            refine lv_iconst (v := 1) S.1 S.2.1 d_PR_ask_113 (by decide) ?_
            refine lv_iadd S.1 S.2.1 d_PR_ask_114 ?_
            obtain ⟨sd, hsd⟩ : ∃ z : Nat → Nat → Int32, z = up2 sc 0 10 ((sc 0 10) + 1) := ⟨_, rfl⟩
            refine g_put S hO (fun _ h => h) fp_PR_233 (by decide) (sh_0 G ad _ _) (v := .int ((sc 0 10) + 1)) rfl rfl (Nat.le_of_ble_eq_true rfl) (E2 := enc G ad sd tg) (by rw [hsd]; exact enc_i (sh_0 G ad _ _)) d_PR_ask_115 (fun H locs hO => ?_)
            obtain ⟨x_9, ex_9⟩ : ∃ z : Int32, z = (nI j) + 1 := ⟨_, rfl⟩
            refine lv_iinc (v := x_9) (lv' := [(5, .int x_9), (7, .ref (ad (9 + q))), (6, .int (nI q)), (0, .ref (ad 0)), (1, .int (nI u)), (2, .int (nI i)), (3, .int d), (4, .int (σ (80 + u) 2))]) S.1 S.2.1 d_PR_ask_118 hl (k := 2) rfl (by rw [ex_9]; rfl) (by decide) rfl (fun ls hl => ?_)
            refine lv_goto (tgt := 26) S.1 S.2.1 d_PR_ask_121 (by decide) ?_
            obtain rfl : x_9 = nI (j + 1) := by rw [ex_9]; exact nI_1 j
            exact ih_26 (j + 1) sd (by omega) (by omega) (by show sd = asn _ _ _ _ _ _ _; rw [← hs9, ← htg, asn, hq6, nI_clamp (show q < 2 ^ 31 by omega), hk9, nI_clamp (show k < 2 ^ 31 by omega), if_neg (z_0.mp c_72), if_pos (z_1.mp c_88), hc, nI_clamp (show c < 2 ^ 31 by omega)]; rw [asr, hsd, hsc, hsb, hsa]) _ _ hO ls (lv_sub hl [0, 3, 4, 5, 6, 7] rfl)
  exact K_26 (nr + 1) 0 s_3 (by omega) (by omega) (by rw [hs_3, hs_2]; rfl) _ _ hO ls (lv_sub hl [0, 2, 3, 4, 5, 1] rfl)
