/-! Public methods over ask and the loops. Written by wip/tools/m26.py. -/
/-- the state behind a question, and its answer -/
def akS (σ : Nat → Nat → Int32) (τ : Nat → Nat → Int64) (u i : Nat) (d : Int32) (nu nr nw : Nat) : Nat → Nat → Int32 := asx (gst (va_up σ 62 (qbf σ i u d)) (qbt σ τ u) u (nI i) nu).2 nw (nI i) (σ (80 + u) 2) d (up2 (gst (va_up σ 62 (qbf σ i u d)) (qbt σ τ u) u (nI i) nu).1 0 10 0) nr
def akT (σ : Nat → Nat → Int32) (τ : Nat → Nat → Int64) (u i : Nat) (d : Int32) (nu : Nat) : Nat → Nat → Int64 := (gst (va_up σ 62 (qbf σ i u d)) (qbt σ τ u) u (nI i) nu).2
def akV (σ : Nat → Nat → Int32) (τ : Nat → Nat → Int64) (u i : Nat) (d : Int32) (nu nr nw : Nat) : Int32 := if akS σ τ u i d nu nr nw 0 10 = 0 then 0 else akS σ τ u i d nu nr nw 67 0 + 1
theorem k_PR_ask2 (l : Launch) (G : gP) (ad : Nat → Nat) (σ : Nat → Nat → Int32) (τ : Nat → Nat → Int64) (u i : Nat) (hi : i < 12) (d : Int32) (nu : Nat) (hnu : σ 0 2 = nI nu) (hn4 : nu ≤ 40) (hu : u < nu) (nr nw : Nat) (hIR : InvR σ nr) (hnw : σ 0 4 = nI nw) (hw2 : nw ≤ 20) : gim l y_PR_ask c_PR_ask 8 (some .int) { frames := 5, cells := 0, slots := 0, locals := 114 } G ad σ τ [.ref (ad 0), .int (nI u), .int (nI i), .int d] 0 0 (fun v σ1 τ1 => v = some (.int (akV σ τ u i d nu nr nw)) ∧ σ1 = akS σ τ u i d nu nr nw ∧ τ1 = akT σ τ u i d nu) (fun _ => False) := k_PR_ask l G ad σ τ u i hi d nu hnu hn4 hu nr nw hIR hnw hw2
set_option maxHeartbeats 4000000 in
set_option maxRecDepth 100000 in
theorem k_PR_may (l : Launch) (hst : l.stackTraces = false) (G : gP) (ad : Nat → Nat) (σ : Nat → Nat → Int32) (τ : Nat → Nat → Int64) (a b d : Int32) (nu : Nat) (hnu : σ 0 2 = nI nu) (hn4 : nu ≤ 40) (nr nw : Nat) (hIR : InvR σ nr) (hnw : σ 0 4 = nI nw) (hw2 : nw ≤ 20) : gim l y_PR_may c_PR_may 4 (some .int) { frames := 9, cells := 3, slots := 18, locals := 155 } G ad σ τ [.ref (ad 0), .int a, .int b, .int d] 3 18 (fun v σ1 τ1 => ((¬ a < 0 ∧ a < σ 0 2) ∧ gwi b 0 11 ∧ gwi d 0 1000) ∧ v = some (.int (akV σ τ a.toNatClampNeg b.toNatClampNeg d nu nr nw)) ∧ σ1 = akS σ τ a.toNatClampNeg b.toNatClampNeg d nu nr nw ∧ τ1 = akT σ τ a.toNatClampNeg b.toNatClampNeg d nu) (fun x => (x = "java/util/NoSuchElementException" ∧ ¬ (¬ a < 0 ∧ a < σ 0 2)) ∨ ((¬ a < 0 ∧ a < σ 0 2) ∧ x = "java/lang/IllegalArgumentException" ∧ ¬ (gwi b 0 11 ∧ gwi d 0 1000))) := by
  refine gs_of (fun _ h => h) (by decide) (Nat.le_of_ble_eq_true rfl) ?_
  intro p e s m args below meth c ls S hk hr hx hl hO
  have hl : lv_has ls 4 [(0, .ref (ad 0)), (1, .int a), (2, .int b), (3, .int d)] := hl
  refine lv_aload_n S.1 S.2.1 d_PR_may_0 rfl (lv_at hl 0 rfl) ?_
  refine lv_iload_n S.1 S.2.1 d_PR_may_1 rfl (lv_at hl 1 rfl) ?_
  refine lv_iload_n S.1 S.2.1 d_PR_may_2 rfl (lv_at hl 2 rfl) ?_
  refine lv_iload_n S.1 S.2.1 d_PR_may_3 rfl (lv_at hl 3 rfl) ?_
  refine g_VP (As := [.int a, .int b, .int d]) (rest := []) S hO (k_PR_needQuestion l hst G ad σ τ a b d) cw_PR_224 (by decide) (sh_0 G ad _ _) rfl rfl hl.1 (Nat.le_of_ble_eq_true rfl) ⟨(Nat.le_of_ble_eq_true rfl), (Nat.le_of_ble_eq_true rfl)⟩ ⟨(Nat.le_of_ble_eq_true rfl), (Nat.le_of_ble_eq_true rfl)⟩ d_PR_may_4 (fun q x ce H h9 hO hce hcv hcl => im_x hx hk hO hce hcv hcl h9 (Nat.le_of_ble_eq_true rfl) (Nat.le_of_ble_eq_true rfl)) (fun v H v_1 hO => ?_)
  obtain ⟨rfl, h_4⟩ := v_1
  refine W.eq (g2 := F0 m 7 ls []) rfl ?_
  obtain ⟨u, hu, rfl⟩ := uni_n hnu (by omega) h_4.1
  obtain ⟨i, hi, rfl⟩ := gwi_n (n := 11) (by decide) h_4.2.1
  refine lv_aload_n S.1 S.2.1 d_PR_may_7 rfl (lv_at hl 0 rfl) ?_
  refine lv_iload_n S.1 S.2.1 d_PR_may_8 rfl (lv_at hl 1 rfl) ?_
  refine lv_iload_n S.1 S.2.1 d_PR_may_9 rfl (lv_at hl 2 rfl) ?_
  refine lv_iload_n S.1 S.2.1 d_PR_may_10 rfl (lv_at hl 3 rfl) ?_
  refine g_VI (As := [.int (nI u), .int (nI i), .int d]) (rest := []) S hO (fun _ h => h) (k_PR_ask2 l G ad σ τ u i hi d nu hnu hn4 hu nr nw hIR hnw hw2) cw_PR_227 (by decide) (sh_0 G ad _ _) rfl rfl hl.1 (Nat.le_of_ble_eq_true rfl) ⟨(Nat.le_of_ble_eq_true rfl), (Nat.le_of_ble_eq_true rfl)⟩ ⟨(Nat.le_of_ble_eq_true rfl), (Nat.le_of_ble_eq_true rfl)⟩ d_PR_may_11 (fun q x ce H locs h9 => h9.elim) (fun v E1 H locs v_2 hO => ?_)
  obtain ⟨s_3, t_4, rfl, rfl, hs_3, ht_4⟩ := v_2
  refine W.eq (g2 := F0 m 14 ls [.int (akV σ τ u i d nu nr nw)]) rfl ?_
  subst hs_3
  subst ht_4
  exact im_i S hk hr hO ⟨h_4, by rw [nI_clamp (by omega), nI_clamp (by omega)], by rw [nI_clamp (by omega), nI_clamp (by omega)], by rw [nI_clamp (by omega), nI_clamp (by omega)]⟩ (Nat.le_of_ble_eq_true rfl) (Nat.le_of_ble_eq_true rfl) d_PR_may_14
set_option maxHeartbeats 4000000 in
set_option maxRecDepth 100000 in
theorem k_PR_put (l : Launch) (hst : l.stackTraces = false) (G : gP) (ad : Nat → Nat) (σ : Nat → Nat → Int32) (τ : Nat → Nat → Int64) (a b d : Int32) (nu : Nat) (hnu : σ 0 2 = nI nu) (hn4 : nu ≤ 40) (nr nw : Nat) (hIR : InvR σ nr) (hnw : σ 0 4 = nI nw) (hw2 : nw ≤ 20) : gim l y_PR_put c_PR_put 5 (some .int) { frames := 9, cells := 4, slots := 24, locals := 155 } G ad σ τ [.ref (ad 0), .int a, .int b, .int d] 4 24 (fun v σ1 τ1 => ((¬ a < 0 ∧ a < σ 0 2) ∧ gwi b 0 11 ∧ gwi d 0 1000) ∧ ¬ σ (80 + a.toNatClampNeg) 10 = b ∧ v = some (.int (akV σ τ a.toNatClampNeg b.toNatClampNeg d nu nr nw)) ∧ σ1 = (if akV σ τ a.toNatClampNeg b.toNatClampNeg d nu nr nw = 0 then up2 (akS σ τ a.toNatClampNeg b.toNatClampNeg d nu nr nw) (80 + a.toNatClampNeg) 10 b else akS σ τ a.toNatClampNeg b.toNatClampNeg d nu nr nw) ∧ τ1 = akT σ τ a.toNatClampNeg b.toNatClampNeg d nu) (fun x => ((x = "java/util/NoSuchElementException" ∧ ¬ (¬ a < 0 ∧ a < σ 0 2)) ∨ ((¬ a < 0 ∧ a < σ 0 2) ∧ x = "java/lang/IllegalArgumentException" ∧ ¬ (gwi b 0 11 ∧ gwi d 0 1000))) ∨ (((¬ a < 0 ∧ a < σ 0 2) ∧ gwi b 0 11 ∧ gwi d 0 1000) ∧ x = "java/lang/IllegalStateException" ∧ σ (80 + a.toNatClampNeg) 10 = b)) := by
  refine gs_of (fun _ h => h) (by decide) (Nat.le_of_ble_eq_true rfl) ?_
  intro p e s m args below meth c ls S hk hr hx hl hO
  have hl : lv_has ls 5 [(0, .ref (ad 0)), (1, .int a), (2, .int b), (3, .int d)] := hl
  refine lv_aload_n S.1 S.2.1 d_PR_put_0 rfl (lv_at hl 0 rfl) ?_
  refine lv_iload_n S.1 S.2.1 d_PR_put_1 rfl (lv_at hl 1 rfl) ?_
  refine lv_iload_n S.1 S.2.1 d_PR_put_2 rfl (lv_at hl 2 rfl) ?_
  refine lv_iload_n S.1 S.2.1 d_PR_put_3 rfl (lv_at hl 3 rfl) ?_
  refine g_VP (As := [.int a, .int b, .int d]) (rest := []) S hO (k_PR_needQuestion l hst G ad σ τ a b d) cw_PR_224 (by decide) (sh_0 G ad _ _) rfl rfl hl.1 (Nat.le_of_ble_eq_true rfl) ⟨(Nat.le_of_ble_eq_true rfl), (Nat.le_of_ble_eq_true rfl)⟩ ⟨(Nat.le_of_ble_eq_true rfl), (Nat.le_of_ble_eq_true rfl)⟩ d_PR_put_4 (fun q x ce H h9 hO hce hcv hcl => im_x hx hk hO hce hcv hcl (Or.inl h9) (Nat.le_of_ble_eq_true rfl) (Nat.le_of_ble_eq_true rfl)) (fun v H v_1 hO => ?_)
  obtain ⟨rfl, h_4⟩ := v_1
  refine W.eq (g2 := F0 m 7 ls []) rfl ?_
  obtain ⟨u, hu, rfl⟩ := uni_n hnu (by omega) h_4.1
  obtain ⟨i, hi, rfl⟩ := gwi_n (n := 11) (by decide) h_4.2.1
  refine lv_aload_n S.1 S.2.1 d_PR_put_7 rfl (lv_at hl 0 rfl) ?_
  refine g_get S hO fl_PR_17 (by decide) (sh_0 G ad _ _) (v := .ref (ad 2)) rfl d_PR_put_8 ?_
  refine lv_iload_n S.1 S.2.1 d_PR_put_11 rfl (lv_at hl 1 rfl) ?_
  refine g_aal S hO (t0 := 4) (by decide) (sh_2 G ad _ _) rfl (vp_in_nI (show u < 40 by omega) (by decide)) (v := .ref (ad (80 + u))) (by rw [nI_clamp (by omega)]; rfl) d_PR_put_12 ?_
  refine g_get S hO fl_PR_236 (by omega) (sh_UN G ad _ _ (by omega)) (v := .int (σ (80 + u) 10)) rfl d_PR_put_13 ?_
  refine lv_iload_n S.1 S.2.1 d_PR_put_16 rfl (lv_at hl 2 rfl) ?_
  refine lv_icmp_ne (tgt := 30) S.1 S.2.1 d_PR_put_17 (by decide) (fun c_17 => ?_) (fun c_17 => ?_)
  · skip
    refine lv_aload_n S.1 S.2.1 d_PR_put_30 rfl (lv_at hl 0 rfl) ?_
    refine lv_iload_n S.1 S.2.1 d_PR_put_31 rfl (lv_at hl 1 rfl) ?_
    refine lv_iload_n S.1 S.2.1 d_PR_put_32 rfl (lv_at hl 2 rfl) ?_
    refine lv_iload_n S.1 S.2.1 d_PR_put_33 rfl (lv_at hl 3 rfl) ?_
    refine g_VI (As := [.int (nI u), .int (nI i), .int d]) (rest := []) S hO (fun _ h => h) (k_PR_ask2 l G ad σ τ u i hi d nu hnu hn4 hu nr nw hIR hnw hw2) cw_PR_227 (by decide) (sh_0 G ad _ _) rfl rfl hl.1 (Nat.le_of_ble_eq_true rfl) ⟨(Nat.le_of_ble_eq_true rfl), (Nat.le_of_ble_eq_true rfl)⟩ ⟨(Nat.le_of_ble_eq_true rfl), (Nat.le_of_ble_eq_true rfl)⟩ d_PR_put_34 (fun q x ce H locs h9 => h9.elim) (fun v E1 H locs v_2 hO => ?_)
    obtain ⟨s_3, t_4, rfl, rfl, hs_3, ht_4⟩ := v_2
    refine W.eq (g2 := F0 m 37 ls [.int (akV σ τ u i d nu nr nw)]) rfl ?_
    refine lv_istore (lv' := [(4, .int (akV σ τ u i d nu nr nw)), (0, .ref (ad 0)), (1, .int (nI u)), (2, .int (nI i)), (3, .int d)]) S.1 S.2.1 d_PR_put_37 hl (by decide) rfl (fun ls hl => ?_)
    refine lv_iload S.1 S.2.1 d_PR_put_39 (lv_at hl 0 rfl) ?_
    refine lv_if_ne (tgt := 54) S.1 S.2.1 d_PR_put_41 (by decide) (fun c_41 => ?_) (fun c_41 => ?_)
    · skip
      refine lv_iload S.1 S.2.1 d_PR_put_54 (lv_at hl 0 rfl) ?_
      subst hs_3
      subst ht_4
      exact im_i S hk hr hO ⟨h_4, by rw [nI_clamp (show u < 2 ^ 31 by omega)]; exact c_17, by rw [nI_clamp (show u < 2 ^ 31 by omega), nI_clamp (show i < 2 ^ 31 by omega)], by rw [nI_clamp (show u < 2 ^ 31 by omega), nI_clamp (show i < 2 ^ 31 by omega)]; first | rw [if_pos c_41] | rw [if_neg c_41], by rw [nI_clamp (show u < 2 ^ 31 by omega), nI_clamp (show i < 2 ^ 31 by omega)]⟩ (Nat.le_of_ble_eq_true rfl) (Nat.le_of_ble_eq_true rfl) d_PR_put_56
    · skip
      refine lv_aload_n S.1 S.2.1 d_PR_put_44 rfl (lv_at hl 1 rfl) ?_
      refine g_get S hO fl_PR_17 (by decide) (sh_0 G ad _ _) (v := .ref (ad 2)) rfl d_PR_put_45 ?_
      refine lv_iload_n S.1 S.2.1 d_PR_put_48 rfl (lv_at hl 2 rfl) ?_
      refine g_aal S hO (t0 := 4) (by decide) (sh_2 G ad _ _) rfl (vp_in_nI (show u < 40 by omega) (by decide)) (v := .ref (ad (80 + u))) (by rw [nI_clamp (by omega)]; rfl) d_PR_put_49 ?_
      refine lv_iload_n S.1 S.2.1 d_PR_put_50 rfl (lv_at hl 3 rfl) ?_
      obtain ⟨s_5, hs_5⟩ : ∃ z : Nat → Nat → Int32, z = up2 s_3 (80 + u) 10 (nI i) := ⟨_, rfl⟩
      refine g_put S hO (fun _ h => h) fp_PR_236 (by omega) (sh_UN G ad _ _ (by omega)) (v := .int (nI i)) rfl rfl (Nat.le_of_ble_eq_true rfl) (E2 := enc G ad s_5 t_4) (by rw [hs_5]; exact enc_i (sh_UN G ad _ _ (by omega))) d_PR_put_51 (fun H locs hO => ?_)
      refine lv_iload S.1 S.2.1 d_PR_put_54 (lv_at hl 0 rfl) ?_
      subst hs_5
      subst hs_3
      subst ht_4
      exact im_i S hk hr hO ⟨h_4, by rw [nI_clamp (show u < 2 ^ 31 by omega)]; exact c_17, by rw [nI_clamp (show u < 2 ^ 31 by omega), nI_clamp (show i < 2 ^ 31 by omega)], by rw [nI_clamp (show u < 2 ^ 31 by omega), nI_clamp (show i < 2 ^ 31 by omega)]; first | rw [if_pos c_41] | rw [if_neg c_41], by rw [nI_clamp (show u < 2 ^ 31 by omega), nI_clamp (show i < 2 ^ 31 by omega)]⟩ (Nat.le_of_ble_eq_true rfl) (Nat.le_of_ble_eq_true rfl) d_PR_put_56
  · skip
    exact g_throwN S hst hO xw_ISE (hO.2.2.2.2.2.2.2.2.1 4 (by decide)) hl.1 hx hk (Nat.le_of_ble_eq_true rfl) (Nat.le_of_ble_eq_true rfl) ⟨(Nat.le_of_ble_eq_true rfl), (Nat.le_of_ble_eq_true rfl)⟩ (Nat.le_of_ble_eq_true rfl) (Nat.le_of_ble_eq_true rfl) (fun t ht => ⟨Or.inr ⟨h_4, rfl, by rw [nI_clamp (by omega)]; exact c_17⟩, hO.2.1.kept (fun k q hk => ht q.1 ((hO.2.1 k q hk).lt))⟩) d_PR_put_20 d_PR_put_23 d_PR_put_24 d_PR_put_26 d_PR_put_29
set_option maxHeartbeats 4000000 in
set_option maxRecDepth 100000 in
theorem k_PR_turned (l : Launch) (hst : l.stackTraces = false) (G : gP) (ad : Nat → Nat) (σ : Nat → Nat → Int32) (τ : Nat → Nat → Int64) (a b : Int32) (nu : Nat) (hnu : σ 0 2 = nI nu) (hn4 : nu ≤ 40) : gpu l y_PR_turned c_PR_turned 3 (some .int) { frames := 8, cells := 2, slots := 12, locals := 132 } G ad σ τ [.ref (ad 0), .int a, .int b] 2 12 (fun v => ((¬ a < 0 ∧ a < σ 0 2) ∧ gwi b 0 11) ∧ v = some (.int (oI (lpf (fwB σ (68 + b.toNatClampNeg) (80 + a.toNatClampNeg)) 6 0)))) (fun x => (x = "java/util/NoSuchElementException" ∧ ¬ (¬ a < 0 ∧ a < σ 0 2)) ∨ ((¬ a < 0 ∧ a < σ 0 2) ∧ x = "java/lang/IllegalArgumentException" ∧ ¬ gwi b 0 11)) := by
  refine gs_of (fun _ h => h.elim) (by decide) (Nat.le_of_ble_eq_true rfl) ?_
  intro p e s m args below meth c ls S hk hr hx hl hO
  have hl : lv_has ls 3 [(0, .ref (ad 0)), (1, .int a), (2, .int b)] := hl
  refine lv_aload_n S.1 S.2.1 d_PR_turned_0 rfl (lv_at hl 0 rfl) ?_
  refine lv_iload_n S.1 S.2.1 d_PR_turned_1 rfl (lv_at hl 1 rfl) ?_
  refine g_VP (As := [.int a]) (rest := []) S hO (k_PR_needUnit l hst G ad σ τ a) cw_PR_109 (by decide) (sh_0 G ad _ _) rfl rfl hl.1 (Nat.le_of_ble_eq_true rfl) ⟨(Nat.le_of_ble_eq_true rfl), (Nat.le_of_ble_eq_true rfl)⟩ ⟨(Nat.le_of_ble_eq_true rfl), (Nat.le_of_ble_eq_true rfl)⟩ d_PR_turned_2 (fun q x ce H h9 hO hce hcv hcl => pu_x hx hk hO hce hcv hcl (Or.inl h9) (Nat.le_of_ble_eq_true rfl) (Nat.le_of_ble_eq_true rfl)) (fun v H v_1 hO => ?_)
  obtain ⟨rfl, h_2⟩ := v_1
  refine W.eq (g2 := F0 m 5 ls []) rfl ?_
  refine lv_iload_n S.1 S.2.1 d_PR_turned_5 rfl (lv_at hl 2 rfl) ?_
  refine g_SP (As := [.int b]) (rest := []) S hO (k_PR_needPlace l hst G ad σ τ b) cw_PR_62 g_cfC hl.1 (Nat.le_of_ble_eq_true rfl) ⟨(Nat.le_of_ble_eq_true rfl), (Nat.le_of_ble_eq_true rfl)⟩ ⟨(Nat.le_of_ble_eq_true rfl), (Nat.le_of_ble_eq_true rfl)⟩ d_PR_turned_6 (fun q x ce H h9 hO hce hcv hcl => pu_x hx hk hO hce hcv hcl (Or.inr ⟨h_2, h9⟩) (Nat.le_of_ble_eq_true rfl) (Nat.le_of_ble_eq_true rfl)) (fun v H v_2 hO => ?_)
  obtain ⟨rfl, h_6⟩ := v_2
  refine W.eq (g2 := F0 m 9 ls []) rfl ?_
  obtain ⟨u, hu, rfl⟩ := uni_n hnu (by omega) h_2
  obtain ⟨i, hi, rfl⟩ := gwi_n (n := 11) (by decide) h_6
  refine lv_aload_n S.1 S.2.1 d_PR_turned_9 rfl (lv_at hl 0 rfl) ?_
  refine g_get S hO fl_PR_11 (by decide) (sh_0 G ad _ _) (v := .ref (ad 1)) rfl d_PR_turned_10 ?_
  refine lv_iload_n S.1 S.2.1 d_PR_turned_13 rfl (lv_at hl 2 rfl) ?_
  refine g_aal S hO (t0 := 3) (by decide) (sh_1 G ad _ _) rfl (vp_in_nI hi (by decide)) (v := .ref (ad (68 + i))) (by rw [nI_clamp (by omega)]; rfl) d_PR_turned_14 ?_
  refine lv_aload_n S.1 S.2.1 d_PR_turned_15 rfl (lv_at hl 0 rfl) ?_
  refine g_get S hO fl_PR_17 (by decide) (sh_0 G ad _ _) (v := .ref (ad 2)) rfl d_PR_turned_16 ?_
  refine lv_iload_n S.1 S.2.1 d_PR_turned_19 rfl (lv_at hl 1 rfl) ?_
  refine g_aal S hO (t0 := 4) (by decide) (sh_2 G ad _ _) rfl (vp_in_nI (show u < 40 by omega) (by decide)) (v := .ref (ad (80 + u))) (by rw [nI_clamp (by omega)]; rfl) d_PR_turned_20 ?_
  refine g_VP (As := [.ref (ad (80 + u))]) (rest := []) S hO (k_PL_firstWayFor l G ad σ τ i (by omega) u (by omega)) cw_PR_244 (by omega) (sh_PL G ad _ _ (by omega)) rfl rfl hl.1 (Nat.le_of_ble_eq_true rfl) ⟨(Nat.le_of_ble_eq_true rfl), (Nat.le_of_ble_eq_true rfl)⟩ ⟨(Nat.le_of_ble_eq_true rfl), (Nat.le_of_ble_eq_true rfl)⟩ d_PR_turned_21 (fun q x ce H h9 => h9.elim) (fun v H v_3 hO => ?_)
  subst v_3
  refine W.eq (g2 := F0 m 24 ls [.int (oI (lpf (fwB σ (68 + i) (80 + u)) 6 0))]) rfl ?_
  exact pu_i S hk hr hO ⟨⟨h_2, h_6⟩, by rw [nI_clamp (by omega), nI_clamp (by omega)]⟩ (Nat.le_of_ble_eq_true rfl) (Nat.le_of_ble_eq_true rfl) d_PR_turned_24
set_option maxHeartbeats 4000000 in
set_option maxRecDepth 100000 in
theorem k_PR_never (l : Launch) (hst : l.stackTraces = false) (G : gP) (ad : Nat → Nat) (σ : Nat → Nat → Int32) (τ : Nat → Nat → Int64) (a : Int32) (nr : Nat) (hIR : InvR σ nr) : gpu l y_PR_never c_PR_never 2 (some .int) { frames := 7, cells := 1, slots := 6, locals := 110 } G ad σ τ [.ref (ad 0), .int a] 1 6 (fun v => ¬ a < 0 ∧ v = some (.int (oI (nthx (nvB σ) nr 0 a.toNatClampNeg)))) (fun x => x = "java/lang/IllegalArgumentException" ∧ a < 0) := by
  refine gs_of (fun _ h => h.elim) (by decide) (Nat.le_of_ble_eq_true rfl) ?_
  intro p e s m args below meth c ls S hk hr hx hl hO
  have hl : lv_has ls 2 [(0, .ref (ad 0)), (1, .int a)] := hl
  refine lv_iload_n S.1 S.2.1 d_PR_never_0 rfl (lv_at hl 1 rfl) ?_
  refine g_SP (As := [.int a]) (rest := []) S hO (k_PR_needIndex l hst G ad σ τ a) cw_PR_230 g_cfC hl.1 (Nat.le_of_ble_eq_true rfl) ⟨(Nat.le_of_ble_eq_true rfl), (Nat.le_of_ble_eq_true rfl)⟩ ⟨(Nat.le_of_ble_eq_true rfl), (Nat.le_of_ble_eq_true rfl)⟩ d_PR_never_1 (fun q x ce H h9 hO hce hcv hcl => pu_x hx hk hO hce hcv hcl h9 (Nat.le_of_ble_eq_true rfl) (Nat.le_of_ble_eq_true rfl)) (fun v H v_1 hO => ?_)
  obtain ⟨rfl, h_1⟩ := v_1
  refine W.eq (g2 := F0 m 4 ls []) rfl ?_
  obtain ⟨k, hk2, rfl⟩ := nI_of h_1
  refine lv_aload_n S.1 S.2.1 d_PR_never_4 rfl (lv_at hl 0 rfl) ?_
  refine g_get S hO fl_PR_30 (by decide) (sh_0 G ad _ _) (v := .ref (ad 4)) rfl d_PR_never_5 ?_
  refine lv_iload_n S.1 S.2.1 d_PR_never_8 rfl (lv_at hl 1 rfl) ?_
  refine g_VP (As := [.int (nI k)]) (rest := []) S hO (k_RB_neverRefused l G ad σ τ k hk2 nr hIR.1 hIR.2.1) cw_PR_248 (by decide) (sh_4 G ad _ _) rfl rfl hl.1 (Nat.le_of_ble_eq_true rfl) ⟨(Nat.le_of_ble_eq_true rfl), (Nat.le_of_ble_eq_true rfl)⟩ ⟨(Nat.le_of_ble_eq_true rfl), (Nat.le_of_ble_eq_true rfl)⟩ d_PR_never_9 (fun q x ce H h9 => h9.elim) (fun v H v_2 hO => ?_)
  subst v_2
  refine W.eq (g2 := F0 m 12 ls [.int (oI (nthx (nvB σ) nr 0 k))]) rfl ?_
  exact pu_i S hk hr hO ⟨h_1, by rw [nI_clamp (by omega)]⟩ (Nat.le_of_ble_eq_true rfl) (Nat.le_of_ble_eq_true rfl) d_PR_never_12
abbrev cnV (σ : Nat → Nat → Int32) (a : Int32) : Int32 := if a = 0 then σ 4 2 else if a = 1 then σ 0 2 else if a = 2 then σ 0 4 else if a = 3 then σ 4 5 else if a = 4 then σ 35 1 else if a = 5 then σ 33 1 else (-1)
set_option maxHeartbeats 4000000 in
set_option maxRecDepth 100000 in
theorem k_PR_count (l : Launch) (G : gP) (ad : Nat → Nat) (σ : Nat → Nat → Int32) (τ : Nat → Nat → Int64) (a : Int32) : gpu l y_PR_count c_PR_count 2 (some .int) { frames := 0, cells := 0, slots := 0, locals := 0 } G ad σ τ [.ref (ad 0), .int a] 0 0 (fun v => v = some (.int (cnV σ a))) (fun _ => False) := by
  refine gs_of (fun _ h => h.elim) (by decide) (Nat.le_of_ble_eq_true rfl) ?_
  intro p e s m args below meth c ls S hk hr hx hl hO
  have hl : lv_has ls 2 [(0, .ref (ad 0)), (1, .int a)] := hl
  refine lv_iload_n S.1 S.2.1 d_PR_count_0 rfl (lv_at hl 1 rfl) ?_
  by_cases w_1_0 : a = 0
  · refine W.eq (g2 := F0 m 1 ls [.int 0]) (by rw [w_1_0]) ?_
    refine lv_tableIn (tgt := 40) S.1 S.2.1 d_PR_count_1 (by decide) (by decide) rfl (by decide) ?_
    refine lv_aload_n S.1 S.2.1 d_PR_count_40 rfl (lv_at hl 0 rfl) ?_
    refine g_get S hO fl_PR_30 (by decide) (sh_0 G ad _ _) (v := .ref (ad 4)) rfl d_PR_count_41 ?_
    refine g_get S hO fl_PR_191 (by decide) (sh_4 G ad _ _) (v := .int (σ 4 2)) rfl d_PR_count_44 ?_
    exact pu_i S hk hr hO (by rw [cnV, if_pos w_1_0]) (Nat.le_of_ble_eq_true rfl) (Nat.le_of_ble_eq_true rfl) d_PR_count_47
  by_cases w_1_1 : a = 1
  · refine W.eq (g2 := F0 m 1 ls [.int 1]) (by rw [w_1_1]) ?_
    refine lv_tableIn (tgt := 48) S.1 S.2.1 d_PR_count_1 (by decide) (by decide) rfl (by decide) ?_
    refine lv_aload_n S.1 S.2.1 d_PR_count_48 rfl (lv_at hl 0 rfl) ?_
    refine g_get S hO fl_PR_90 (by decide) (sh_0 G ad _ _) (v := .int (σ 0 2)) rfl d_PR_count_49 ?_
    exact pu_i S hk hr hO (by rw [cnV, if_neg w_1_0, if_pos w_1_1]) (Nat.le_of_ble_eq_true rfl) (Nat.le_of_ble_eq_true rfl) d_PR_count_52
  by_cases w_1_2 : a = 2
  · refine W.eq (g2 := F0 m 1 ls [.int 2]) (by rw [w_1_2]) ?_
    refine lv_tableIn (tgt := 53) S.1 S.2.1 d_PR_count_1 (by decide) (by decide) rfl (by decide) ?_
    refine lv_aload_n S.1 S.2.1 d_PR_count_53 rfl (lv_at hl 0 rfl) ?_
    refine g_get S hO fl_PR_212 (by decide) (sh_0 G ad _ _) (v := .int (σ 0 4)) rfl d_PR_count_54 ?_
    exact pu_i S hk hr hO (by rw [cnV, if_neg w_1_0, if_neg w_1_1, if_pos w_1_2]) (Nat.le_of_ble_eq_true rfl) (Nat.le_of_ble_eq_true rfl) d_PR_count_57
  by_cases w_1_3 : a = 3
  · refine W.eq (g2 := F0 m 1 ls [.int 3]) (by rw [w_1_3]) ?_
    refine lv_tableIn (tgt := 58) S.1 S.2.1 d_PR_count_1 (by decide) (by decide) rfl (by decide) ?_
    refine lv_aload_n S.1 S.2.1 d_PR_count_58 rfl (lv_at hl 0 rfl) ?_
    refine g_get S hO fl_PR_30 (by decide) (sh_0 G ad _ _) (v := .ref (ad 4)) rfl d_PR_count_59 ?_
    refine g_get S hO fl_PR_251 (by decide) (sh_4 G ad _ _) (v := .int (σ 4 5)) rfl d_PR_count_62 ?_
    exact pu_i S hk hr hO (by rw [cnV, if_neg w_1_0, if_neg w_1_1, if_neg w_1_2, if_pos w_1_3]) (Nat.le_of_ble_eq_true rfl) (Nat.le_of_ble_eq_true rfl) d_PR_count_65
  by_cases w_1_4 : a = 4
  · refine W.eq (g2 := F0 m 1 ls [.int 4]) (by rw [w_1_4]) ?_
    refine lv_tableIn (tgt := 66) S.1 S.2.1 d_PR_count_1 (by decide) (by decide) rfl (by decide) ?_
    refine lv_aload_n S.1 S.2.1 d_PR_count_66 rfl (lv_at hl 0 rfl) ?_
    refine g_get S hO fl_PR_44 (by decide) (sh_0 G ad _ _) (v := .ref (ad 35)) rfl d_PR_count_67 ?_
    refine g_get S hO fl_PR_260 (by decide) (sh_35 G ad _ _) (v := .int (σ 35 1)) rfl d_PR_count_70 ?_
    exact pu_i S hk hr hO (by rw [cnV, if_neg w_1_0, if_neg w_1_1, if_neg w_1_2, if_neg w_1_3, if_pos w_1_4]) (Nat.le_of_ble_eq_true rfl) (Nat.le_of_ble_eq_true rfl) d_PR_count_73
  by_cases w_1_5 : a = 5
  · refine W.eq (g2 := F0 m 1 ls [.int 5]) (by rw [w_1_5]) ?_
    refine lv_tableIn (tgt := 74) S.1 S.2.1 d_PR_count_1 (by decide) (by decide) rfl (by decide) ?_
    refine lv_aload_n S.1 S.2.1 d_PR_count_74 rfl (lv_at hl 0 rfl) ?_
    refine g_get S hO fl_PR_37 (by decide) (sh_0 G ad _ _) (v := .ref (ad 33)) rfl d_PR_count_75 ?_
    refine g_get S hO fl_PR_263 (by decide) (sh_33 G ad _ _) (v := .int (σ 33 1)) rfl d_PR_count_78 ?_
    exact pu_i S hk hr hO (by rw [cnV, if_neg w_1_0, if_neg w_1_1, if_neg w_1_2, if_neg w_1_3, if_neg w_1_4, if_pos w_1_5]) (Nat.le_of_ble_eq_true rfl) (Nat.le_of_ble_eq_true rfl) d_PR_count_81
  refine lv_tableOut (tgt := 82) S.1 S.2.1 d_PR_count_1 (sw05 w_1_0 w_1_1 w_1_2 w_1_3 w_1_4 w_1_5) (by decide) ?_
  refine lv_iconst (v := (-1)) S.1 S.2.1 d_PR_count_82 (by decide) ?_
  exact pu_i S hk hr hO (by rw [cnV, if_neg w_1_0, if_neg w_1_1, if_neg w_1_2, if_neg w_1_3, if_neg w_1_4, if_neg w_1_5]) (Nat.le_of_ble_eq_true rfl) (Nat.le_of_ble_eq_true rfl) d_PR_count_83
theorem lpf_lt {b : Nat → Bool} : ∀ (f i j : Nat), lpf b f i = some j → j < i + f
  | 0, i, j, h => by simp [lpf] at h
  | f + 1, i, j, h => by
    unfold lpf at h
    split at h
    · cases h; omega
    · have := lpf_lt f (i + 1) j h; omega
theorem oI_n {o : Option Nat} (h : ∀ j, o = some j → j < 2 ^ 31) (h2 : ¬ oI o = (-1)) : ∃ j, o = some j := by
  cases o with
  | none => exact absurd rfl h2
  | some j => exact ⟨j, rfl⟩
theorem oI_m {o : Option Nat} (h : ∀ j, o = some j → j < 2 ^ 31) (h2 : oI o = (-1)) : o = none := by
  cases o with
  | none => rfl
  | some j =>
    exfalso
    have h3 : nI j = (-1) := h2
    exact nI_pos (h j rfl) (by rw [h3]; decide)
def exS (σ : Nat → Nat → Int32) (a b d f : Int32) (nw : Nat) : Nat → Nat → Int32 := match lpf (fvB σ a b d) nw 0 with
  | some j => up2 σ (120 + j) 3 (if σ (120 + j) 3 < f then f else σ (120 + j) 3)
  | none => up2 (up2 (up2 (up2 (up2 σ (120 + nw) 0 a) (120 + nw) 1 b) (120 + nw) 2 d) (120 + nw) 3 f) 0 4 ((up2 (up2 (up2 (up2 σ (120 + nw) 0 a) (120 + nw) 1 b) (120 + nw) 2 d) (120 + nw) 3 f) 0 4 + 1)
set_option maxHeartbeats 4000000 in
set_option maxRecDepth 100000 in
theorem k_PR_except (l : Launch) (hst : l.stackTraces = false) (G : gP) (ad : Nat → Nat) (σ : Nat → Nat → Int32) (τ : Nat → Nat → Int64) (a b d f : Int32) (nw : Nat) (hnw : σ 0 4 = nI nw) (hw2 : nw ≤ 20) : gim l y_PR_except c_PR_except 7 none { frames := 7, cells := 4, slots := 24, locals := 112 } G ad σ τ [.ref (ad 0), .int a, .int b, .int d, .int f] 4 24 (fun v σ1 τ1 => v = none ∧ (¬ a < 0 ∧ a < σ 4 2) ∧ (gwi b (-1) 11 ∧ gwi d (-1) 7 ∧ gwi f 0 1000) ∧ ((∃ j, lpf (fvB σ a b d) nw 0 = some j) ∨ σ 0 4 < 20) ∧ σ1 = exS σ a b d f nw ∧ τ1 = τ) (fun x => (x = "java/util/NoSuchElementException" ∧ ¬ (¬ a < 0 ∧ a < σ 4 2)) ∨ ((¬ a < 0 ∧ a < σ 4 2) ∧ x = "java/lang/IllegalArgumentException" ∧ ¬ (gwi b (-1) 11 ∧ gwi d (-1) 7 ∧ gwi f 0 1000)) ∨ ((¬ a < 0 ∧ a < σ 4 2) ∧ (gwi b (-1) 11 ∧ gwi d (-1) 7 ∧ gwi f 0 1000) ∧ x = "java/lang/UnsupportedOperationException" ∧ lpf (fvB σ a b d) nw 0 = none ∧ ¬ σ 0 4 < 20)) := by
  refine gs_of (fun _ h => h) (by decide) (Nat.le_of_ble_eq_true rfl) ?_
  intro p e s m args below meth c ls S hk hr hx hl hO
  have hl : lv_has ls 7 [(0, .ref (ad 0)), (1, .int a), (2, .int b), (3, .int d), (4, .int f)] := hl
  refine lv_iload_n S.1 S.2.1 d_PR_except_0 rfl (lv_at hl 1 rfl) ?_
  refine lv_if_lt (tgt := 15) S.1 S.2.1 d_PR_except_1 (by decide) (fun c_1 => ?_) (fun c_1 => ?_)
  · skip
    exact g_throwN S hst hO xw_NSE (hO.2.2.2.2.2.2.2.2.1 2 (by decide)) hl.1 hx hk (Nat.le_of_ble_eq_true rfl) (Nat.le_of_ble_eq_true rfl) ⟨(Nat.le_of_ble_eq_true rfl), (Nat.le_of_ble_eq_true rfl)⟩ (Nat.le_of_ble_eq_true rfl) (Nat.le_of_ble_eq_true rfl) (fun t ht => ⟨Or.inl ⟨rfl, by first | exact fun z => z.1 c_1 | exact fun z => c_12 z.2⟩, hO.2.1.kept (fun k q hk => ht q.1 ((hO.2.1 k q hk).lt))⟩) d_PR_except_15 d_PR_except_18 d_PR_except_19 d_PR_except_21 d_PR_except_24
  · skip
    refine lv_iload_n S.1 S.2.1 d_PR_except_4 rfl (lv_at hl 1 rfl) ?_
    refine lv_aload_n S.1 S.2.1 d_PR_except_5 rfl (lv_at hl 0 rfl) ?_
    refine g_get S hO fl_PR_30 (by decide) (sh_0 G ad _ _) (v := .ref (ad 4)) rfl d_PR_except_6 ?_
    refine g_get S hO fl_PR_191 (by decide) (sh_4 G ad _ _) (v := .int (σ 4 2)) rfl d_PR_except_9 ?_
    refine lv_icmp_lt (tgt := 25) S.1 S.2.1 d_PR_except_12 (by decide) (fun c_12 => ?_) (fun c_12 => ?_)
    · skip
      refine lv_iload_n S.1 S.2.1 d_PR_except_25 rfl (lv_at hl 2 rfl) ?_
      refine lv_iconst (v := (-1)) S.1 S.2.1 d_PR_except_26 (by decide) ?_
      refine lv_bipush (v := 11) S.1 S.2.1 d_PR_except_27 (by decide) ?_
      refine g_SP (As := [.int b, .int (-1), .int 11]) (rest := []) S hO (k_PR_needWithin l hst G ad σ τ b (-1) 11) cw_PR_81 g_cfC hl.1 (Nat.le_of_ble_eq_true rfl) ⟨(Nat.le_of_ble_eq_true rfl), (Nat.le_of_ble_eq_true rfl)⟩ ⟨(Nat.le_of_ble_eq_true rfl), (Nat.le_of_ble_eq_true rfl)⟩ d_PR_except_29 (fun q x ce H h9 hO hce hcv hcl => im_x hx hk hO hce hcv hcl (Or.inr (Or.inl ⟨⟨c_1, c_12⟩, h9.1, fun z => h9.2 z.1⟩)) (Nat.le_of_ble_eq_true rfl) (Nat.le_of_ble_eq_true rfl)) (fun v H v_1 hO => ?_)
      obtain ⟨rfl, h_29⟩ := v_1
      refine W.eq (g2 := F0 m 32 ls []) rfl ?_
      refine lv_iload_n S.1 S.2.1 d_PR_except_32 rfl (lv_at hl 3 rfl) ?_
      refine lv_iconst (v := (-1)) S.1 S.2.1 d_PR_except_33 (by decide) ?_
      refine lv_bipush (v := 7) S.1 S.2.1 d_PR_except_34 (by decide) ?_
      refine g_SP (As := [.int d, .int (-1), .int 7]) (rest := []) S hO (k_PR_needWithin l hst G ad σ τ d (-1) 7) cw_PR_81 g_cfC hl.1 (Nat.le_of_ble_eq_true rfl) ⟨(Nat.le_of_ble_eq_true rfl), (Nat.le_of_ble_eq_true rfl)⟩ ⟨(Nat.le_of_ble_eq_true rfl), (Nat.le_of_ble_eq_true rfl)⟩ d_PR_except_36 (fun q x ce H h9 hO hce hcv hcl => im_x hx hk hO hce hcv hcl (Or.inr (Or.inl ⟨⟨c_1, c_12⟩, h9.1, fun z => h9.2 z.2.1⟩)) (Nat.le_of_ble_eq_true rfl) (Nat.le_of_ble_eq_true rfl)) (fun v H v_2 hO => ?_)
      obtain ⟨rfl, h_36⟩ := v_2
      refine W.eq (g2 := F0 m 39 ls []) rfl ?_
      refine lv_iload S.1 S.2.1 d_PR_except_39 (lv_at hl 4 rfl) ?_
      refine lv_iconst (v := 0) S.1 S.2.1 d_PR_except_41 (by decide) ?_
      refine lv_sipush (v := 1000) S.1 S.2.1 d_PR_except_42 (by decide) ?_
      refine g_SP (As := [.int f, .int 0, .int 1000]) (rest := []) S hO (k_PR_needWithin l hst G ad σ τ f 0 1000) cw_PR_81 g_cfC hl.1 (Nat.le_of_ble_eq_true rfl) ⟨(Nat.le_of_ble_eq_true rfl), (Nat.le_of_ble_eq_true rfl)⟩ ⟨(Nat.le_of_ble_eq_true rfl), (Nat.le_of_ble_eq_true rfl)⟩ d_PR_except_45 (fun q x ce H h9 hO hce hcv hcl => im_x hx hk hO hce hcv hcl (Or.inr (Or.inl ⟨⟨c_1, c_12⟩, h9.1, fun z => h9.2 z.2.2⟩)) (Nat.le_of_ble_eq_true rfl) (Nat.le_of_ble_eq_true rfl)) (fun v H v_3 hO => ?_)
      obtain ⟨rfl, h_45⟩ := v_3
      refine W.eq (g2 := F0 m 48 ls []) rfl ?_
      refine lv_aload_n S.1 S.2.1 d_PR_except_48 rfl (lv_at hl 0 rfl) ?_
      refine lv_iload_n S.1 S.2.1 d_PR_except_49 rfl (lv_at hl 1 rfl) ?_
      refine lv_iload_n S.1 S.2.1 d_PR_except_50 rfl (lv_at hl 2 rfl) ?_
      refine lv_iload_n S.1 S.2.1 d_PR_except_51 rfl (lv_at hl 3 rfl) ?_
      refine g_VP (As := [.int a, .int b, .int d]) (rest := []) S hO (k_PR_findWaiver l G ad σ τ a b d nw hnw hw2) cw_PR_199 (by decide) (sh_0 G ad _ _) rfl rfl hl.1 (Nat.le_of_ble_eq_true rfl) ⟨(Nat.le_of_ble_eq_true rfl), (Nat.le_of_ble_eq_true rfl)⟩ ⟨(Nat.le_of_ble_eq_true rfl), (Nat.le_of_ble_eq_true rfl)⟩ d_PR_except_52 (fun q x ce H h9 => h9.elim) (fun v H v_4 hO => ?_)
      subst v_4
      refine W.eq (g2 := F0 m 55 ls [.int (oI (lpf (fvB σ a b d) nw 0))]) rfl ?_
      refine lv_istore (lv' := [(5, .int (oI (lpf (fvB σ a b d) nw 0))), (0, .ref (ad 0)), (1, .int a), (2, .int b), (3, .int d), (4, .int f)]) S.1 S.2.1 d_PR_except_55 hl (by decide) rfl (fun ls hl => ?_)
      refine lv_iload S.1 S.2.1 d_PR_except_57 (lv_at hl 0 rfl) ?_
      refine lv_iconst (v := (-1)) S.1 S.2.1 d_PR_except_59 (by decide) ?_
      refine lv_icmp_eq (tgt := 89) S.1 S.2.1 d_PR_except_60 (by decide) (fun c_60 => ?_) (fun c_60 => ?_)
      · skip
        have hno := oI_m (fun j hj => by have := lpf_lt _ _ _ hj; omega) c_60
        refine lv_aload_n S.1 S.2.1 d_PR_except_89 rfl (lv_at hl 1 rfl) ?_
        refine g_get S hO fl_PR_212 (by decide) (sh_0 G ad _ _) (v := .int (σ 0 4)) rfl d_PR_except_90 ?_
        refine lv_bipush (v := 20) S.1 S.2.1 d_PR_except_93 (by decide) ?_
        refine lv_icmp_lt (tgt := 108) S.1 S.2.1 d_PR_except_95 (by decide) (fun c_95 => ?_) (fun c_95 => ?_)
        · skip
          have hn2 : nw < 20 := lt_nI hnw (by decide) (by omega) (by decide) c_95
          refine lv_aload_n S.1 S.2.1 d_PR_except_108 rfl (lv_at hl 1 rfl) ?_
          refine g_get S hO fl_PR_23 (by decide) (sh_0 G ad _ _) (v := .ref (ad 3)) rfl d_PR_except_109 ?_
          refine lv_aload_n S.1 S.2.1 d_PR_except_112 rfl (lv_at hl 1 rfl) ?_
          refine g_get S hO fl_PR_212 (by decide) (sh_0 G ad _ _) (v := .int (σ 0 4)) rfl d_PR_except_113 ?_
          refine g_aal S hO (t0 := 5) (by decide) (sh_3 G ad _ _) rfl (by rw [hnw]; exact vp_in_nI hn2 (by decide)) (v := .ref (ad (120 + nw))) (by rw [hnw, nI_clamp (by omega)]; rfl) d_PR_except_116 ?_
          refine lv_astore (lv' := [(6, .ref (ad (120 + nw))), (5, .int (oI (lpf (fvB σ a b d) nw 0))), (0, .ref (ad 0)), (1, .int a), (2, .int b), (3, .int d), (4, .int f)]) S.1 S.2.1 d_PR_except_117 hl (by decide) rfl (fun ls hl => ?_)
          refine lv_aload S.1 S.2.1 d_PR_except_119 (lv_at hl 0 rfl) ?_
          refine lv_iload_n S.1 S.2.1 d_PR_except_121 rfl (lv_at hl 3 rfl) ?_
          obtain ⟨s_5, hs_5⟩ : ∃ z : Nat → Nat → Int32, z = up2 σ (120 + nw) 0 a := ⟨_, rfl⟩
          refine g_put S hO (fun _ h => h) fp_PR_217 (by omega) (sh_WV G ad _ _ (by omega)) (v := .int a) rfl rfl (Nat.le_of_ble_eq_true rfl) (E2 := enc G ad s_5 τ) (by rw [hs_5]; exact enc_i (sh_WV G ad _ _ (by omega))) d_PR_except_122 (fun H locs hO => ?_)
          refine lv_aload S.1 S.2.1 d_PR_except_125 (lv_at hl 0 rfl) ?_
          refine lv_iload_n S.1 S.2.1 d_PR_except_127 rfl (lv_at hl 4 rfl) ?_
          obtain ⟨s_6, hs_6⟩ : ∃ z : Nat → Nat → Int32, z = up2 s_5 (120 + nw) 1 b := ⟨_, rfl⟩
          refine g_put S hO (fun _ h => h) fp_PR_220 (by omega) (sh_WV G ad _ _ (by omega)) (v := .int b) rfl rfl (Nat.le_of_ble_eq_true rfl) (E2 := enc G ad s_6 τ) (by rw [hs_6]; exact enc_i (sh_WV G ad _ _ (by omega))) d_PR_except_128 (fun H locs hO => ?_)
          refine lv_aload S.1 S.2.1 d_PR_except_131 (lv_at hl 0 rfl) ?_
          refine lv_iload_n S.1 S.2.1 d_PR_except_133 rfl (lv_at hl 5 rfl) ?_
          obtain ⟨s_7, hs_7⟩ : ∃ z : Nat → Nat → Int32, z = up2 s_6 (120 + nw) 2 d := ⟨_, rfl⟩
          refine g_put S hO (fun _ h => h) fp_PR_223 (by omega) (sh_WV G ad _ _ (by omega)) (v := .int d) rfl rfl (Nat.le_of_ble_eq_true rfl) (E2 := enc G ad s_7 τ) (by rw [hs_7]; exact enc_i (sh_WV G ad _ _ (by omega))) d_PR_except_134 (fun H locs hO => ?_)
          refine lv_aload S.1 S.2.1 d_PR_except_137 (lv_at hl 0 rfl) ?_
          refine lv_iload S.1 S.2.1 d_PR_except_139 (lv_at hl 6 rfl) ?_
          obtain ⟨s_8, hs_8⟩ : ∃ z : Nat → Nat → Int32, z = up2 s_7 (120 + nw) 3 f := ⟨_, rfl⟩
          refine g_put S hO (fun _ h => h) fp_PR_203 (by omega) (sh_WV G ad _ _ (by omega)) (v := .int f) rfl rfl (Nat.le_of_ble_eq_true rfl) (E2 := enc G ad s_8 τ) (by rw [hs_8]; exact enc_i (sh_WV G ad _ _ (by omega))) d_PR_except_141 (fun H locs hO => ?_)
          refine lv_aload_n S.1 S.2.1 d_PR_except_144 rfl (lv_at hl 2 rfl) ?_
          refine lv_dup S.1 S.2.1 d_PR_except_145 rfl ?_
          refine g_get S hO fl_PR_212 (by decide) (sh_0 G ad _ _) (v := .int (s_8 0 4)) rfl d_PR_except_146 ?_
          refine lv_iconst (v := 1) S.1 S.2.1 d_PR_except_149 (by decide) ?_
          refine lv_iadd S.1 S.2.1 d_PR_except_150 ?_
          obtain ⟨s_9, hs_9⟩ : ∃ z : Nat → Nat → Int32, z = up2 s_8 0 4 ((s_8 0 4) + 1) := ⟨_, rfl⟩
          refine g_put S hO (fun _ h => h) fp_PR_212 (by decide) (sh_0 G ad _ _) (v := .int ((s_8 0 4) + 1)) rfl rfl (Nat.le_of_ble_eq_true rfl) (E2 := enc G ad s_9 τ) (by rw [hs_9]; exact enc_i (sh_0 G ad _ _)) d_PR_except_151 (fun H locs hO => ?_)
          subst hs_9
          subst hs_8
          subst hs_7
          subst hs_6
          subst hs_5
          exact im_v S hk hr hO ⟨rfl, ⟨c_1, c_12⟩, ⟨h_29, h_36, h_45⟩, Or.inr c_95, by simp only [exS, hno], rfl⟩ (Nat.le_of_ble_eq_true rfl) (Nat.le_of_ble_eq_true rfl) d_PR_except_154
        · skip
          exact g_throwN S hst hO xw_UOE (hO.2.2.2.2.2.2.2.2.1 3 (by decide)) hl.1 hx hk (Nat.le_of_ble_eq_true rfl) (Nat.le_of_ble_eq_true rfl) ⟨(Nat.le_of_ble_eq_true rfl), (Nat.le_of_ble_eq_true rfl)⟩ (Nat.le_of_ble_eq_true rfl) (Nat.le_of_ble_eq_true rfl) (fun t ht => ⟨Or.inr (Or.inr ⟨⟨c_1, c_12⟩, ⟨h_29, h_36, h_45⟩, rfl, hno, c_95⟩), hO.2.1.kept (fun k q hk => ht q.1 ((hO.2.1 k q hk).lt))⟩) d_PR_except_98 d_PR_except_101 d_PR_except_102 d_PR_except_104 d_PR_except_107
      · skip
        obtain ⟨j, hj⟩ := oI_n (fun j hj => by have := lpf_lt _ _ _ hj; omega) c_60
        have hj2 : j < nw := by have := lpf_lt _ _ _ hj; omega
        have ej : oI (lpf (fvB σ a b d) nw 0) = nI j := by rw [hj]; rfl
        refine lv_aload_n S.1 S.2.1 d_PR_except_63 rfl (lv_at hl 1 rfl) ?_
        refine g_get S hO fl_PR_23 (by decide) (sh_0 G ad _ _) (v := .ref (ad 3)) rfl d_PR_except_64 ?_
        refine lv_iload S.1 S.2.1 d_PR_except_67 (lv_at hl 0 rfl) ?_
        refine g_aal S hO (t0 := 5) (by decide) (sh_3 G ad _ _) rfl (by rw [ej]; exact vp_in_nI (show j < 20 by omega) (by decide)) (v := .ref (ad (120 + j))) (by rw [ej, nI_clamp (by omega)]; rfl) d_PR_except_69 ?_
        refine lv_aload_n S.1 S.2.1 d_PR_except_70 rfl (lv_at hl 1 rfl) ?_
        refine g_get S hO fl_PR_23 (by decide) (sh_0 G ad _ _) (v := .ref (ad 3)) rfl d_PR_except_71 ?_
        refine lv_iload S.1 S.2.1 d_PR_except_74 (lv_at hl 0 rfl) ?_
        refine g_aal S hO (t0 := 5) (by decide) (sh_3 G ad _ _) rfl (by rw [ej]; exact vp_in_nI (show j < 20 by omega) (by decide)) (v := .ref (ad (120 + j))) (by rw [ej, nI_clamp (by omega)]; rfl) d_PR_except_76 ?_
        refine g_get S hO fl_PR_203 (by omega) (sh_WV G ad _ _ (by omega)) (v := .int (σ (120 + j) 3)) rfl d_PR_except_77 ?_
        refine lv_iload S.1 S.2.1 d_PR_except_80 (lv_at hl 5 rfl) ?_
        refine va_mmax S.1 S.2.1 (S.2.2.1.trans hl.1.symm) S.2.2.2.1 (S.2.2.2.2 _ km_PR_206) (S.2.2.2.2 _ ks_java_lang_Math_max) (S.2.2.2.2 _ kt_java_lang_Math) (S.2.2.2.2 _ kc_java_lang_Math_max) (Nat.le_of_ble_eq_true rfl) (Nat.le_of_ble_eq_true rfl) (Nat.le_of_ble_eq_true rfl) (Nat.le_of_ble_eq_true rfl) d_PR_except_82 ?_
        obtain ⟨s_10, hs_10⟩ : ∃ z : Nat → Nat → Int32, z = up2 σ (120 + j) 3 (if σ (120 + j) 3 < f then f else σ (120 + j) 3) := ⟨_, rfl⟩
        refine g_put S hO (fun _ h => h) fp_PR_203 (by omega) (sh_WV G ad _ _ (by omega)) (v := .int (if σ (120 + j) 3 < f then f else σ (120 + j) 3)) rfl rfl (Nat.le_of_ble_eq_true rfl) (E2 := enc G ad s_10 τ) (by rw [hs_10]; exact enc_i (sh_WV G ad _ _ (by omega))) d_PR_except_85 (fun H locs hO => ?_)
        subst hs_10
        exact im_v S hk hr hO ⟨rfl, ⟨c_1, c_12⟩, ⟨h_29, h_36, h_45⟩, Or.inl ⟨j, hj⟩, by simp only [exS, hj], rfl⟩ (Nat.le_of_ble_eq_true rfl) (Nat.le_of_ble_eq_true rfl) d_PR_except_88
    · skip
      exact g_throwN S hst hO xw_NSE (hO.2.2.2.2.2.2.2.2.1 2 (by decide)) hl.1 hx hk (Nat.le_of_ble_eq_true rfl) (Nat.le_of_ble_eq_true rfl) ⟨(Nat.le_of_ble_eq_true rfl), (Nat.le_of_ble_eq_true rfl)⟩ (Nat.le_of_ble_eq_true rfl) (Nat.le_of_ble_eq_true rfl) (fun t ht => ⟨Or.inl ⟨rfl, by first | exact fun z => z.1 c_1 | exact fun z => c_12 z.2⟩, hO.2.1.kept (fun k q hk => ht q.1 ((hO.2.1 k q hk).lt))⟩) d_PR_except_15 d_PR_except_18 d_PR_except_19 d_PR_except_21 d_PR_except_24
def clS (σ : Nat → Nat → Int32) (a : Int32) (ns : Nat) : Nat → Nat → Int32 := if σ 35 1 < 400 then up2 (up2 σ 36 ns a) 35 1 ((up2 σ 36 ns a) 35 1 + 1) else σ
set_option maxHeartbeats 4000000 in
set_option maxRecDepth 100000 in
theorem k_TX_collect (l : Launch) (G : gP) (ad : Nat → Nat) (σ : Nat → Nat → Int32) (τ : Nat → Nat → Int64) (a : Int32) (ns : Nat) (hns : σ 35 1 = nI ns) (hs4 : ns ≤ 400) : gim l y_TX_collect c_TX_collect 2 (some .int) { frames := 0, cells := 0, slots := 0, locals := 0 } G ad σ τ [.ref (ad 35), .int a] 0 0 (fun v σ1 τ1 => v = some (.int (if σ 35 1 < 400 then clS σ a ns 35 1 else (-1))) ∧ σ1 = clS σ a ns ∧ τ1 = τ) (fun _ => False) := by
  refine gs_of (fun _ h => h) (by decide) (Nat.le_of_ble_eq_true rfl) ?_
  intro p e s m args below meth c ls S hk hr hx hl hO
  have hl : lv_has ls 2 [(0, .ref (ad 35)), (1, .int a)] := hl
  refine lv_aload_n S.1 S.2.1 d_TX_collect_0 rfl (lv_at hl 0 rfl) ?_
  refine g_get S hO fl_TX_31 (by decide) (sh_35 G ad _ _) (v := .int (σ 35 1)) rfl d_TX_collect_1 ?_
  refine lv_sipush (v := 400) S.1 S.2.1 d_TX_collect_4 (by decide) ?_
  refine lv_icmp_lt (tgt := 12) S.1 S.2.1 d_TX_collect_7 (by decide) (fun c_7 => ?_) (fun c_7 => ?_)
  · skip
    have hn2 : ns < 400 := lt_nI hns (by decide) (by omega) (by decide) c_7
    refine lv_aload_n S.1 S.2.1 d_TX_collect_12 rfl (lv_at hl 0 rfl) ?_
    refine g_get S hO fl_TX_9 (by decide) (sh_35 G ad _ _) (v := .ref (ad 36)) rfl d_TX_collect_13 ?_
    refine lv_aload_n S.1 S.2.1 d_TX_collect_16 rfl (lv_at hl 0 rfl) ?_
    refine g_get S hO fl_TX_31 (by decide) (sh_35 G ad _ _) (v := .int (σ 35 1)) rfl d_TX_collect_17 ?_
    refine lv_iload_n S.1 S.2.1 d_TX_collect_20 rfl (lv_at hl 1 rfl) ?_
    obtain ⟨s_1, hs_1⟩ : ∃ z : Nat → Nat → Int32, z = up2 σ 36 ns a := ⟨_, rfl⟩
    refine g_ias S hO (fun _ h => h) (by decide) (sh_36 G ad _ _) (by rw [hns]; exact vp_in_nI hn2 (by decide)) (E2 := enc G ad s_1 τ) (by rw [hs_1, hns, nI_clamp (by omega)]; exact enc_i (sh_36 G ad _ _)) d_TX_collect_21 (fun H locs hO => ?_)
    refine lv_aload_n S.1 S.2.1 d_TX_collect_22 rfl (lv_at hl 0 rfl) ?_
    refine lv_dup S.1 S.2.1 d_TX_collect_23 rfl ?_
    refine g_get S hO fl_TX_31 (by decide) (sh_35 G ad _ _) (v := .int (s_1 35 1)) rfl d_TX_collect_24 ?_
    refine lv_iconst (v := 1) S.1 S.2.1 d_TX_collect_27 (by decide) ?_
    refine lv_iadd S.1 S.2.1 d_TX_collect_28 ?_
    obtain ⟨s_2, hs_2⟩ : ∃ z : Nat → Nat → Int32, z = up2 s_1 35 1 ((s_1 35 1) + 1) := ⟨_, rfl⟩
    refine g_put S hO (fun _ h => h) fp_TX_31 (by decide) (sh_35 G ad _ _) (v := .int ((s_1 35 1) + 1)) rfl rfl (Nat.le_of_ble_eq_true rfl) (E2 := enc G ad s_2 τ) (by rw [hs_2]; exact enc_i (sh_35 G ad _ _)) d_TX_collect_29 (fun H locs hO => ?_)
    refine lv_aload_n S.1 S.2.1 d_TX_collect_32 rfl (lv_at hl 0 rfl) ?_
    refine g_get S hO fl_TX_31 (by decide) (sh_35 G ad _ _) (v := .int (s_2 35 1)) rfl d_TX_collect_33 ?_
    subst hs_2
    subst hs_1
    exact im_i S hk hr hO ⟨by rw [if_pos c_7, clS, if_pos c_7], by rw [clS, if_pos c_7], rfl⟩ (Nat.le_of_ble_eq_true rfl) (Nat.le_of_ble_eq_true rfl) d_TX_collect_36
  · skip
    refine lv_iconst (v := (-1)) S.1 S.2.1 d_TX_collect_10 (by decide) ?_
    exact im_i S hk hr hO ⟨by rw [if_neg c_7], by rw [clS, if_neg c_7], rfl⟩ (Nat.le_of_ble_eq_true rfl) (Nat.le_of_ble_eq_true rfl) d_TX_collect_11
set_option maxHeartbeats 4000000 in
set_option maxRecDepth 100000 in
theorem k_TX_forget (l : Launch) (G : gP) (ad : Nat → Nat) (σ : Nat → Nat → Int32) (τ : Nat → Nat → Int64)  : gim l y_TX_forget c_TX_forget 1 none { frames := 0, cells := 0, slots := 0, locals := 0 } G ad σ τ [.ref (ad 35)] 0 0 (fun v σ1 τ1 => v = none ∧ σ1 = up2 σ 35 1 0 ∧ τ1 = τ) (fun _ => False) := by
  refine gs_of (fun _ h => h) (by decide) (Nat.le_of_ble_eq_true rfl) ?_
  intro p e s m args below meth c ls S hk hr hx hl hO
  have hl : lv_has ls 1 [(0, .ref (ad 35))] := hl
  refine lv_aload_n S.1 S.2.1 d_TX_forget_0 rfl (lv_at hl 0 rfl) ?_
  refine lv_iconst (v := 0) S.1 S.2.1 d_TX_forget_1 (by decide) ?_
  obtain ⟨s_1, hs_1⟩ : ∃ z : Nat → Nat → Int32, z = up2 σ 35 1 0 := ⟨_, rfl⟩
  refine g_put S hO (fun _ h => h) fp_TX_31 (by decide) (sh_35 G ad _ _) (v := .int 0) rfl rfl (Nat.le_of_ble_eq_true rfl) (E2 := enc G ad s_1 τ) (by rw [hs_1]; exact enc_i (sh_35 G ad _ _)) d_TX_forget_2 (fun H locs hO => ?_)
  subst hs_1
  exact im_v S hk hr hO ⟨rfl, rfl, rfl⟩ (Nat.le_of_ble_eq_true rfl) (Nat.le_of_ble_eq_true rfl) d_TX_forget_5
set_option maxHeartbeats 4000000 in
set_option maxRecDepth 100000 in
theorem k_PR_sign (l : Launch) (G : gP) (ad : Nat → Nat) (σ : Nat → Nat → Int32) (τ : Nat → Nat → Int64) (a : Int32) (ns : Nat) (hns : σ 35 1 = nI ns) (hs4 : ns ≤ 400) : gim l y_PR_sign c_PR_sign 2 (some .int) { frames := 1, cells := 0, slots := 0, locals := 21 } G ad σ τ [.ref (ad 0), .int a] 0 0 (fun v σ1 τ1 => v = some (.int (if σ 35 1 < 400 then clS σ (a &&& 255) ns 35 1 else (-1))) ∧ σ1 = clS σ (a &&& 255) ns ∧ τ1 = τ) (fun _ => False) := by
  refine gs_of (fun _ h => h) (by decide) (Nat.le_of_ble_eq_true rfl) ?_
  intro p e s m args below meth c ls S hk hr hx hl hO
  have hl : lv_has ls 2 [(0, .ref (ad 0)), (1, .int a)] := hl
  refine lv_aload_n S.1 S.2.1 d_PR_sign_0 rfl (lv_at hl 0 rfl) ?_
  refine g_get S hO fl_PR_44 (by decide) (sh_0 G ad _ _) (v := .ref (ad 35)) rfl d_PR_sign_1 ?_
  refine lv_iload_n S.1 S.2.1 d_PR_sign_4 rfl (lv_at hl 1 rfl) ?_
  refine lv_sipush (v := 255) S.1 S.2.1 d_PR_sign_5 (by decide) ?_
  refine lv_iand S.1 S.2.1 d_PR_sign_8 ?_
  refine g_VI (As := [.int (a &&& 255)]) (rest := []) S hO (fun _ h => h) (k_TX_collect l G ad σ τ (a &&& 255) ns hns hs4) cw_PR_159 (by decide) (sh_35 G ad _ _) rfl rfl hl.1 (Nat.le_of_ble_eq_true rfl) ⟨(Nat.le_of_ble_eq_true rfl), (Nat.le_of_ble_eq_true rfl)⟩ ⟨(Nat.le_of_ble_eq_true rfl), (Nat.le_of_ble_eq_true rfl)⟩ d_PR_sign_9 (fun q x ce H locs h9 => h9.elim) (fun v E1 H locs v_1 hO => ?_)
  obtain ⟨s_2, t_3, rfl, rfl, hs_2, ht_3⟩ := v_1
  rw [ht_3] at hO
  refine W.eq (g2 := F0 m 12 ls [.int (if σ 35 1 < 400 then clS σ (a &&& 255) ns 35 1 else (-1))]) rfl ?_
  subst hs_2
  exact im_i S hk hr hO ⟨rfl, rfl, rfl⟩ (Nat.le_of_ble_eq_true rfl) (Nat.le_of_ble_eq_true rfl) d_PR_sign_12
