/-! The checks of arguments: they come back, or throw, and change nothing. Written by wip/tools/m16.py. -/
def gwi (x lo hi : Int32) : Prop := ¬ x < lo ∧ ¬ hi < x
set_option maxHeartbeats 4000000 in
set_option maxRecDepth 100000 in
theorem k_PR_needWithin (l : Launch) (hst : l.stackTraces = false) (G : gP) (ad : Nat → Nat) (σ : Nat → Nat → Int32) (τ : Nat → Nat → Int64) (a b d : Int32) : gpu l y_PR_needWithin c_PR_needWithin 3 none { frames := 6, cells := 1, slots := 6, locals := 90 } G ad σ τ [.int a, .int b, .int d] 1 6 (fun v => v = none ∧ gwi a b d) (fun x => x = "java/lang/IllegalArgumentException" ∧ ¬ gwi a b d) := by
  refine gs_of (fun _ h => h.elim) (by decide) (Nat.le_of_ble_eq_true rfl) ?_
  intro p e s m args below meth c ls S hk hr hx hl hO
  have hl : lv_has ls 3 [(0, .int a), (1, .int b), (2, .int d)] := hl
  refine lv_iload_n S.1 S.2.1 d_PR_needWithin_0 rfl (lv_at hl 0 rfl) ?_
  refine lv_iload_n S.1 S.2.1 d_PR_needWithin_1 rfl (lv_at hl 1 rfl) ?_
  refine lv_icmp_lt (tgt := 10) S.1 S.2.1 d_PR_needWithin_2 (by decide) (fun c_2 => ?_) (fun c_2 => ?_)
  · skip
    exact g_throwW S hst hO xw_IAE (hO.2.2.2.2.2.2.2.2.1 9 (by decide)) hl.1 hx hk (Nat.le_of_ble_eq_true rfl) (Nat.le_of_ble_eq_true rfl) ⟨(Nat.le_of_ble_eq_true rfl), (Nat.le_of_ble_eq_true rfl)⟩ (Nat.le_of_ble_eq_true rfl) (Nat.le_of_ble_eq_true rfl) (fun t ht => ⟨rfl, by first | exact fun z => z.1 c_2 | exact fun z => z.2 (Int32.not_le.mp c_7)⟩) d_PR_needWithin_10 d_PR_needWithin_13 d_PR_needWithin_14 d_PR_needWithin_17 d_PR_needWithin_20
  · skip
    refine lv_iload_n S.1 S.2.1 d_PR_needWithin_5 rfl (lv_at hl 0 rfl) ?_
    refine lv_iload_n S.1 S.2.1 d_PR_needWithin_6 rfl (lv_at hl 2 rfl) ?_
    refine lv_icmp_le (tgt := 21) S.1 S.2.1 d_PR_needWithin_7 (by decide) (fun c_7 => ?_) (fun c_7 => ?_)
    · skip
      exact pu_v S hk hr hO ⟨rfl, c_2, Int32.not_lt.mpr c_7⟩ (Nat.le_of_ble_eq_true rfl) (Nat.le_of_ble_eq_true rfl) d_PR_needWithin_21
    · skip
      exact g_throwW S hst hO xw_IAE (hO.2.2.2.2.2.2.2.2.1 9 (by decide)) hl.1 hx hk (Nat.le_of_ble_eq_true rfl) (Nat.le_of_ble_eq_true rfl) ⟨(Nat.le_of_ble_eq_true rfl), (Nat.le_of_ble_eq_true rfl)⟩ (Nat.le_of_ble_eq_true rfl) (Nat.le_of_ble_eq_true rfl) (fun t ht => ⟨rfl, by first | exact fun z => z.1 c_2 | exact fun z => z.2 (Int32.not_le.mp c_7)⟩) d_PR_needWithin_10 d_PR_needWithin_13 d_PR_needWithin_14 d_PR_needWithin_17 d_PR_needWithin_20
set_option maxHeartbeats 4000000 in
set_option maxRecDepth 100000 in
theorem k_PR_needIndex (l : Launch) (hst : l.stackTraces = false) (G : gP) (ad : Nat → Nat) (σ : Nat → Nat → Int32) (τ : Nat → Nat → Int64) (a : Int32) : gpu l y_PR_needIndex c_PR_needIndex 1 none { frames := 6, cells := 1, slots := 6, locals := 90 } G ad σ τ [.int a] 1 6 (fun v => v = none ∧ ¬ a < 0) (fun x => x = "java/lang/IllegalArgumentException" ∧ a < 0) := by
  refine gs_of (fun _ h => h.elim) (by decide) (Nat.le_of_ble_eq_true rfl) ?_
  intro p e s m args below meth c ls S hk hr hx hl hO
  have hl : lv_has ls 1 [(0, .int a)] := hl
  refine lv_iload_n S.1 S.2.1 d_PR_needIndex_0 rfl (lv_at hl 0 rfl) ?_
  refine lv_if_ge (tgt := 15) S.1 S.2.1 d_PR_needIndex_1 (by decide) (fun c_1 => ?_) (fun c_1 => ?_)
  · skip
    exact pu_v S hk hr hO ⟨rfl, Int32.not_lt.mpr c_1⟩ (Nat.le_of_ble_eq_true rfl) (Nat.le_of_ble_eq_true rfl) d_PR_needIndex_15
  · skip
    exact g_throwW S hst hO xw_IAE (hO.2.2.2.2.2.2.2.2.1 8 (by decide)) hl.1 hx hk (Nat.le_of_ble_eq_true rfl) (Nat.le_of_ble_eq_true rfl) ⟨(Nat.le_of_ble_eq_true rfl), (Nat.le_of_ble_eq_true rfl)⟩ (Nat.le_of_ble_eq_true rfl) (Nat.le_of_ble_eq_true rfl) (fun t ht => ⟨rfl, Int32.not_le.mp c_1⟩) d_PR_needIndex_4 d_PR_needIndex_7 d_PR_needIndex_8 d_PR_needIndex_11 d_PR_needIndex_14
set_option maxHeartbeats 4000000 in
set_option maxRecDepth 100000 in
theorem k_PR_needPlace (l : Launch) (hst : l.stackTraces = false) (G : gP) (ad : Nat → Nat) (σ : Nat → Nat → Int32) (τ : Nat → Nat → Int64) (a : Int32) : gpu l y_PR_needPlace c_PR_needPlace 1 none { frames := 7, cells := 1, slots := 6, locals := 112 } G ad σ τ [.int a] 1 6 (fun v => v = none ∧ gwi a 0 11) (fun x => x = "java/lang/IllegalArgumentException" ∧ ¬ gwi a 0 11) := by
  refine gs_of (fun _ h => h.elim) (by decide) (Nat.le_of_ble_eq_true rfl) ?_
  intro p e s m args below meth c ls S hk hr hx hl hO
  have hl : lv_has ls 1 [(0, .int a)] := hl
  refine lv_iload_n S.1 S.2.1 d_PR_needPlace_0 rfl (lv_at hl 0 rfl) ?_
  refine lv_iconst (v := 0) S.1 S.2.1 d_PR_needPlace_1 (by decide) ?_
  refine lv_bipush (v := 11) S.1 S.2.1 d_PR_needPlace_2 (by decide) ?_
  refine g_SP (As := [.int a, .int 0, .int 11]) (rest := []) S hO (k_PR_needWithin l hst G ad σ τ a 0 11) cw_PR_81 g_cfC hl.1 (Nat.le_of_ble_eq_true rfl) ⟨(Nat.le_of_ble_eq_true rfl), (Nat.le_of_ble_eq_true rfl)⟩ ⟨(Nat.le_of_ble_eq_true rfl), (Nat.le_of_ble_eq_true rfl)⟩ d_PR_needPlace_4 (fun q x ce H h9 hO hce hcv hcl => pu_x hx hk hO hce hcv hcl h9 (Nat.le_of_ble_eq_true rfl) (Nat.le_of_ble_eq_true rfl)) (fun v H v_1 hO => ?_)
  obtain ⟨rfl, h_4⟩ := v_1
  refine W.eq (g2 := F0 m 7 ls []) rfl ?_
  exact pu_v S hk hr hO ⟨rfl, h_4⟩ (Nat.le_of_ble_eq_true rfl) (Nat.le_of_ble_eq_true rfl) d_PR_needPlace_7
set_option maxHeartbeats 4000000 in
set_option maxRecDepth 100000 in
theorem k_PR_needLengths (l : Launch) (hst : l.stackTraces = false) (G : gP) (ad : Nat → Nat) (σ : Nat → Nat → Int32) (τ : Nat → Nat → Int64) (a b d : Int32) : gpu l y_PR_needLengths c_PR_needLengths 3 none { frames := 7, cells := 3, slots := 18, locals := 112 } G ad σ τ [.int a, .int b, .int d] 3 18 (fun v => v = none ∧ gwi a 1 9999 ∧ gwi b 1 9999 ∧ gwi d 1 9999) (fun x => x = "java/lang/IllegalArgumentException" ∧ ¬ (gwi a 1 9999 ∧ gwi b 1 9999 ∧ gwi d 1 9999)) := by
  refine gs_of (fun _ h => h.elim) (by decide) (Nat.le_of_ble_eq_true rfl) ?_
  intro p e s m args below meth c ls S hk hr hx hl hO
  have hl : lv_has ls 3 [(0, .int a), (1, .int b), (2, .int d)] := hl
  refine lv_iload_n S.1 S.2.1 d_PR_needLengths_0 rfl (lv_at hl 0 rfl) ?_
  refine lv_iconst (v := 1) S.1 S.2.1 d_PR_needLengths_1 (by decide) ?_
  refine lv_sipush (v := 9999) S.1 S.2.1 d_PR_needLengths_2 (by decide) ?_
  refine g_SP (As := [.int a, .int 1, .int 9999]) (rest := []) S hO (k_PR_needWithin l hst G ad σ τ a 1 9999) cw_PR_81 g_cfC hl.1 (Nat.le_of_ble_eq_true rfl) ⟨(Nat.le_of_ble_eq_true rfl), (Nat.le_of_ble_eq_true rfl)⟩ ⟨(Nat.le_of_ble_eq_true rfl), (Nat.le_of_ble_eq_true rfl)⟩ d_PR_needLengths_5 (fun q x ce H h9 hO hce hcv hcl => pu_x hx hk hO hce hcv hcl (⟨h9.1, fun z => h9.2 z.1⟩) (Nat.le_of_ble_eq_true rfl) (Nat.le_of_ble_eq_true rfl)) (fun v H v_1 hO => ?_)
  obtain ⟨rfl, h_5⟩ := v_1
  refine W.eq (g2 := F0 m 8 ls []) rfl ?_
  refine lv_iload_n S.1 S.2.1 d_PR_needLengths_8 rfl (lv_at hl 1 rfl) ?_
  refine lv_iconst (v := 1) S.1 S.2.1 d_PR_needLengths_9 (by decide) ?_
  refine lv_sipush (v := 9999) S.1 S.2.1 d_PR_needLengths_10 (by decide) ?_
  refine g_SP (As := [.int b, .int 1, .int 9999]) (rest := []) S hO (k_PR_needWithin l hst G ad σ τ b 1 9999) cw_PR_81 g_cfC hl.1 (Nat.le_of_ble_eq_true rfl) ⟨(Nat.le_of_ble_eq_true rfl), (Nat.le_of_ble_eq_true rfl)⟩ ⟨(Nat.le_of_ble_eq_true rfl), (Nat.le_of_ble_eq_true rfl)⟩ d_PR_needLengths_13 (fun q x ce H h9 hO hce hcv hcl => pu_x hx hk hO hce hcv hcl (⟨h9.1, fun z => h9.2 z.2.1⟩) (Nat.le_of_ble_eq_true rfl) (Nat.le_of_ble_eq_true rfl)) (fun v H v_2 hO => ?_)
  obtain ⟨rfl, h_13⟩ := v_2
  refine W.eq (g2 := F0 m 16 ls []) rfl ?_
  refine lv_iload_n S.1 S.2.1 d_PR_needLengths_16 rfl (lv_at hl 2 rfl) ?_
  refine lv_iconst (v := 1) S.1 S.2.1 d_PR_needLengths_17 (by decide) ?_
  refine lv_sipush (v := 9999) S.1 S.2.1 d_PR_needLengths_18 (by decide) ?_
  refine g_SP (As := [.int d, .int 1, .int 9999]) (rest := []) S hO (k_PR_needWithin l hst G ad σ τ d 1 9999) cw_PR_81 g_cfC hl.1 (Nat.le_of_ble_eq_true rfl) ⟨(Nat.le_of_ble_eq_true rfl), (Nat.le_of_ble_eq_true rfl)⟩ ⟨(Nat.le_of_ble_eq_true rfl), (Nat.le_of_ble_eq_true rfl)⟩ d_PR_needLengths_21 (fun q x ce H h9 hO hce hcv hcl => pu_x hx hk hO hce hcv hcl (⟨h9.1, fun z => h9.2 z.2.2⟩) (Nat.le_of_ble_eq_true rfl) (Nat.le_of_ble_eq_true rfl)) (fun v H v_3 hO => ?_)
  obtain ⟨rfl, h_21⟩ := v_3
  refine W.eq (g2 := F0 m 24 ls []) rfl ?_
  exact pu_v S hk hr hO ⟨rfl, h_5, h_13, h_21⟩ (Nat.le_of_ble_eq_true rfl) (Nat.le_of_ble_eq_true rfl) d_PR_needLengths_24
set_option maxHeartbeats 4000000 in
set_option maxRecDepth 100000 in
theorem k_PR_needUnit (l : Launch) (hst : l.stackTraces = false) (G : gP) (ad : Nat → Nat) (σ : Nat → Nat → Int32) (τ : Nat → Nat → Int64) (a : Int32) : gpu l y_PR_needUnit c_PR_needUnit 2 none { frames := 6, cells := 1, slots := 6, locals := 90 } G ad σ τ [.ref (ad 0), .int a] 1 6 (fun v => v = none ∧ ¬ a < 0 ∧ a < σ 0 2) (fun x => x = "java/util/NoSuchElementException" ∧ ¬ (¬ a < 0 ∧ a < σ 0 2)) := by
  refine gs_of (fun _ h => h.elim) (by decide) (Nat.le_of_ble_eq_true rfl) ?_
  intro p e s m args below meth c ls S hk hr hx hl hO
  have hl : lv_has ls 2 [(0, .ref (ad 0)), (1, .int a)] := hl
  refine lv_iload_n S.1 S.2.1 d_PR_needUnit_0 rfl (lv_at hl 1 rfl) ?_
  refine lv_if_lt (tgt := 12) S.1 S.2.1 d_PR_needUnit_1 (by decide) (fun c_1 => ?_) (fun c_1 => ?_)
  · skip
    exact g_throwW S hst hO xw_NSE (hO.2.2.2.2.2.2.2.2.1 6 (by decide)) hl.1 hx hk (Nat.le_of_ble_eq_true rfl) (Nat.le_of_ble_eq_true rfl) ⟨(Nat.le_of_ble_eq_true rfl), (Nat.le_of_ble_eq_true rfl)⟩ (Nat.le_of_ble_eq_true rfl) (Nat.le_of_ble_eq_true rfl) (fun t ht => ⟨rfl, by first | exact fun z => z.1 c_1 | exact fun z => c_9 z.2⟩) d_PR_needUnit_12 d_PR_needUnit_15 d_PR_needUnit_16 d_PR_needUnit_19 d_PR_needUnit_22
  · skip
    refine lv_iload_n S.1 S.2.1 d_PR_needUnit_4 rfl (lv_at hl 1 rfl) ?_
    refine lv_aload_n S.1 S.2.1 d_PR_needUnit_5 rfl (lv_at hl 0 rfl) ?_
    refine g_get S hO fl_PR_90 (by decide) (sh_0 G ad _ _) (v := .int (σ 0 2)) rfl d_PR_needUnit_6 ?_
    refine lv_icmp_lt (tgt := 23) S.1 S.2.1 d_PR_needUnit_9 (by decide) (fun c_9 => ?_) (fun c_9 => ?_)
    · skip
      exact pu_v S hk hr hO ⟨rfl, c_1, c_9⟩ (Nat.le_of_ble_eq_true rfl) (Nat.le_of_ble_eq_true rfl) d_PR_needUnit_23
    · skip
      exact g_throwW S hst hO xw_NSE (hO.2.2.2.2.2.2.2.2.1 6 (by decide)) hl.1 hx hk (Nat.le_of_ble_eq_true rfl) (Nat.le_of_ble_eq_true rfl) ⟨(Nat.le_of_ble_eq_true rfl), (Nat.le_of_ble_eq_true rfl)⟩ (Nat.le_of_ble_eq_true rfl) (Nat.le_of_ble_eq_true rfl) (fun t ht => ⟨rfl, by first | exact fun z => z.1 c_1 | exact fun z => c_9 z.2⟩) d_PR_needUnit_12 d_PR_needUnit_15 d_PR_needUnit_16 d_PR_needUnit_19 d_PR_needUnit_22
set_option maxHeartbeats 4000000 in
set_option maxRecDepth 100000 in
theorem k_PR_needNowhere (l : Launch) (hst : l.stackTraces = false) (G : gP) (ad : Nat → Nat) (σ : Nat → Nat → Int32) (τ : Nat → Nat → Int64) (u : Nat) (h1 : u < 40) : gpu l y_PR_needNowhere c_PR_needNowhere 2 none { frames := 6, cells := 1, slots := 6, locals := 90 } G ad σ τ [.ref (ad 0), .int (nI u)] 1 6 (fun v => v = none ∧ σ (80 + u) 10 = (-1)) (fun x => x = "java/lang/IllegalStateException" ∧ ¬ σ (80 + u) 10 = (-1)) := by
  refine gs_of (fun _ h => h.elim) (by decide) (Nat.le_of_ble_eq_true rfl) ?_
  intro p e s m args below meth c ls S hk hr hx hl hO
  have hl : lv_has ls 2 [(0, .ref (ad 0)), (1, .int (nI u))] := hl
  refine lv_aload_n S.1 S.2.1 d_PR_needNowhere_0 rfl (lv_at hl 0 rfl) ?_
  refine g_get S hO fl_PR_17 (by decide) (sh_0 G ad _ _) (v := .ref (ad 2)) rfl d_PR_needNowhere_1 ?_
  refine lv_iload_n S.1 S.2.1 d_PR_needNowhere_4 rfl (lv_at hl 1 rfl) ?_
  refine g_aal S hO (t0 := 4) (by decide) (sh_2 G ad _ _) rfl (vp_in_nI h1 (by decide)) (v := .ref (ad (80 + u))) (by rw [nI_clamp (by omega)]; rfl) d_PR_needNowhere_5 ?_
  refine g_get S hO fl_PR_236 (by omega) (sh_UN G ad _ _ (by omega)) (v := .int (σ (80 + u) 10)) rfl d_PR_needNowhere_6 ?_
  refine lv_iconst (v := (-1)) S.1 S.2.1 d_PR_needNowhere_9 (by decide) ?_
  refine lv_icmp_eq (tgt := 24) S.1 S.2.1 d_PR_needNowhere_10 (by decide) (fun c_10 => ?_) (fun c_10 => ?_)
  · skip
    exact pu_v S hk hr hO ⟨rfl, c_10⟩ (Nat.le_of_ble_eq_true rfl) (Nat.le_of_ble_eq_true rfl) d_PR_needNowhere_24
  · skip
    exact g_throwW S hst hO xw_ISE (hO.2.2.2.2.2.2.2.2.1 7 (by decide)) hl.1 hx hk (Nat.le_of_ble_eq_true rfl) (Nat.le_of_ble_eq_true rfl) ⟨(Nat.le_of_ble_eq_true rfl), (Nat.le_of_ble_eq_true rfl)⟩ (Nat.le_of_ble_eq_true rfl) (Nat.le_of_ble_eq_true rfl) (fun t ht => ⟨rfl, c_10⟩) d_PR_needNowhere_13 d_PR_needNowhere_16 d_PR_needNowhere_17 d_PR_needNowhere_20 d_PR_needNowhere_23
set_option maxHeartbeats 4000000 in
set_option maxRecDepth 100000 in
theorem k_PR_needQuestion (l : Launch) (hst : l.stackTraces = false) (G : gP) (ad : Nat → Nat) (σ : Nat → Nat → Int32) (τ : Nat → Nat → Int64) (a b d : Int32) : gpu l y_PR_needQuestion c_PR_needQuestion 4 none { frames := 8, cells := 3, slots := 18, locals := 132 } G ad σ τ [.ref (ad 0), .int a, .int b, .int d] 3 18 (fun v => v = none ∧ (¬ a < 0 ∧ a < σ 0 2) ∧ gwi b 0 11 ∧ gwi d 0 1000) (fun x => (x = "java/util/NoSuchElementException" ∧ ¬ (¬ a < 0 ∧ a < σ 0 2)) ∨ ((¬ a < 0 ∧ a < σ 0 2) ∧ x = "java/lang/IllegalArgumentException" ∧ ¬ (gwi b 0 11 ∧ gwi d 0 1000))) := by
  refine gs_of (fun _ h => h.elim) (by decide) (Nat.le_of_ble_eq_true rfl) ?_
  intro p e s m args below meth c ls S hk hr hx hl hO
  have hl : lv_has ls 4 [(0, .ref (ad 0)), (1, .int a), (2, .int b), (3, .int d)] := hl
  refine lv_aload_n S.1 S.2.1 d_PR_needQuestion_0 rfl (lv_at hl 0 rfl) ?_
  refine lv_iload_n S.1 S.2.1 d_PR_needQuestion_1 rfl (lv_at hl 1 rfl) ?_
  refine g_VP (As := [.int a]) (rest := []) S hO (k_PR_needUnit l hst G ad σ τ a) cw_PR_109 (by decide) (sh_0 G ad _ _) rfl rfl hl.1 (Nat.le_of_ble_eq_true rfl) ⟨(Nat.le_of_ble_eq_true rfl), (Nat.le_of_ble_eq_true rfl)⟩ ⟨(Nat.le_of_ble_eq_true rfl), (Nat.le_of_ble_eq_true rfl)⟩ d_PR_needQuestion_2 (fun q x ce H h9 hO hce hcv hcl => pu_x hx hk hO hce hcv hcl (Or.inl h9) (Nat.le_of_ble_eq_true rfl) (Nat.le_of_ble_eq_true rfl)) (fun v H v_1 hO => ?_)
  obtain ⟨rfl, h_2⟩ := v_1
  refine W.eq (g2 := F0 m 5 ls []) rfl ?_
  refine lv_iload_n S.1 S.2.1 d_PR_needQuestion_5 rfl (lv_at hl 2 rfl) ?_
  refine g_SP (As := [.int b]) (rest := []) S hO (k_PR_needPlace l hst G ad σ τ b) cw_PR_62 g_cfC hl.1 (Nat.le_of_ble_eq_true rfl) ⟨(Nat.le_of_ble_eq_true rfl), (Nat.le_of_ble_eq_true rfl)⟩ ⟨(Nat.le_of_ble_eq_true rfl), (Nat.le_of_ble_eq_true rfl)⟩ d_PR_needQuestion_6 (fun q x ce H h9 hO hce hcv hcl => pu_x hx hk hO hce hcv hcl (Or.inr ⟨h_2, h9.1, fun z => h9.2 z.1⟩) (Nat.le_of_ble_eq_true rfl) (Nat.le_of_ble_eq_true rfl)) (fun v H v_2 hO => ?_)
  obtain ⟨rfl, h_6⟩ := v_2
  refine W.eq (g2 := F0 m 9 ls []) rfl ?_
  refine lv_iload_n S.1 S.2.1 d_PR_needQuestion_9 rfl (lv_at hl 3 rfl) ?_
  refine lv_iconst (v := 0) S.1 S.2.1 d_PR_needQuestion_10 (by decide) ?_
  refine lv_sipush (v := 1000) S.1 S.2.1 d_PR_needQuestion_11 (by decide) ?_
  refine g_SP (As := [.int d, .int 0, .int 1000]) (rest := []) S hO (k_PR_needWithin l hst G ad σ τ d 0 1000) cw_PR_81 g_cfC hl.1 (Nat.le_of_ble_eq_true rfl) ⟨(Nat.le_of_ble_eq_true rfl), (Nat.le_of_ble_eq_true rfl)⟩ ⟨(Nat.le_of_ble_eq_true rfl), (Nat.le_of_ble_eq_true rfl)⟩ d_PR_needQuestion_14 (fun q x ce H h9 hO hce hcv hcl => pu_x hx hk hO hce hcv hcl (Or.inr ⟨h_2, h9.1, fun z => h9.2 z.2⟩) (Nat.le_of_ble_eq_true rfl) (Nat.le_of_ble_eq_true rfl)) (fun v H v_3 hO => ?_)
  obtain ⟨rfl, h_14⟩ := v_3
  refine W.eq (g2 := F0 m 17 ls []) rfl ?_
  exact pu_v S hk hr hO ⟨rfl, h_2, h_6, h_14⟩ (Nat.le_of_ble_eq_true rfl) (Nat.le_of_ble_eq_true rfl) d_PR_needQuestion_17
