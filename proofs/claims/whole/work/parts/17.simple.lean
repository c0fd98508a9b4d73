/-! Public methods without loops. Written by wip/tools/m17.py. -/
theorem gwi_n {a M : Int32} {n : Nat} (hM : M.toInt = n) (h : gwi a 0 M) : ∃ u : Nat, u < n + 1 ∧ a = nI u := by
  obtain ⟨j, h1, h2⟩ := nI_of2 hM h.1 (Int32.not_lt.mp h.2)
  exact ⟨j, by omega, h2⟩
theorem uni_n {a x : Int32} {n : Nat} (hx : x = nI n) (hn : n < 2 ^ 31) (h : ¬ a < 0 ∧ a < x) : ∃ u : Nat, u < n ∧ a = nI u := by
  obtain ⟨j, h1, rfl⟩ := nI_of h.1
  rw [hx] at h
  exact ⟨j, (nI_ltI h1 hn).mp h.2, rfl⟩
theorem lt_nI {x M : Int32} {n N : Nat} (hx : x = nI n) (hM : M = nI N) (hn : n < 2 ^ 31) (hN : N < 2 ^ 31) (h : x < M) : n < N := by
  rw [hx, hM] at h
  exact (nI_ltI hn hN).mp h
set_option maxHeartbeats 4000000 in
set_option maxRecDepth 100000 in
theorem k_PR_place (l : Launch) (hst : l.stackTraces = false) (G : gP) (ad : Nat → Nat) (σ : Nat → Nat → Int32) (τ : Nat → Nat → Int64) (a b d f : Int32) : gim l y_PR_place c_PR_place 6 none { frames := 8, cells := 4, slots := 24, locals := 134 } G ad σ τ [.ref (ad 0), .int a, .int b, .int d, .int f] 4 24 (fun v σ1 τ1 => v = none ∧ (gwi a 0 11 ∧ gwi b 1 9999 ∧ gwi d 1 9999 ∧ gwi f 1 9999) ∧ σ1 = up2 (up2 (up2 σ (68 + a.toNatClampNeg) 0 b) (68 + a.toNatClampNeg) 1 d) (68 + a.toNatClampNeg) 2 f ∧ τ1 = τ) (fun x => x = "java/lang/IllegalArgumentException" ∧ ¬ (gwi a 0 11 ∧ gwi b 1 9999 ∧ gwi d 1 9999 ∧ gwi f 1 9999)) := by
  refine gs_of (fun _ h => h) (by decide) (Nat.le_of_ble_eq_true rfl) ?_
  intro p e s m args below meth c ls S hk hr hx hl hO
  have hl : lv_has ls 6 [(0, .ref (ad 0)), (1, .int a), (2, .int b), (3, .int d), (4, .int f)] := hl
  refine lv_iload_n S.1 S.2.1 d_PR_place_0 rfl (lv_at hl 1 rfl) ?_
  refine g_SP (As := [.int a]) (rest := []) S hO (k_PR_needPlace l hst G ad σ τ a) cw_PR_62 g_cfC hl.1 (Nat.le_of_ble_eq_true rfl) ⟨(Nat.le_of_ble_eq_true rfl), (Nat.le_of_ble_eq_true rfl)⟩ ⟨(Nat.le_of_ble_eq_true rfl), (Nat.le_of_ble_eq_true rfl)⟩ d_PR_place_1 (fun q x ce H h9 hO hce hcv hcl => im_x hx hk hO hce hcv hcl (⟨h9.1, fun z => h9.2 z.1⟩) (Nat.le_of_ble_eq_true rfl) (Nat.le_of_ble_eq_true rfl)) (fun v H v_1 hO => ?_)
  obtain ⟨rfl, h_1⟩ := v_1
  refine W.eq (g2 := F0 m 4 ls []) rfl ?_
  obtain ⟨u, hu, rfl⟩ := gwi_n (n := 11) (by decide) h_1
  refine lv_iload_n S.1 S.2.1 d_PR_place_4 rfl (lv_at hl 2 rfl) ?_
  refine lv_iload_n S.1 S.2.1 d_PR_place_5 rfl (lv_at hl 3 rfl) ?_
  refine lv_iload S.1 S.2.1 d_PR_place_6 (lv_at hl 4 rfl) ?_
  refine g_SP (As := [.int b, .int d, .int f]) (rest := []) S hO (k_PR_needLengths l hst G ad σ τ b d f) cw_PR_66 g_cfC hl.1 (Nat.le_of_ble_eq_true rfl) ⟨(Nat.le_of_ble_eq_true rfl), (Nat.le_of_ble_eq_true rfl)⟩ ⟨(Nat.le_of_ble_eq_true rfl), (Nat.le_of_ble_eq_true rfl)⟩ d_PR_place_8 (fun q x ce H h9 hO hce hcv hcl => im_x hx hk hO hce hcv hcl (⟨h9.1, fun z => h9.2 z.2⟩) (Nat.le_of_ble_eq_true rfl) (Nat.le_of_ble_eq_true rfl)) (fun v H v_2 hO => ?_)
  obtain ⟨rfl, h_8⟩ := v_2
  refine W.eq (g2 := F0 m 11 ls []) rfl ?_
  refine lv_aload_n S.1 S.2.1 d_PR_place_11 rfl (lv_at hl 0 rfl) ?_
  refine g_get S hO fl_PR_11 (by decide) (sh_0 G ad _ _) (v := .ref (ad 1)) rfl d_PR_place_12 ?_
  refine lv_iload_n S.1 S.2.1 d_PR_place_15 rfl (lv_at hl 1 rfl) ?_
  refine g_aal S hO (t0 := 3) (by decide) (sh_1 G ad _ _) rfl (vp_in_nI hu (by decide)) (v := .ref (ad (68 + u))) (by rw [nI_clamp (by omega)]; rfl) d_PR_place_16 ?_
  refine lv_astore (lv' := [(5, .ref (ad (68 + u))), (0, .ref (ad 0)), (1, .int (nI u)), (2, .int b), (3, .int d), (4, .int f)]) S.1 S.2.1 d_PR_place_17 hl (by decide) rfl (fun ls hl => ?_)
  refine lv_aload S.1 S.2.1 d_PR_place_19 (lv_at hl 0 rfl) ?_
  refine lv_iload_n S.1 S.2.1 d_PR_place_21 rfl (lv_at hl 3 rfl) ?_
  obtain ⟨s_3, hs_3⟩ : ∃ z : Nat → Nat → Int32, z = up2 σ (68 + u) 0 b := ⟨_, rfl⟩
  refine g_put S hO (fun _ h => h) fp_PR_70 (by omega) (sh_PL G ad _ _ (by omega)) (v := .int b) rfl rfl (Nat.le_of_ble_eq_true rfl) (E2 := enc G ad s_3 τ) (by rw [hs_3]; exact enc_i (sh_PL G ad _ _ (by omega))) d_PR_place_22 (fun H locs hO => ?_)
  refine lv_aload S.1 S.2.1 d_PR_place_25 (lv_at hl 0 rfl) ?_
  refine lv_iload_n S.1 S.2.1 d_PR_place_27 rfl (lv_at hl 4 rfl) ?_
  obtain ⟨s_4, hs_4⟩ : ∃ z : Nat → Nat → Int32, z = up2 s_3 (68 + u) 1 d := ⟨_, rfl⟩
  refine g_put S hO (fun _ h => h) fp_PR_74 (by omega) (sh_PL G ad _ _ (by omega)) (v := .int d) rfl rfl (Nat.le_of_ble_eq_true rfl) (E2 := enc G ad s_4 τ) (by rw [hs_4]; exact enc_i (sh_PL G ad _ _ (by omega))) d_PR_place_28 (fun H locs hO => ?_)
  refine lv_aload S.1 S.2.1 d_PR_place_31 (lv_at hl 0 rfl) ?_
  refine lv_iload S.1 S.2.1 d_PR_place_33 (lv_at hl 5 rfl) ?_
  obtain ⟨s_5, hs_5⟩ : ∃ z : Nat → Nat → Int32, z = up2 s_4 (68 + u) 2 f := ⟨_, rfl⟩
  refine g_put S hO (fun _ h => h) fp_PR_77 (by omega) (sh_PL G ad _ _ (by omega)) (v := .int f) rfl rfl (Nat.le_of_ble_eq_true rfl) (E2 := enc G ad s_5 τ) (by rw [hs_5]; exact enc_i (sh_PL G ad _ _ (by omega))) d_PR_place_35 (fun H locs hO => ?_)
  subst hs_5
  subst hs_4
  subst hs_3
  exact im_v S hk hr hO ⟨rfl, ⟨h_1, h_8⟩, by rw [nI_clamp (by omega)], rfl⟩ (Nat.le_of_ble_eq_true rfl) (Nat.le_of_ble_eq_true rfl) d_PR_place_38
set_option maxHeartbeats 4000000 in
set_option maxRecDepth 100000 in
theorem k_PR_limit (l : Launch) (hst : l.stackTraces = false) (G : gP) (ad : Nat → Nat) (σ : Nat → Nat → Int32) (τ : Nat → Nat → Int64) (a b d : Int32) : gim l y_PR_limit c_PR_limit 4 none { frames := 8, cells := 3, slots := 18, locals := 132 } G ad σ τ [.ref (ad 0), .int a, .int b, .int d] 3 18 (fun v σ1 τ1 => v = none ∧ (gwi a 0 11 ∧ gwi b 0 10000000 ∧ gwi d 0 7) ∧ σ1 = up2 (up2 σ (68 + a.toNatClampNeg) 3 b) (68 + a.toNatClampNeg) 4 d ∧ τ1 = τ) (fun x => x = "java/lang/IllegalArgumentException" ∧ ¬ (gwi a 0 11 ∧ gwi b 0 10000000 ∧ gwi d 0 7)) := by
  refine gs_of (fun _ h => h) (by decide) (Nat.le_of_ble_eq_true rfl) ?_
  intro p e s m args below meth c ls S hk hr hx hl hO
  have hl : lv_has ls 4 [(0, .ref (ad 0)), (1, .int a), (2, .int b), (3, .int d)] := hl
  refine lv_iload_n S.1 S.2.1 d_PR_limit_0 rfl (lv_at hl 1 rfl) ?_
  refine g_SP (As := [.int a]) (rest := []) S hO (k_PR_needPlace l hst G ad σ τ a) cw_PR_62 g_cfC hl.1 (Nat.le_of_ble_eq_true rfl) ⟨(Nat.le_of_ble_eq_true rfl), (Nat.le_of_ble_eq_true rfl)⟩ ⟨(Nat.le_of_ble_eq_true rfl), (Nat.le_of_ble_eq_true rfl)⟩ d_PR_limit_1 (fun q x ce H h9 hO hce hcv hcl => im_x hx hk hO hce hcv hcl (⟨h9.1, fun z => h9.2 z.1⟩) (Nat.le_of_ble_eq_true rfl) (Nat.le_of_ble_eq_true rfl)) (fun v H v_1 hO => ?_)
  obtain ⟨rfl, h_1⟩ := v_1
  refine W.eq (g2 := F0 m 4 ls []) rfl ?_
  obtain ⟨u, hu, rfl⟩ := gwi_n (n := 11) (by decide) h_1
  refine lv_iload_n S.1 S.2.1 d_PR_limit_4 rfl (lv_at hl 2 rfl) ?_
  refine lv_iconst (v := 0) S.1 S.2.1 d_PR_limit_5 (by decide) ?_
  refine lv_ldc (v := 10000000) S.1 S.2.1 S.2.2.2.1 (S.2.2.2.2 _ kv_PR_80) d_PR_limit_6 ?_
  refine g_SP (As := [.int b, .int 0, .int 10000000]) (rest := []) S hO (k_PR_needWithin l hst G ad σ τ b 0 10000000) cw_PR_81 g_cfC hl.1 (Nat.le_of_ble_eq_true rfl) ⟨(Nat.le_of_ble_eq_true rfl), (Nat.le_of_ble_eq_true rfl)⟩ ⟨(Nat.le_of_ble_eq_true rfl), (Nat.le_of_ble_eq_true rfl)⟩ d_PR_limit_8 (fun q x ce H h9 hO hce hcv hcl => im_x hx hk hO hce hcv hcl (⟨h9.1, fun z => h9.2 z.2.1⟩) (Nat.le_of_ble_eq_true rfl) (Nat.le_of_ble_eq_true rfl)) (fun v H v_2 hO => ?_)
  obtain ⟨rfl, h_8⟩ := v_2
  refine W.eq (g2 := F0 m 11 ls []) rfl ?_
  refine lv_iload_n S.1 S.2.1 d_PR_limit_11 rfl (lv_at hl 3 rfl) ?_
  refine lv_iconst (v := 0) S.1 S.2.1 d_PR_limit_12 (by decide) ?_
  refine lv_bipush (v := 7) S.1 S.2.1 d_PR_limit_13 (by decide) ?_
  refine g_SP (As := [.int d, .int 0, .int 7]) (rest := []) S hO (k_PR_needWithin l hst G ad σ τ d 0 7) cw_PR_81 g_cfC hl.1 (Nat.le_of_ble_eq_true rfl) ⟨(Nat.le_of_ble_eq_true rfl), (Nat.le_of_ble_eq_true rfl)⟩ ⟨(Nat.le_of_ble_eq_true rfl), (Nat.le_of_ble_eq_true rfl)⟩ d_PR_limit_15 (fun q x ce H h9 hO hce hcv hcl => im_x hx hk hO hce hcv hcl (⟨h9.1, fun z => h9.2 z.2.2⟩) (Nat.le_of_ble_eq_true rfl) (Nat.le_of_ble_eq_true rfl)) (fun v H v_3 hO => ?_)
  obtain ⟨rfl, h_15⟩ := v_3
  refine W.eq (g2 := F0 m 18 ls []) rfl ?_
  refine lv_aload_n S.1 S.2.1 d_PR_limit_18 rfl (lv_at hl 0 rfl) ?_
  refine g_get S hO fl_PR_11 (by decide) (sh_0 G ad _ _) (v := .ref (ad 1)) rfl d_PR_limit_19 ?_
  refine lv_iload_n S.1 S.2.1 d_PR_limit_22 rfl (lv_at hl 1 rfl) ?_
  refine g_aal S hO (t0 := 3) (by decide) (sh_1 G ad _ _) rfl (vp_in_nI hu (by decide)) (v := .ref (ad (68 + u))) (by rw [nI_clamp (by omega)]; rfl) d_PR_limit_23 ?_
  refine lv_iload_n S.1 S.2.1 d_PR_limit_24 rfl (lv_at hl 2 rfl) ?_
  obtain ⟨s_4, hs_4⟩ : ∃ z : Nat → Nat → Int32, z = up2 σ (68 + u) 3 b := ⟨_, rfl⟩
  refine g_put S hO (fun _ h => h) fp_PR_84 (by omega) (sh_PL G ad _ _ (by omega)) (v := .int b) rfl rfl (Nat.le_of_ble_eq_true rfl) (E2 := enc G ad s_4 τ) (by rw [hs_4]; exact enc_i (sh_PL G ad _ _ (by omega))) d_PR_limit_25 (fun H locs hO => ?_)
  refine lv_aload_n S.1 S.2.1 d_PR_limit_28 rfl (lv_at hl 0 rfl) ?_
  refine g_get S hO fl_PR_11 (by decide) (sh_0 G ad _ _) (v := .ref (ad 1)) rfl d_PR_limit_29 ?_
  refine lv_iload_n S.1 S.2.1 d_PR_limit_32 rfl (lv_at hl 1 rfl) ?_
  refine g_aal S hO (t0 := 3) (by decide) (sh_1 G ad _ _) rfl (vp_in_nI hu (by decide)) (v := .ref (ad (68 + u))) (by rw [nI_clamp (by omega)]; rfl) d_PR_limit_33 ?_
  refine lv_iload_n S.1 S.2.1 d_PR_limit_34 rfl (lv_at hl 3 rfl) ?_
  obtain ⟨s_5, hs_5⟩ : ∃ z : Nat → Nat → Int32, z = up2 s_4 (68 + u) 4 d := ⟨_, rfl⟩
  refine g_put S hO (fun _ h => h) fp_PR_87 (by omega) (sh_PL G ad _ _ (by omega)) (v := .int d) rfl rfl (Nat.le_of_ble_eq_true rfl) (E2 := enc G ad s_5 τ) (by rw [hs_5]; exact enc_i (sh_PL G ad _ _ (by omega))) d_PR_limit_35 (fun H locs hO => ?_)
  subst hs_5
  subst hs_4
  exact im_v S hk hr hO ⟨rfl, ⟨h_1, h_8, h_15⟩, by rw [nI_clamp (by omega)], rfl⟩ (Nat.le_of_ble_eq_true rfl) (Nat.le_of_ble_eq_true rfl) d_PR_limit_38
set_option maxHeartbeats 4000000 in
set_option maxRecDepth 100000 in
theorem k_PR_unit (l : Launch) (hst : l.stackTraces = false) (G : gP) (ad : Nat → Nat) (σ : Nat → Nat → Int32) (τ : Nat → Nat → Int64) (a b d : Int32) (nu : Nat) (hnu : σ 0 2 = nI nu) (hn4 : nu ≤ 40) : gim l y_PR_unit c_PR_unit 5 (some .int) { frames := 7, cells := 4, slots := 24, locals := 112 } G ad σ τ [.ref (ad 0), .int a, .int b, .int d] 4 24 (fun v σ1 τ1 => v = some (.int (σ1 0 2 - 1)) ∧ (gwi a 0 99 ∧ gwi b 0 99 ∧ gwi d 0 7) ∧ σ 0 2 < 40 ∧ σ1 = up2 (up2 (up2 (up2 σ (80 + nu) 0 a) (80 + nu) 1 b) (80 + nu) 2 d) 0 2 ((up2 (up2 (up2 σ (80 + nu) 0 a) (80 + nu) 1 b) (80 + nu) 2 d) 0 2 + 1) ∧ τ1 = τ) (fun x => (x = "java/lang/IllegalArgumentException" ∧ ¬ (gwi a 0 99 ∧ gwi b 0 99 ∧ gwi d 0 7)) ∨ ((gwi a 0 99 ∧ gwi b 0 99 ∧ gwi d 0 7) ∧ x = "java/lang/UnsupportedOperationException" ∧ ¬ σ 0 2 < 40)) := by
  refine gs_of (fun _ h => h) (by decide) (Nat.le_of_ble_eq_true rfl) ?_
  intro p e s m args below meth c ls S hk hr hx hl hO
  have hl : lv_has ls 5 [(0, .ref (ad 0)), (1, .int a), (2, .int b), (3, .int d)] := hl
  refine lv_iload_n S.1 S.2.1 d_PR_unit_0 rfl (lv_at hl 1 rfl) ?_
  refine lv_iconst (v := 0) S.1 S.2.1 d_PR_unit_1 (by decide) ?_
  refine lv_bipush (v := 99) S.1 S.2.1 d_PR_unit_2 (by decide) ?_
  refine g_SP (As := [.int a, .int 0, .int 99]) (rest := []) S hO (k_PR_needWithin l hst G ad σ τ a 0 99) cw_PR_81 g_cfC hl.1 (Nat.le_of_ble_eq_true rfl) ⟨(Nat.le_of_ble_eq_true rfl), (Nat.le_of_ble_eq_true rfl)⟩ ⟨(Nat.le_of_ble_eq_true rfl), (Nat.le_of_ble_eq_true rfl)⟩ d_PR_unit_4 (fun q x ce H h9 hO hce hcv hcl => im_x hx hk hO hce hcv hcl (Or.inl ⟨h9.1, fun z => h9.2 z.1⟩) (Nat.le_of_ble_eq_true rfl) (Nat.le_of_ble_eq_true rfl)) (fun v H v_1 hO => ?_)
  obtain ⟨rfl, h_4⟩ := v_1
  refine W.eq (g2 := F0 m 7 ls []) rfl ?_
  refine lv_iload_n S.1 S.2.1 d_PR_unit_7 rfl (lv_at hl 2 rfl) ?_
  refine lv_iconst (v := 0) S.1 S.2.1 d_PR_unit_8 (by decide) ?_
  refine lv_bipush (v := 99) S.1 S.2.1 d_PR_unit_9 (by decide) ?_
  refine g_SP (As := [.int b, .int 0, .int 99]) (rest := []) S hO (k_PR_needWithin l hst G ad σ τ b 0 99) cw_PR_81 g_cfC hl.1 (Nat.le_of_ble_eq_true rfl) ⟨(Nat.le_of_ble_eq_true rfl), (Nat.le_of_ble_eq_true rfl)⟩ ⟨(Nat.le_of_ble_eq_true rfl), (Nat.le_of_ble_eq_true rfl)⟩ d_PR_unit_11 (fun q x ce H h9 hO hce hcv hcl => im_x hx hk hO hce hcv hcl (Or.inl ⟨h9.1, fun z => h9.2 z.2.1⟩) (Nat.le_of_ble_eq_true rfl) (Nat.le_of_ble_eq_true rfl)) (fun v H v_2 hO => ?_)
  obtain ⟨rfl, h_11⟩ := v_2
  refine W.eq (g2 := F0 m 14 ls []) rfl ?_
  refine lv_iload_n S.1 S.2.1 d_PR_unit_14 rfl (lv_at hl 3 rfl) ?_
  refine lv_iconst (v := 0) S.1 S.2.1 d_PR_unit_15 (by decide) ?_
  refine lv_bipush (v := 7) S.1 S.2.1 d_PR_unit_16 (by decide) ?_
  refine g_SP (As := [.int d, .int 0, .int 7]) (rest := []) S hO (k_PR_needWithin l hst G ad σ τ d 0 7) cw_PR_81 g_cfC hl.1 (Nat.le_of_ble_eq_true rfl) ⟨(Nat.le_of_ble_eq_true rfl), (Nat.le_of_ble_eq_true rfl)⟩ ⟨(Nat.le_of_ble_eq_true rfl), (Nat.le_of_ble_eq_true rfl)⟩ d_PR_unit_18 (fun q x ce H h9 hO hce hcv hcl => im_x hx hk hO hce hcv hcl (Or.inl ⟨h9.1, fun z => h9.2 z.2.2⟩) (Nat.le_of_ble_eq_true rfl) (Nat.le_of_ble_eq_true rfl)) (fun v H v_3 hO => ?_)
  obtain ⟨rfl, h_18⟩ := v_3
  refine W.eq (g2 := F0 m 21 ls []) rfl ?_
  refine lv_aload_n S.1 S.2.1 d_PR_unit_21 rfl (lv_at hl 0 rfl) ?_
  refine g_get S hO fl_PR_90 (by decide) (sh_0 G ad _ _) (v := .int (σ 0 2)) rfl d_PR_unit_22 ?_
  refine lv_bipush (v := 40) S.1 S.2.1 d_PR_unit_25 (by decide) ?_
  refine lv_icmp_lt (tgt := 40) S.1 S.2.1 d_PR_unit_27 (by decide) (fun c_27 => ?_) (fun c_27 => ?_)
  · skip
    have hu : nu < 40 := lt_nI hnu (by decide) (by omega) (by decide) c_27
    refine lv_aload_n S.1 S.2.1 d_PR_unit_40 rfl (lv_at hl 0 rfl) ?_
    refine g_get S hO fl_PR_17 (by decide) (sh_0 G ad _ _) (v := .ref (ad 2)) rfl d_PR_unit_41 ?_
    refine lv_aload_n S.1 S.2.1 d_PR_unit_44 rfl (lv_at hl 0 rfl) ?_
    refine g_get S hO fl_PR_90 (by decide) (sh_0 G ad _ _) (v := .int (σ 0 2)) rfl d_PR_unit_45 ?_
    refine g_aal S hO (t0 := 4) (by decide) (sh_2 G ad _ _) rfl (by rw [hnu]; exact vp_in_nI hu (by decide)) (v := .ref (ad (80 + nu))) (by rw [hnu, nI_clamp (by omega)]; rfl) d_PR_unit_48 ?_
    refine lv_astore (lv' := [(4, .ref (ad (80 + nu))), (0, .ref (ad 0)), (1, .int a), (2, .int b), (3, .int d)]) S.1 S.2.1 d_PR_unit_49 hl (by decide) rfl (fun ls hl => ?_)
    refine lv_aload S.1 S.2.1 d_PR_unit_51 (lv_at hl 0 rfl) ?_
    refine lv_iload_n S.1 S.2.1 d_PR_unit_53 rfl (lv_at hl 2 rfl) ?_
    obtain ⟨s_4, hs_4⟩ : ∃ z : Nat → Nat → Int32, z = up2 σ (80 + nu) 0 a := ⟨_, rfl⟩
    refine g_put S hO (fun _ h => h) fp_PR_100 (by omega) (sh_UN G ad _ _ (by omega)) (v := .int a) rfl rfl (Nat.le_of_ble_eq_true rfl) (E2 := enc G ad s_4 τ) (by rw [hs_4]; exact enc_i (sh_UN G ad _ _ (by omega))) d_PR_unit_54 (fun H locs hO => ?_)
    refine lv_aload S.1 S.2.1 d_PR_unit_57 (lv_at hl 0 rfl) ?_
    refine lv_iload_n S.1 S.2.1 d_PR_unit_59 rfl (lv_at hl 3 rfl) ?_
    obtain ⟨s_5, hs_5⟩ : ∃ z : Nat → Nat → Int32, z = up2 s_4 (80 + nu) 1 b := ⟨_, rfl⟩
    refine g_put S hO (fun _ h => h) fp_PR_103 (by omega) (sh_UN G ad _ _ (by omega)) (v := .int b) rfl rfl (Nat.le_of_ble_eq_true rfl) (E2 := enc G ad s_5 τ) (by rw [hs_5]; exact enc_i (sh_UN G ad _ _ (by omega))) d_PR_unit_60 (fun H locs hO => ?_)
    refine lv_aload S.1 S.2.1 d_PR_unit_63 (lv_at hl 0 rfl) ?_
    refine lv_iload_n S.1 S.2.1 d_PR_unit_65 rfl (lv_at hl 4 rfl) ?_
    obtain ⟨s_6, hs_6⟩ : ∃ z : Nat → Nat → Int32, z = up2 s_5 (80 + nu) 2 d := ⟨_, rfl⟩
    refine g_put S hO (fun _ h => h) fp_PR_106 (by omega) (sh_UN G ad _ _ (by omega)) (v := .int d) rfl rfl (Nat.le_of_ble_eq_true rfl) (E2 := enc G ad s_6 τ) (by rw [hs_6]; exact enc_i (sh_UN G ad _ _ (by omega))) d_PR_unit_66 (fun H locs hO => ?_)
    refine lv_aload_n S.1 S.2.1 d_PR_unit_69 rfl (lv_at hl 1 rfl) ?_
    refine lv_dup S.1 S.2.1 d_PR_unit_70 rfl ?_
    refine g_get S hO fl_PR_90 (by decide) (sh_0 G ad _ _) (v := .int (s_6 0 2)) rfl d_PR_unit_71 ?_
    refine lv_iconst (v := 1) S.1 S.2.1 d_PR_unit_74 (by decide) ?_
    refine lv_iadd S.1 S.2.1 d_PR_unit_75 ?_
    obtain ⟨s_7, hs_7⟩ : ∃ z : Nat → Nat → Int32, z = up2 s_6 0 2 ((s_6 0 2) + 1) := ⟨_, rfl⟩
    refine g_put S hO (fun _ h => h) fp_PR_90 (by decide) (sh_0 G ad _ _) (v := .int ((s_6 0 2) + 1)) rfl rfl (Nat.le_of_ble_eq_true rfl) (E2 := enc G ad s_7 τ) (by rw [hs_7]; exact enc_i (sh_0 G ad _ _)) d_PR_unit_76 (fun H locs hO => ?_)
    refine lv_aload_n S.1 S.2.1 d_PR_unit_79 rfl (lv_at hl 1 rfl) ?_
    refine g_get S hO fl_PR_90 (by decide) (sh_0 G ad _ _) (v := .int (s_7 0 2)) rfl d_PR_unit_80 ?_
    refine lv_iconst (v := 1) S.1 S.2.1 d_PR_unit_83 (by decide) ?_
    refine lv_isub S.1 S.2.1 d_PR_unit_84 ?_
    subst hs_7
    subst hs_6
    subst hs_5
    subst hs_4
    exact im_i S hk hr hO ⟨rfl, ⟨h_4, h_11, h_18⟩, c_27, rfl, rfl⟩ (Nat.le_of_ble_eq_true rfl) (Nat.le_of_ble_eq_true rfl) d_PR_unit_85
  · skip
    exact g_throwN S hst hO xw_UOE (hO.2.2.2.2.2.2.2.2.1 0 (by decide)) hl.1 hx hk (Nat.le_of_ble_eq_true rfl) (Nat.le_of_ble_eq_true rfl) ⟨(Nat.le_of_ble_eq_true rfl), (Nat.le_of_ble_eq_true rfl)⟩ (Nat.le_of_ble_eq_true rfl) (Nat.le_of_ble_eq_true rfl) (fun t ht => ⟨Or.inr ⟨⟨h_4, h_11, h_18⟩, rfl, c_27⟩, hO.2.1.kept (fun k q hk => ht q.1 ((hO.2.1 k q hk).lt))⟩) d_PR_unit_30 d_PR_unit_33 d_PR_unit_34 d_PR_unit_36 d_PR_unit_39
set_option maxHeartbeats 4000000 in
set_option maxRecDepth 100000 in
theorem k_PR_size (l : Launch) (hst : l.stackTraces = false) (G : gP) (ad : Nat → Nat) (σ : Nat → Nat → Int32) (τ : Nat → Nat → Int64) (a b d f g : Int32) (nu : Nat) (hnu : σ 0 2 = nI nu) (hn4 : nu ≤ 40) : gim l y_PR_size c_PR_size 7 none { frames := 8, cells := 6, slots := 36, locals := 134 } G ad σ τ [.ref (ad 0), .int a, .int b, .int d, .int f, .int g] 6 36 (fun v σ1 τ1 => v = none ∧ (¬ a < 0 ∧ a < σ 0 2) ∧ (gwi b 1 9999 ∧ gwi d 1 9999 ∧ gwi f 1 9999 ∧ gwi g 1 1000000) ∧ σ (80 + a.toNatClampNeg) 10 = (-1) ∧ σ1 = up2 (up2 (up2 (up2 σ (80 + a.toNatClampNeg) 3 b) (80 + a.toNatClampNeg) 4 d) (80 + a.toNatClampNeg) 5 f) (80 + a.toNatClampNeg) 6 g ∧ τ1 = τ) (fun x => (x = "java/util/NoSuchElementException" ∧ ¬ (¬ a < 0 ∧ a < σ 0 2)) ∨ ((¬ a < 0 ∧ a < σ 0 2) ∧ x = "java/lang/IllegalArgumentException" ∧ ¬ (gwi b 1 9999 ∧ gwi d 1 9999 ∧ gwi f 1 9999 ∧ gwi g 1 1000000)) ∨ ((¬ a < 0 ∧ a < σ 0 2) ∧ (gwi b 1 9999 ∧ gwi d 1 9999 ∧ gwi f 1 9999 ∧ gwi g 1 1000000) ∧ x = "java/lang/IllegalStateException" ∧ ¬ σ (80 + a.toNatClampNeg) 10 = (-1))) := by
  refine gs_of (fun _ h => h) (by decide) (Nat.le_of_ble_eq_true rfl) ?_
  intro p e s m args below meth c ls S hk hr hx hl hO
  have hl : lv_has ls 7 [(0, .ref (ad 0)), (1, .int a), (2, .int b), (3, .int d), (4, .int f), (5, .int g)] := hl
  refine lv_aload_n S.1 S.2.1 d_PR_size_0 rfl (lv_at hl 0 rfl) ?_
  refine lv_iload_n S.1 S.2.1 d_PR_size_1 rfl (lv_at hl 1 rfl) ?_
  refine g_VP (As := [.int a]) (rest := []) S hO (k_PR_needUnit l hst G ad σ τ a) cw_PR_109 (by decide) (sh_0 G ad _ _) rfl rfl hl.1 (Nat.le_of_ble_eq_true rfl) ⟨(Nat.le_of_ble_eq_true rfl), (Nat.le_of_ble_eq_true rfl)⟩ ⟨(Nat.le_of_ble_eq_true rfl), (Nat.le_of_ble_eq_true rfl)⟩ d_PR_size_2 (fun q x ce H h9 hO hce hcv hcl => im_x hx hk hO hce hcv hcl (Or.inl h9) (Nat.le_of_ble_eq_true rfl) (Nat.le_of_ble_eq_true rfl)) (fun v H v_1 hO => ?_)
  obtain ⟨rfl, h_2⟩ := v_1
  refine W.eq (g2 := F0 m 5 ls []) rfl ?_
  obtain ⟨u, hu, rfl⟩ := uni_n hnu (by omega) h_2
  refine lv_iload_n S.1 S.2.1 d_PR_size_5 rfl (lv_at hl 2 rfl) ?_
  refine lv_iload_n S.1 S.2.1 d_PR_size_6 rfl (lv_at hl 3 rfl) ?_
  refine lv_iload S.1 S.2.1 d_PR_size_7 (lv_at hl 4 rfl) ?_
  refine g_SP (As := [.int b, .int d, .int f]) (rest := []) S hO (k_PR_needLengths l hst G ad σ τ b d f) cw_PR_66 g_cfC hl.1 (Nat.le_of_ble_eq_true rfl) ⟨(Nat.le_of_ble_eq_true rfl), (Nat.le_of_ble_eq_true rfl)⟩ ⟨(Nat.le_of_ble_eq_true rfl), (Nat.le_of_ble_eq_true rfl)⟩ d_PR_size_9 (fun q x ce H h9 hO hce hcv hcl => im_x hx hk hO hce hcv hcl (Or.inr (Or.inl ⟨h_2, h9.1, fun z => h9.2 ⟨z.1, z.2.1, z.2.2.1⟩⟩)) (Nat.le_of_ble_eq_true rfl) (Nat.le_of_ble_eq_true rfl)) (fun v H v_2 hO => ?_)
  obtain ⟨rfl, h_9⟩ := v_2
  refine W.eq (g2 := F0 m 12 ls []) rfl ?_
  refine lv_iload S.1 S.2.1 d_PR_size_12 (lv_at hl 5 rfl) ?_
  refine lv_iconst (v := 1) S.1 S.2.1 d_PR_size_14 (by decide) ?_
  refine lv_ldc (v := 1000000) S.1 S.2.1 S.2.2.2.1 (S.2.2.2.2 _ kv_PR_112) d_PR_size_15 ?_
  refine g_SP (As := [.int g, .int 1, .int 1000000]) (rest := []) S hO (k_PR_needWithin l hst G ad σ τ g 1 1000000) cw_PR_81 g_cfC hl.1 (Nat.le_of_ble_eq_true rfl) ⟨(Nat.le_of_ble_eq_true rfl), (Nat.le_of_ble_eq_true rfl)⟩ ⟨(Nat.le_of_ble_eq_true rfl), (Nat.le_of_ble_eq_true rfl)⟩ d_PR_size_17 (fun q x ce H h9 hO hce hcv hcl => im_x hx hk hO hce hcv hcl (Or.inr (Or.inl ⟨h_2, h9.1, fun z => h9.2 z.2.2.2⟩)) (Nat.le_of_ble_eq_true rfl) (Nat.le_of_ble_eq_true rfl)) (fun v H v_3 hO => ?_)
  obtain ⟨rfl, h_17⟩ := v_3
  refine W.eq (g2 := F0 m 20 ls []) rfl ?_
  refine lv_aload_n S.1 S.2.1 d_PR_size_20 rfl (lv_at hl 0 rfl) ?_
  refine lv_iload_n S.1 S.2.1 d_PR_size_21 rfl (lv_at hl 1 rfl) ?_
  refine g_VP (As := [.int (nI u)]) (rest := []) S hO (k_PR_needNowhere l hst G ad σ τ u (by omega)) cw_PR_113 (by decide) (sh_0 G ad _ _) rfl rfl hl.1 (Nat.le_of_ble_eq_true rfl) ⟨(Nat.le_of_ble_eq_true rfl), (Nat.le_of_ble_eq_true rfl)⟩ ⟨(Nat.le_of_ble_eq_true rfl), (Nat.le_of_ble_eq_true rfl)⟩ d_PR_size_22 (fun q x ce H h9 hO hce hcv hcl => im_x hx hk hO hce hcv hcl (Or.inr (Or.inr ⟨h_2, ⟨h_9.1, h_9.2.1, h_9.2.2, h_17⟩, h9.1, by rw [nI_clamp (by omega)]; exact h9.2⟩)) (Nat.le_of_ble_eq_true rfl) (Nat.le_of_ble_eq_true rfl)) (fun v H v_4 hO => ?_)
  obtain ⟨rfl, h_22⟩ := v_4
  refine W.eq (g2 := F0 m 25 ls []) rfl ?_
  refine lv_aload_n S.1 S.2.1 d_PR_size_25 rfl (lv_at hl 0 rfl) ?_
  refine g_get S hO fl_PR_17 (by decide) (sh_0 G ad _ _) (v := .ref (ad 2)) rfl d_PR_size_26 ?_
  refine lv_iload_n S.1 S.2.1 d_PR_size_29 rfl (lv_at hl 1 rfl) ?_
  refine g_aal S hO (t0 := 4) (by decide) (sh_2 G ad _ _) rfl (vp_in_nI (show u < 40 by omega) (by decide)) (v := .ref (ad (80 + u))) (by rw [nI_clamp (by omega)]; rfl) d_PR_size_30 ?_
  refine lv_astore (lv' := [(6, .ref (ad (80 + u))), (0, .ref (ad 0)), (1, .int (nI u)), (2, .int b), (3, .int d), (4, .int f), (5, .int g)]) S.1 S.2.1 d_PR_size_31 hl (by decide) rfl (fun ls hl => ?_)
  refine lv_aload S.1 S.2.1 d_PR_size_33 (lv_at hl 0 rfl) ?_
  refine lv_iload_n S.1 S.2.1 d_PR_size_35 rfl (lv_at hl 3 rfl) ?_
  obtain ⟨s_5, hs_5⟩ : ∃ z : Nat → Nat → Int32, z = up2 σ (80 + u) 3 b := ⟨_, rfl⟩
  refine g_put S hO (fun _ h => h) fp_PR_116 (by omega) (sh_UN G ad _ _ (by omega)) (v := .int b) rfl rfl (Nat.le_of_ble_eq_true rfl) (E2 := enc G ad s_5 τ) (by rw [hs_5]; exact enc_i (sh_UN G ad _ _ (by omega))) d_PR_size_36 (fun H locs hO => ?_)
  refine lv_aload S.1 S.2.1 d_PR_size_39 (lv_at hl 0 rfl) ?_
  refine lv_iload_n S.1 S.2.1 d_PR_size_41 rfl (lv_at hl 4 rfl) ?_
  obtain ⟨s_6, hs_6⟩ : ∃ z : Nat → Nat → Int32, z = up2 s_5 (80 + u) 4 d := ⟨_, rfl⟩
  refine g_put S hO (fun _ h => h) fp_PR_117 (by omega) (sh_UN G ad _ _ (by omega)) (v := .int d) rfl rfl (Nat.le_of_ble_eq_true rfl) (E2 := enc G ad s_6 τ) (by rw [hs_6]; exact enc_i (sh_UN G ad _ _ (by omega))) d_PR_size_42 (fun H locs hO => ?_)
  refine lv_aload S.1 S.2.1 d_PR_size_45 (lv_at hl 0 rfl) ?_
  refine lv_iload S.1 S.2.1 d_PR_size_47 (lv_at hl 5 rfl) ?_
  obtain ⟨s_7, hs_7⟩ : ∃ z : Nat → Nat → Int32, z = up2 s_6 (80 + u) 5 f := ⟨_, rfl⟩
  refine g_put S hO (fun _ h => h) fp_PR_118 (by omega) (sh_UN G ad _ _ (by omega)) (v := .int f) rfl rfl (Nat.le_of_ble_eq_true rfl) (E2 := enc G ad s_7 τ) (by rw [hs_7]; exact enc_i (sh_UN G ad _ _ (by omega))) d_PR_size_49 (fun H locs hO => ?_)
  refine lv_aload S.1 S.2.1 d_PR_size_52 (lv_at hl 0 rfl) ?_
  refine lv_iload S.1 S.2.1 d_PR_size_54 (lv_at hl 6 rfl) ?_
  obtain ⟨s_8, hs_8⟩ : ∃ z : Nat → Nat → Int32, z = up2 s_7 (80 + u) 6 g := ⟨_, rfl⟩
  refine g_put S hO (fun _ h => h) fp_PR_119 (by omega) (sh_UN G ad _ _ (by omega)) (v := .int g) rfl rfl (Nat.le_of_ble_eq_true rfl) (E2 := enc G ad s_8 τ) (by rw [hs_8]; exact enc_i (sh_UN G ad _ _ (by omega))) d_PR_size_56 (fun H locs hO => ?_)
  subst hs_8
  subst hs_7
  subst hs_6
  subst hs_5
  exact im_v S hk hr hO ⟨rfl, h_2, ⟨h_9.1, h_9.2.1, h_9.2.2, h_17⟩, by rw [nI_clamp (by omega)]; exact h_22, by rw [nI_clamp (by omega)], rfl⟩ (Nat.le_of_ble_eq_true rfl) (Nat.le_of_ble_eq_true rfl) d_PR_size_59
set_option maxHeartbeats 4000000 in
set_option maxRecDepth 100000 in
theorem k_PR_nature (l : Launch) (hst : l.stackTraces = false) (G : gP) (ad : Nat → Nat) (σ : Nat → Nat → Int32) (τ : Nat → Nat → Int64) (a b d f : Int32) (nu : Nat) (hnu : σ 0 2 = nI nu) (hn4 : nu ≤ 40) : gim l y_PR_nature c_PR_nature 6 none { frames := 7, cells := 6, slots := 36, locals := 112 } G ad σ τ [.ref (ad 0), .int a, .int b, .int d, .int f] 6 36 (fun v σ1 τ1 => v = none ∧ (¬ a < 0 ∧ a < σ 0 2) ∧ (gwi b 0 7 ∧ gwi d 0 7 ∧ gwi f 0 1000) ∧ σ (80 + a.toNatClampNeg) 10 = (-1) ∧ σ1 = up2 (up2 (up2 σ (80 + a.toNatClampNeg) 7 b) (80 + a.toNatClampNeg) 8 d) (80 + a.toNatClampNeg) 9 f ∧ τ1 = τ) (fun x => (x = "java/util/NoSuchElementException" ∧ ¬ (¬ a < 0 ∧ a < σ 0 2)) ∨ ((¬ a < 0 ∧ a < σ 0 2) ∧ x = "java/lang/IllegalArgumentException" ∧ ¬ (gwi b 0 7 ∧ gwi d 0 7 ∧ gwi f 0 1000)) ∨ ((¬ a < 0 ∧ a < σ 0 2) ∧ (gwi b 0 7 ∧ gwi d 0 7 ∧ gwi f 0 1000) ∧ x = "java/lang/IllegalStateException" ∧ ¬ σ (80 + a.toNatClampNeg) 10 = (-1))) := by
  refine gs_of (fun _ h => h) (by decide) (Nat.le_of_ble_eq_true rfl) ?_
  intro p e s m args below meth c ls S hk hr hx hl hO
  have hl : lv_has ls 6 [(0, .ref (ad 0)), (1, .int a), (2, .int b), (3, .int d), (4, .int f)] := hl
  refine lv_aload_n S.1 S.2.1 d_PR_nature_0 rfl (lv_at hl 0 rfl) ?_
  refine lv_iload_n S.1 S.2.1 d_PR_nature_1 rfl (lv_at hl 1 rfl) ?_
  refine g_VP (As := [.int a]) (rest := []) S hO (k_PR_needUnit l hst G ad σ τ a) cw_PR_109 (by decide) (sh_0 G ad _ _) rfl rfl hl.1 (Nat.le_of_ble_eq_true rfl) ⟨(Nat.le_of_ble_eq_true rfl), (Nat.le_of_ble_eq_true rfl)⟩ ⟨(Nat.le_of_ble_eq_true rfl), (Nat.le_of_ble_eq_true rfl)⟩ d_PR_nature_2 (fun q x ce H h9 hO hce hcv hcl => im_x hx hk hO hce hcv hcl (Or.inl h9) (Nat.le_of_ble_eq_true rfl) (Nat.le_of_ble_eq_true rfl)) (fun v H v_1 hO => ?_)
  obtain ⟨rfl, h_2⟩ := v_1
  refine W.eq (g2 := F0 m 5 ls []) rfl ?_
  obtain ⟨u, hu, rfl⟩ := uni_n hnu (by omega) h_2
  refine lv_iload_n S.1 S.2.1 d_PR_nature_5 rfl (lv_at hl 2 rfl) ?_
  refine lv_iconst (v := 0) S.1 S.2.1 d_PR_nature_6 (by decide) ?_
  refine lv_bipush (v := 7) S.1 S.2.1 d_PR_nature_7 (by decide) ?_
  refine g_SP (As := [.int b, .int 0, .int 7]) (rest := []) S hO (k_PR_needWithin l hst G ad σ τ b 0 7) cw_PR_81 g_cfC hl.1 (Nat.le_of_ble_eq_true rfl) ⟨(Nat.le_of_ble_eq_true rfl), (Nat.le_of_ble_eq_true rfl)⟩ ⟨(Nat.le_of_ble_eq_true rfl), (Nat.le_of_ble_eq_true rfl)⟩ d_PR_nature_9 (fun q x ce H h9 hO hce hcv hcl => im_x hx hk hO hce hcv hcl (Or.inr (Or.inl ⟨h_2, h9.1, fun z => h9.2 z.1⟩)) (Nat.le_of_ble_eq_true rfl) (Nat.le_of_ble_eq_true rfl)) (fun v H v_2 hO => ?_)
  obtain ⟨rfl, h_9⟩ := v_2
  refine W.eq (g2 := F0 m 12 ls []) rfl ?_
  refine lv_iload_n S.1 S.2.1 d_PR_nature_12 rfl (lv_at hl 3 rfl) ?_
  refine lv_iconst (v := 0) S.1 S.2.1 d_PR_nature_13 (by decide) ?_
  refine lv_bipush (v := 7) S.1 S.2.1 d_PR_nature_14 (by decide) ?_
  refine g_SP (As := [.int d, .int 0, .int 7]) (rest := []) S hO (k_PR_needWithin l hst G ad σ τ d 0 7) cw_PR_81 g_cfC hl.1 (Nat.le_of_ble_eq_true rfl) ⟨(Nat.le_of_ble_eq_true rfl), (Nat.le_of_ble_eq_true rfl)⟩ ⟨(Nat.le_of_ble_eq_true rfl), (Nat.le_of_ble_eq_true rfl)⟩ d_PR_nature_16 (fun q x ce H h9 hO hce hcv hcl => im_x hx hk hO hce hcv hcl (Or.inr (Or.inl ⟨h_2, h9.1, fun z => h9.2 z.2.1⟩)) (Nat.le_of_ble_eq_true rfl) (Nat.le_of_ble_eq_true rfl)) (fun v H v_3 hO => ?_)
  obtain ⟨rfl, h_16⟩ := v_3
  refine W.eq (g2 := F0 m 19 ls []) rfl ?_
  refine lv_iload S.1 S.2.1 d_PR_nature_19 (lv_at hl 4 rfl) ?_
  refine lv_iconst (v := 0) S.1 S.2.1 d_PR_nature_21 (by decide) ?_
  refine lv_sipush (v := 1000) S.1 S.2.1 d_PR_nature_22 (by decide) ?_
  refine g_SP (As := [.int f, .int 0, .int 1000]) (rest := []) S hO (k_PR_needWithin l hst G ad σ τ f 0 1000) cw_PR_81 g_cfC hl.1 (Nat.le_of_ble_eq_true rfl) ⟨(Nat.le_of_ble_eq_true rfl), (Nat.le_of_ble_eq_true rfl)⟩ ⟨(Nat.le_of_ble_eq_true rfl), (Nat.le_of_ble_eq_true rfl)⟩ d_PR_nature_25 (fun q x ce H h9 hO hce hcv hcl => im_x hx hk hO hce hcv hcl (Or.inr (Or.inl ⟨h_2, h9.1, fun z => h9.2 z.2.2⟩)) (Nat.le_of_ble_eq_true rfl) (Nat.le_of_ble_eq_true rfl)) (fun v H v_4 hO => ?_)
  obtain ⟨rfl, h_25⟩ := v_4
  refine W.eq (g2 := F0 m 28 ls []) rfl ?_
  refine lv_aload_n S.1 S.2.1 d_PR_nature_28 rfl (lv_at hl 0 rfl) ?_
  refine lv_iload_n S.1 S.2.1 d_PR_nature_29 rfl (lv_at hl 1 rfl) ?_
  refine g_VP (As := [.int (nI u)]) (rest := []) S hO (k_PR_needNowhere l hst G ad σ τ u (by omega)) cw_PR_113 (by decide) (sh_0 G ad _ _) rfl rfl hl.1 (Nat.le_of_ble_eq_true rfl) ⟨(Nat.le_of_ble_eq_true rfl), (Nat.le_of_ble_eq_true rfl)⟩ ⟨(Nat.le_of_ble_eq_true rfl), (Nat.le_of_ble_eq_true rfl)⟩ d_PR_nature_30 (fun q x ce H h9 hO hce hcv hcl => im_x hx hk hO hce hcv hcl (Or.inr (Or.inr ⟨h_2, ⟨h_9, h_16, h_25⟩, h9.1, by rw [nI_clamp (by omega)]; exact h9.2⟩)) (Nat.le_of_ble_eq_true rfl) (Nat.le_of_ble_eq_true rfl)) (fun v H v_5 hO => ?_)
  obtain ⟨rfl, h_30⟩ := v_5
  refine W.eq (g2 := F0 m 33 ls []) rfl ?_
  refine lv_aload_n S.1 S.2.1 d_PR_nature_33 rfl (lv_at hl 0 rfl) ?_
  refine g_get S hO fl_PR_17 (by decide) (sh_0 G ad _ _) (v := .ref (ad 2)) rfl d_PR_nature_34 ?_
  refine lv_iload_n S.1 S.2.1 d_PR_nature_37 rfl (lv_at hl 1 rfl) ?_
  refine g_aal S hO (t0 := 4) (by decide) (sh_2 G ad _ _) rfl (vp_in_nI (show u < 40 by omega) (by decide)) (v := .ref (ad (80 + u))) (by rw [nI_clamp (by omega)]; rfl) d_PR_nature_38 ?_
  refine lv_astore (lv' := [(5, .ref (ad (80 + u))), (0, .ref (ad 0)), (1, .int (nI u)), (2, .int b), (3, .int d), (4, .int f)]) S.1 S.2.1 d_PR_nature_39 hl (by decide) rfl (fun ls hl => ?_)
  refine lv_aload S.1 S.2.1 d_PR_nature_41 (lv_at hl 0 rfl) ?_
  refine lv_iload_n S.1 S.2.1 d_PR_nature_43 rfl (lv_at hl 3 rfl) ?_
  obtain ⟨s_6, hs_6⟩ : ∃ z : Nat → Nat → Int32, z = up2 σ (80 + u) 7 b := ⟨_, rfl⟩
  refine g_put S hO (fun _ h => h) fp_PR_122 (by omega) (sh_UN G ad _ _ (by omega)) (v := .int b) rfl rfl (Nat.le_of_ble_eq_true rfl) (E2 := enc G ad s_6 τ) (by rw [hs_6]; exact enc_i (sh_UN G ad _ _ (by omega))) d_PR_nature_44 (fun H locs hO => ?_)
  refine lv_aload S.1 S.2.1 d_PR_nature_47 (lv_at hl 0 rfl) ?_
  refine lv_iload_n S.1 S.2.1 d_PR_nature_49 rfl (lv_at hl 4 rfl) ?_
  obtain ⟨s_7, hs_7⟩ : ∃ z : Nat → Nat → Int32, z = up2 s_6 (80 + u) 8 d := ⟨_, rfl⟩
  refine g_put S hO (fun _ h => h) fp_PR_125 (by omega) (sh_UN G ad _ _ (by omega)) (v := .int d) rfl rfl (Nat.le_of_ble_eq_true rfl) (E2 := enc G ad s_7 τ) (by rw [hs_7]; exact enc_i (sh_UN G ad _ _ (by omega))) d_PR_nature_50 (fun H locs hO => ?_)
  refine lv_aload S.1 S.2.1 d_PR_nature_53 (lv_at hl 0 rfl) ?_
  refine lv_iload S.1 S.2.1 d_PR_nature_55 (lv_at hl 5 rfl) ?_
  obtain ⟨s_8, hs_8⟩ : ∃ z : Nat → Nat → Int32, z = up2 s_7 (80 + u) 9 f := ⟨_, rfl⟩
  refine g_put S hO (fun _ h => h) fp_PR_128 (by omega) (sh_UN G ad _ _ (by omega)) (v := .int f) rfl rfl (Nat.le_of_ble_eq_true rfl) (E2 := enc G ad s_8 τ) (by rw [hs_8]; exact enc_i (sh_UN G ad _ _ (by omega))) d_PR_nature_57 (fun H locs hO => ?_)
  subst hs_8
  subst hs_7
  subst hs_6
  exact im_v S hk hr hO ⟨rfl, h_2, ⟨h_9, h_16, h_25⟩, by rw [nI_clamp (by omega)]; exact h_30, by rw [nI_clamp (by omega)], rfl⟩ (Nat.le_of_ble_eq_true rfl) (Nat.le_of_ble_eq_true rfl) d_PR_nature_60
set_option maxHeartbeats 4000000 in
set_option maxRecDepth 100000 in
theorem k_PR_own (l : Launch) (hst : l.stackTraces = false) (G : gP) (ad : Nat → Nat) (σ : Nat → Nat → Int32) (τ : Nat → Nat → Int64) (a b : Int32) : gim l y_PR_own c_PR_own 3 none { frames := 7, cells := 2, slots := 12, locals := 112 } G ad σ τ [.ref (ad 0), .int a, .int b] 2 12 (fun v σ1 τ1 => v = none ∧ (gwi a 0 3 ∧ gwi b 0 3) ∧ σ1 = up2 σ 34 a.toNatClampNeg b ∧ τ1 = τ) (fun x => x = "java/lang/IllegalArgumentException" ∧ ¬ (gwi a 0 3 ∧ gwi b 0 3)) := by
  refine gs_of (fun _ h => h) (by decide) (Nat.le_of_ble_eq_true rfl) ?_
  intro p e s m args below meth c ls S hk hr hx hl hO
  have hl : lv_has ls 3 [(0, .ref (ad 0)), (1, .int a), (2, .int b)] := hl
  refine lv_iload_n S.1 S.2.1 d_PR_own_0 rfl (lv_at hl 1 rfl) ?_
  refine lv_iconst (v := 0) S.1 S.2.1 d_PR_own_1 (by decide) ?_
  refine lv_iconst (v := 3) S.1 S.2.1 d_PR_own_2 (by decide) ?_
  refine g_SP (As := [.int a, .int 0, .int 3]) (rest := []) S hO (k_PR_needWithin l hst G ad σ τ a 0 3) cw_PR_81 g_cfC hl.1 (Nat.le_of_ble_eq_true rfl) ⟨(Nat.le_of_ble_eq_true rfl), (Nat.le_of_ble_eq_true rfl)⟩ ⟨(Nat.le_of_ble_eq_true rfl), (Nat.le_of_ble_eq_true rfl)⟩ d_PR_own_3 (fun q x ce H h9 hO hce hcv hcl => im_x hx hk hO hce hcv hcl (⟨h9.1, fun z => h9.2 z.1⟩) (Nat.le_of_ble_eq_true rfl) (Nat.le_of_ble_eq_true rfl)) (fun v H v_1 hO => ?_)
  obtain ⟨rfl, h_3⟩ := v_1
  refine W.eq (g2 := F0 m 6 ls []) rfl ?_
  refine lv_iload_n S.1 S.2.1 d_PR_own_6 rfl (lv_at hl 2 rfl) ?_
  refine lv_iconst (v := 0) S.1 S.2.1 d_PR_own_7 (by decide) ?_
  refine lv_iconst (v := 3) S.1 S.2.1 d_PR_own_8 (by decide) ?_
  refine g_SP (As := [.int b, .int 0, .int 3]) (rest := []) S hO (k_PR_needWithin l hst G ad σ τ b 0 3) cw_PR_81 g_cfC hl.1 (Nat.le_of_ble_eq_true rfl) ⟨(Nat.le_of_ble_eq_true rfl), (Nat.le_of_ble_eq_true rfl)⟩ ⟨(Nat.le_of_ble_eq_true rfl), (Nat.le_of_ble_eq_true rfl)⟩ d_PR_own_9 (fun q x ce H h9 hO hce hcv hcl => im_x hx hk hO hce hcv hcl (⟨h9.1, fun z => h9.2 z.2⟩) (Nat.le_of_ble_eq_true rfl) (Nat.le_of_ble_eq_true rfl)) (fun v H v_2 hO => ?_)
  obtain ⟨rfl, h_9⟩ := v_2
  refine W.eq (g2 := F0 m 12 ls []) rfl ?_
  obtain ⟨u, hu, rfl⟩ := gwi_n (n := 3) (by decide) h_3
  refine lv_aload_n S.1 S.2.1 d_PR_own_12 rfl (lv_at hl 0 rfl) ?_
  refine g_get S hO fl_PR_37 (by decide) (sh_0 G ad _ _) (v := .ref (ad 33)) rfl d_PR_own_13 ?_
  refine g_get S hO fl_PR_188 (by decide) (sh_33 G ad _ _) (v := .ref (ad 34)) rfl d_PR_own_16 ?_
  refine lv_iload_n S.1 S.2.1 d_PR_own_19 rfl (lv_at hl 1 rfl) ?_
  refine lv_iload_n S.1 S.2.1 d_PR_own_20 rfl (lv_at hl 2 rfl) ?_
  obtain ⟨s_3, hs_3⟩ : ∃ z : Nat → Nat → Int32, z = up2 σ 34 u b := ⟨_, rfl⟩
  refine g_ias S hO (fun _ h => h) (by decide) (sh_34 G ad _ _) (vp_in_nI hu (by decide)) (E2 := enc G ad s_3 τ) (by rw [hs_3, nI_clamp (by omega)]; exact enc_i (sh_34 G ad _ _)) d_PR_own_21 (fun H locs hO => ?_)
  subst hs_3
  exact im_v S hk hr hO ⟨rfl, ⟨h_3, h_9⟩, by rw [nI_clamp (by omega)], rfl⟩ (Nat.le_of_ble_eq_true rfl) (Nat.le_of_ble_eq_true rfl) d_PR_own_22
set_option maxHeartbeats 4000000 in
set_option maxRecDepth 100000 in
theorem k_PR_take (l : Launch) (hst : l.stackTraces = false) (G : gP) (ad : Nat → Nat) (σ : Nat → Nat → Int32) (τ : Nat → Nat → Int64) (a : Int32) (nu : Nat) (hnu : σ 0 2 = nI nu) (hn4 : nu ≤ 40) : gim l y_PR_take c_PR_take 2 none { frames := 7, cells := 2, slots := 12, locals := 111 } G ad σ τ [.ref (ad 0), .int a] 2 12 (fun v σ1 τ1 => v = none ∧ (¬ a < 0 ∧ a < σ 0 2) ∧ ¬ σ (80 + a.toNatClampNeg) 10 = (-1) ∧ σ1 = up2 σ (80 + a.toNatClampNeg) 10 (-1) ∧ τ1 = τ) (fun x => (x = "java/util/NoSuchElementException" ∧ ¬ (¬ a < 0 ∧ a < σ 0 2)) ∨ ((¬ a < 0 ∧ a < σ 0 2) ∧ x = "java/lang/IllegalStateException" ∧ σ (80 + a.toNatClampNeg) 10 = (-1))) := by
  refine gs_of (fun _ h => h) (by decide) (Nat.le_of_ble_eq_true rfl) ?_
  intro p e s m args below meth c ls S hk hr hx hl hO
  have hl : lv_has ls 2 [(0, .ref (ad 0)), (1, .int a)] := hl
  refine lv_aload_n S.1 S.2.1 d_PR_take_0 rfl (lv_at hl 0 rfl) ?_
  refine lv_iload_n S.1 S.2.1 d_PR_take_1 rfl (lv_at hl 1 rfl) ?_
  refine g_VP (As := [.int a]) (rest := []) S hO (k_PR_needUnit l hst G ad σ τ a) cw_PR_109 (by decide) (sh_0 G ad _ _) rfl rfl hl.1 (Nat.le_of_ble_eq_true rfl) ⟨(Nat.le_of_ble_eq_true rfl), (Nat.le_of_ble_eq_true rfl)⟩ ⟨(Nat.le_of_ble_eq_true rfl), (Nat.le_of_ble_eq_true rfl)⟩ d_PR_take_2 (fun q x ce H h9 hO hce hcv hcl => im_x hx hk hO hce hcv hcl (Or.inl h9) (Nat.le_of_ble_eq_true rfl) (Nat.le_of_ble_eq_true rfl)) (fun v H v_1 hO => ?_)
  obtain ⟨rfl, h_2⟩ := v_1
  refine W.eq (g2 := F0 m 5 ls []) rfl ?_
  obtain ⟨u, hu, rfl⟩ := uni_n hnu (by omega) h_2
  refine lv_aload_n S.1 S.2.1 d_PR_take_5 rfl (lv_at hl 0 rfl) ?_
  refine g_get S hO fl_PR_17 (by decide) (sh_0 G ad _ _) (v := .ref (ad 2)) rfl d_PR_take_6 ?_
  refine lv_iload_n S.1 S.2.1 d_PR_take_9 rfl (lv_at hl 1 rfl) ?_
  refine g_aal S hO (t0 := 4) (by decide) (sh_2 G ad _ _) rfl (vp_in_nI (show u < 40 by omega) (by decide)) (v := .ref (ad (80 + u))) (by rw [nI_clamp (by omega)]; rfl) d_PR_take_10 ?_
  refine g_get S hO fl_PR_236 (by omega) (sh_UN G ad _ _ (by omega)) (v := .int (σ (80 + u) 10)) rfl d_PR_take_11 ?_
  refine lv_iconst (v := (-1)) S.1 S.2.1 d_PR_take_14 (by decide) ?_
  refine lv_icmp_ne (tgt := 28) S.1 S.2.1 d_PR_take_15 (by decide) (fun c_15 => ?_) (fun c_15 => ?_)
  · skip
    refine lv_aload_n S.1 S.2.1 d_PR_take_28 rfl (lv_at hl 0 rfl) ?_
    refine g_get S hO fl_PR_17 (by decide) (sh_0 G ad _ _) (v := .ref (ad 2)) rfl d_PR_take_29 ?_
    refine lv_iload_n S.1 S.2.1 d_PR_take_32 rfl (lv_at hl 1 rfl) ?_
    refine g_aal S hO (t0 := 4) (by decide) (sh_2 G ad _ _) rfl (vp_in_nI (show u < 40 by omega) (by decide)) (v := .ref (ad (80 + u))) (by rw [nI_clamp (by omega)]; rfl) d_PR_take_33 ?_
    refine lv_iconst (v := (-1)) S.1 S.2.1 d_PR_take_34 (by decide) ?_
    obtain ⟨s_2, hs_2⟩ : ∃ z : Nat → Nat → Int32, z = up2 σ (80 + u) 10 (-1) := ⟨_, rfl⟩
    refine g_put S hO (fun _ h => h) fp_PR_236 (by omega) (sh_UN G ad _ _ (by omega)) (v := .int (-1)) rfl rfl (Nat.le_of_ble_eq_true rfl) (E2 := enc G ad s_2 τ) (by rw [hs_2]; exact enc_i (sh_UN G ad _ _ (by omega))) d_PR_take_35 (fun H locs hO => ?_)
    subst hs_2
    exact im_v S hk hr hO ⟨rfl, h_2, by rw [nI_clamp (by omega)]; exact c_15, by rw [nI_clamp (by omega)], rfl⟩ (Nat.le_of_ble_eq_true rfl) (Nat.le_of_ble_eq_true rfl) d_PR_take_38
  · skip
    exact g_throwN S hst hO xw_ISE (hO.2.2.2.2.2.2.2.2.1 5 (by decide)) hl.1 hx hk (Nat.le_of_ble_eq_true rfl) (Nat.le_of_ble_eq_true rfl) ⟨(Nat.le_of_ble_eq_true rfl), (Nat.le_of_ble_eq_true rfl)⟩ (Nat.le_of_ble_eq_true rfl) (Nat.le_of_ble_eq_true rfl) (fun t ht => ⟨Or.inr ⟨h_2, rfl, by rw [nI_clamp (by omega)]; exact c_15⟩, hO.2.1.kept (fun k q hk => ht q.1 ((hO.2.1 k q hk).lt))⟩) d_PR_take_18 d_PR_take_21 d_PR_take_22 d_PR_take_24 d_PR_take_27
set_option maxHeartbeats 4000000 in
set_option maxRecDepth 100000 in
theorem k_PR_clash (l : Launch) (hst : l.stackTraces = false) (G : gP) (ad : Nat → Nat) (σ : Nat → Nat → Int32) (τ : Nat → Nat → Int64) (a b : Int32) (nc : Nat) (hcl : σ 4 5 = nI nc) (hc2 : nc ≤ 276) : gpu l y_PR_clash c_PR_clash 3 (some .int) { frames := 7, cells := 2, slots := 12, locals := 112 } G ad σ τ [.ref (ad 0), .int a, .int b] 2 12 (fun v => (¬ a < 0 ∧ gwi b 0 1) ∧ v = some (.int (if a < σ 4 5 then (if b = 0 then σ 7 a.toNatClampNeg else σ 8 a.toNatClampNeg) else (-1)))) (fun x => x = "java/lang/IllegalArgumentException" ∧ ¬ (¬ a < 0 ∧ gwi b 0 1)) := by
  refine gs_of (fun _ h => h.elim) (by decide) (Nat.le_of_ble_eq_true rfl) ?_
  intro p e s m args below meth c ls S hk hr hx hl hO
  have hl : lv_has ls 3 [(0, .ref (ad 0)), (1, .int a), (2, .int b)] := hl
  refine lv_iload_n S.1 S.2.1 d_PR_clash_0 rfl (lv_at hl 1 rfl) ?_
  refine g_SP (As := [.int a]) (rest := []) S hO (k_PR_needIndex l hst G ad σ τ a) cw_PR_230 g_cfC hl.1 (Nat.le_of_ble_eq_true rfl) ⟨(Nat.le_of_ble_eq_true rfl), (Nat.le_of_ble_eq_true rfl)⟩ ⟨(Nat.le_of_ble_eq_true rfl), (Nat.le_of_ble_eq_true rfl)⟩ d_PR_clash_1 (fun q x ce H h9 hO hce hcv hcl => pu_x hx hk hO hce hcv hcl (⟨h9.1, fun z => z.1 h9.2⟩) (Nat.le_of_ble_eq_true rfl) (Nat.le_of_ble_eq_true rfl)) (fun v H v_1 hO => ?_)
  obtain ⟨rfl, h_1⟩ := v_1
  refine W.eq (g2 := F0 m 4 ls []) rfl ?_
  refine lv_iload_n S.1 S.2.1 d_PR_clash_4 rfl (lv_at hl 2 rfl) ?_
  refine lv_iconst (v := 0) S.1 S.2.1 d_PR_clash_5 (by decide) ?_
  refine lv_iconst (v := 1) S.1 S.2.1 d_PR_clash_6 (by decide) ?_
  refine g_SP (As := [.int b, .int 0, .int 1]) (rest := []) S hO (k_PR_needWithin l hst G ad σ τ b 0 1) cw_PR_81 g_cfC hl.1 (Nat.le_of_ble_eq_true rfl) ⟨(Nat.le_of_ble_eq_true rfl), (Nat.le_of_ble_eq_true rfl)⟩ ⟨(Nat.le_of_ble_eq_true rfl), (Nat.le_of_ble_eq_true rfl)⟩ d_PR_clash_7 (fun q x ce H h9 hO hce hcv hcl => pu_x hx hk hO hce hcv hcl (⟨h9.1, fun z => h9.2 z.2⟩) (Nat.le_of_ble_eq_true rfl) (Nat.le_of_ble_eq_true rfl)) (fun v H v_2 hO => ?_)
  obtain ⟨rfl, h_7⟩ := v_2
  refine W.eq (g2 := F0 m 10 ls []) rfl ?_
  refine lv_iload_n S.1 S.2.1 d_PR_clash_10 rfl (lv_at hl 1 rfl) ?_
  refine lv_aload_n S.1 S.2.1 d_PR_clash_11 rfl (lv_at hl 0 rfl) ?_
  refine g_get S hO fl_PR_30 (by decide) (sh_0 G ad _ _) (v := .ref (ad 4)) rfl d_PR_clash_12 ?_
  refine g_get S hO fl_PR_251 (by decide) (sh_4 G ad _ _) (v := .int (σ 4 5)) rfl d_PR_clash_15 ?_
  refine lv_icmp_lt (tgt := 23) S.1 S.2.1 d_PR_clash_18 (by decide) (fun c_18 => ?_) (fun c_18 => ?_)
  · skip
    obtain ⟨u, hu, rfl⟩ := uni_n hcl (by omega) ⟨h_1, c_18⟩
    refine lv_iload_n S.1 S.2.1 d_PR_clash_23 rfl (lv_at hl 2 rfl) ?_
    refine lv_if_ne (tgt := 39) S.1 S.2.1 d_PR_clash_24 (by decide) (fun c_24 => ?_) (fun c_24 => ?_)
    · skip
      refine lv_aload_n S.1 S.2.1 d_PR_clash_39 rfl (lv_at hl 0 rfl) ?_
      refine g_get S hO fl_PR_30 (by decide) (sh_0 G ad _ _) (v := .ref (ad 4)) rfl d_PR_clash_40 ?_
      refine g_get S hO fl_PR_257 (by decide) (sh_4 G ad _ _) (v := .ref (ad 8)) rfl d_PR_clash_43 ?_
      refine lv_iload_n S.1 S.2.1 d_PR_clash_46 rfl (lv_at hl 1 rfl) ?_
      refine g_ial S hO (by decide) (sh_8 G ad _ _) (vp_in_nI (show u < 276 by omega) (by decide)) d_PR_clash_47 ?_
      refine W.eq (g2 := F0 m 48 ls [.int (σ 8 u)]) (by rw [nI_clamp (by omega)]) ?_
      exact pu_i S hk hr hO ⟨⟨h_1, h_7⟩, by rw [if_pos c_18, nI_clamp (by omega)]; first | rw [if_pos c_24] | rw [if_neg c_24]⟩ (Nat.le_of_ble_eq_true rfl) (Nat.le_of_ble_eq_true rfl) d_PR_clash_48
    · skip
      refine lv_aload_n S.1 S.2.1 d_PR_clash_27 rfl (lv_at hl 0 rfl) ?_
      refine g_get S hO fl_PR_30 (by decide) (sh_0 G ad _ _) (v := .ref (ad 4)) rfl d_PR_clash_28 ?_
      refine g_get S hO fl_PR_254 (by decide) (sh_4 G ad _ _) (v := .ref (ad 7)) rfl d_PR_clash_31 ?_
      refine lv_iload_n S.1 S.2.1 d_PR_clash_34 rfl (lv_at hl 1 rfl) ?_
      refine g_ial S hO (by decide) (sh_7 G ad _ _) (vp_in_nI (show u < 276 by omega) (by decide)) d_PR_clash_35 ?_
      refine W.eq (g2 := F0 m 36 ls [.int (σ 7 u)]) (by rw [nI_clamp (by omega)]) ?_
      refine lv_goto (tgt := 48) S.1 S.2.1 d_PR_clash_36 (by decide) ?_
      exact pu_i S hk hr hO ⟨⟨h_1, h_7⟩, by rw [if_pos c_18, nI_clamp (by omega)]; first | rw [if_pos c_24] | rw [if_neg c_24]⟩ (Nat.le_of_ble_eq_true rfl) (Nat.le_of_ble_eq_true rfl) d_PR_clash_48
  · skip
    refine lv_iconst (v := (-1)) S.1 S.2.1 d_PR_clash_21 (by decide) ?_
    exact pu_i S hk hr hO ⟨⟨h_1, h_7⟩, by rw [if_neg c_18]⟩ (Nat.le_of_ble_eq_true rfl) (Nat.le_of_ble_eq_true rfl) d_PR_clash_22
set_option maxHeartbeats 4000000 in
set_option maxRecDepth 100000 in
theorem k_PR_explain (l : Launch) (hst : l.stackTraces = false) (G : gP) (ad : Nat → Nat) (σ : Nat → Nat → Int32) (τ : Nat → Nat → Int64) (a : Int32) (nr : Nat) (hrf : σ 0 10 = nI nr) (hr2 : nr ≤ 24) : gpu l y_PR_explain c_PR_explain 2 (some .int) { frames := 7, cells := 1, slots := 6, locals := 110 } G ad σ τ [.ref (ad 0), .int a] 1 6 (fun v => ¬ a < 0 ∧ v = some (.int (if a < σ 0 10 then σ 67 a.toNatClampNeg else (-1)))) (fun x => x = "java/lang/IllegalArgumentException" ∧ a < 0) := by
  refine gs_of (fun _ h => h.elim) (by decide) (Nat.le_of_ble_eq_true rfl) ?_
  intro p e s m args below meth c ls S hk hr hx hl hO
  have hl : lv_has ls 2 [(0, .ref (ad 0)), (1, .int a)] := hl
  refine lv_iload_n S.1 S.2.1 d_PR_explain_0 rfl (lv_at hl 1 rfl) ?_
  refine g_SP (As := [.int a]) (rest := []) S hO (k_PR_needIndex l hst G ad σ τ a) cw_PR_230 g_cfC hl.1 (Nat.le_of_ble_eq_true rfl) ⟨(Nat.le_of_ble_eq_true rfl), (Nat.le_of_ble_eq_true rfl)⟩ ⟨(Nat.le_of_ble_eq_true rfl), (Nat.le_of_ble_eq_true rfl)⟩ d_PR_explain_1 (fun q x ce H h9 hO hce hcv hcl => pu_x hx hk hO hce hcv hcl h9 (Nat.le_of_ble_eq_true rfl) (Nat.le_of_ble_eq_true rfl)) (fun v H v_1 hO => ?_)
  obtain ⟨rfl, h_1⟩ := v_1
  refine W.eq (g2 := F0 m 4 ls []) rfl ?_
  refine lv_iload_n S.1 S.2.1 d_PR_explain_4 rfl (lv_at hl 1 rfl) ?_
  refine lv_aload_n S.1 S.2.1 d_PR_explain_5 rfl (lv_at hl 0 rfl) ?_
  refine g_get S hO fl_PR_233 (by decide) (sh_0 G ad _ _) (v := .int (σ 0 10)) rfl d_PR_explain_6 ?_
  refine lv_icmp_ge (tgt := 21) S.1 S.2.1 d_PR_explain_9 (by decide) (fun c_9 => ?_) (fun c_9 => ?_)
  · skip
    refine lv_iconst (v := (-1)) S.1 S.2.1 d_PR_explain_21 (by decide) ?_
    exact pu_i S hk hr hO ⟨h_1, by first | rw [if_pos (Int32.not_le.mp c_9), nI_clamp (by omega)] | rw [if_neg (Int32.not_lt.mpr c_9)]⟩ (Nat.le_of_ble_eq_true rfl) (Nat.le_of_ble_eq_true rfl) d_PR_explain_22
  · skip
    obtain ⟨u, hu, rfl⟩ := uni_n hrf (by omega) ⟨h_1, Int32.not_le.mp c_9⟩
    refine lv_aload_n S.1 S.2.1 d_PR_explain_12 rfl (lv_at hl 0 rfl) ?_
    refine g_get S hO fl_PR_55 (by decide) (sh_0 G ad _ _) (v := .ref (ad 67)) rfl d_PR_explain_13 ?_
    refine lv_iload_n S.1 S.2.1 d_PR_explain_16 rfl (lv_at hl 1 rfl) ?_
    refine g_ial S hO (by decide) (sh_67 G ad _ _) (vp_in_nI (show u < 24 by omega) (by decide)) d_PR_explain_17 ?_
    refine W.eq (g2 := F0 m 18 ls [.int (σ 67 u)]) (by rw [nI_clamp (by omega)]) ?_
    refine lv_goto (tgt := 22) S.1 S.2.1 d_PR_explain_18 (by decide) ?_
    exact pu_i S hk hr hO ⟨h_1, by first | rw [if_pos (Int32.not_le.mp c_9), nI_clamp (by omega)] | rw [if_neg (Int32.not_lt.mpr c_9)]⟩ (Nat.le_of_ble_eq_true rfl) (Nat.le_of_ble_eq_true rfl) d_PR_explain_22
