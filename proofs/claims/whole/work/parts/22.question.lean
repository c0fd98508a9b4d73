/-! The question and the own rules. Written by wip/tools/m22.py. -/
abbrev owR (σ : Nat → Nat → Int32) (j : Nat) : Prop := σ 34 j = 1 ∨ (σ 34 j = 2 ∧ σ 62 11 < σ 62 6) ∨ σ 34 j = 3
def owS (σ : Nat → Nat → Int32) (j : Nat) : Nat → Nat → Int32 := if σ 34 j = 3 then up2 σ 33 1 (σ 33 1 + 1) else σ
set_option maxHeartbeats 4000000 in
set_option maxRecDepth 100000 in
theorem k_OW_refuse (l : Launch) (G : gP) (ad : Nat → Nat) (σ : Nat → Nat → Int32) (τ : Nat → Nat → Int64) (j : Nat) (hj : j < 4) : gim l y_OW_refuse c_OW_refuse 3 (some .boolean) { frames := 0, cells := 0, slots := 0, locals := 0 } G ad σ τ [.ref (ad 33), .int (nI j), .ref (ad 62)] 0 0 (fun v σ1 τ1 => v = some (.int (if owR σ j then 1 else 0)) ∧ σ1 = owS σ j ∧ τ1 = τ) (fun _ => False) := by
  refine gs_of (fun _ h => h) (by decide) (Nat.le_of_ble_eq_true rfl) ?_
  intro p e s m args below meth c ls S hk hr hx hl hO
  have hl : lv_has ls 3 [(0, .ref (ad 33)), (1, .int (nI j)), (2, .ref (ad 62))] := hl
  refine lv_iload_n S.1 S.2.1 d_OW_refuse_0 rfl (lv_at hl 1 rfl) ?_
  refine lv_if_lt (tgt := 9) S.1 S.2.1 d_OW_refuse_1 (by decide) (fun c_1 => ?_) (fun c_1 => ?_)
  · skip
    exact absurd c_1 (nI_pos (by omega))
  · skip
    refine lv_iload_n S.1 S.2.1 d_OW_refuse_4 rfl (lv_at hl 1 rfl) ?_
    refine lv_iconst (v := 4) S.1 S.2.1 d_OW_refuse_5 (by decide) ?_
    refine lv_icmp_lt (tgt := 11) S.1 S.2.1 d_OW_refuse_6 (by decide) (fun c_6 => ?_) (fun c_6 => ?_)
    · skip
      refine lv_aload_n S.1 S.2.1 d_OW_refuse_11 rfl (lv_at hl 0 rfl) ?_
      refine g_get S hO fl_OW_9 (by decide) (sh_33 G ad _ _) (v := .ref (ad 34)) rfl d_OW_refuse_12 ?_
      refine lv_iload_n S.1 S.2.1 d_OW_refuse_15 rfl (lv_at hl 1 rfl) ?_
      refine g_ial S hO (by decide) (sh_34 G ad _ _) (vp_in_nI hj (by decide)) d_OW_refuse_16 ?_
      refine W.eq (g2 := F0 m 17 ls [.int (σ 34 j)]) (by rw [nI_clamp (by omega)]) ?_
      by_cases w_17_0 : σ 34 j = 1
      · refine W.eq (g2 := F0 m 17 ls [.int 1]) (by rw [w_17_0]) ?_
        refine lv_tableIn (tgt := 44) S.1 S.2.1 d_OW_refuse_17 (by decide) (by decide) rfl (by decide) ?_
        refine lv_iconst (v := 1) S.1 S.2.1 d_OW_refuse_44 (by decide) ?_
        exact im_z S hk hr hO (by first | exact Or.inl rfl | exact Or.inr rfl) ⟨z_p (Or.inl w_17_0), by rw [owS, if_neg (by rw [w_17_0]; decide)], rfl⟩ (Nat.le_of_ble_eq_true rfl) (Nat.le_of_ble_eq_true rfl) d_OW_refuse_45
      by_cases w_17_1 : σ 34 j = 2
      · refine W.eq (g2 := F0 m 17 ls [.int 2]) (by rw [w_17_1]) ?_
        refine lv_tableIn (tgt := 46) S.1 S.2.1 d_OW_refuse_17 (by decide) (by decide) rfl (by decide) ?_
        refine lv_aload_n S.1 S.2.1 d_OW_refuse_46 rfl (lv_at hl 2 rfl) ?_
        refine g_get S hO fl_OW_15 (by decide) (sh_62 G ad _ _) (v := .int (σ 62 6)) rfl d_OW_refuse_47 ?_
        refine lv_aload_n S.1 S.2.1 d_OW_refuse_50 rfl (lv_at hl 2 rfl) ?_
        refine g_get S hO fl_OW_21 (by decide) (sh_62 G ad _ _) (v := .int (σ 62 11)) rfl d_OW_refuse_51 ?_
        refine lv_icmp_le (tgt := 61) S.1 S.2.1 d_OW_refuse_54 (by decide) (fun c_54 => ?_) (fun c_54 => ?_)
        · skip
          refine lv_iconst (v := 0) S.1 S.2.1 d_OW_refuse_61 (by decide) ?_
          exact im_z S hk hr hO (by first | exact Or.inl rfl | exact Or.inr rfl) ⟨(by first | exact z_n (fun z => z.elim w_17_0 (fun z => z.elim (fun q => absurd q.2 (Int32.not_lt.mpr c_54)) (fun q => absurd (w_17_1.symm.trans q) (by decide)))) | exact z_p (Or.inr (Or.inl ⟨w_17_1, Int32.not_le.mp c_54⟩))), by rw [owS, if_neg (by rw [w_17_1]; decide)], rfl⟩ (Nat.le_of_ble_eq_true rfl) (Nat.le_of_ble_eq_true rfl) d_OW_refuse_62
        · skip
          refine lv_iconst (v := 1) S.1 S.2.1 d_OW_refuse_57 (by decide) ?_
          refine lv_goto (tgt := 62) S.1 S.2.1 d_OW_refuse_58 (by decide) ?_
          exact im_z S hk hr hO (by first | exact Or.inl rfl | exact Or.inr rfl) ⟨(by first | exact z_n (fun z => z.elim w_17_0 (fun z => z.elim (fun q => absurd q.2 (Int32.not_lt.mpr c_54)) (fun q => absurd (w_17_1.symm.trans q) (by decide)))) | exact z_p (Or.inr (Or.inl ⟨w_17_1, Int32.not_le.mp c_54⟩))), by rw [owS, if_neg (by rw [w_17_1]; decide)], rfl⟩ (Nat.le_of_ble_eq_true rfl) (Nat.le_of_ble_eq_true rfl) d_OW_refuse_62
      by_cases w_17_2 : σ 34 j = 3
      · refine W.eq (g2 := F0 m 17 ls [.int 3]) (by rw [w_17_2]) ?_
        refine lv_tableIn (tgt := 63) S.1 S.2.1 d_OW_refuse_17 (by decide) (by decide) rfl (by decide) ?_
        refine lv_aload_n S.1 S.2.1 d_OW_refuse_63 rfl (lv_at hl 0 rfl) ?_
        refine lv_dup S.1 S.2.1 d_OW_refuse_64 rfl ?_
        refine g_get S hO fl_OW_24 (by decide) (sh_33 G ad _ _) (v := .int (σ 33 1)) rfl d_OW_refuse_65 ?_
        refine lv_iconst (v := 1) S.1 S.2.1 d_OW_refuse_68 (by decide) ?_
        refine lv_iadd S.1 S.2.1 d_OW_refuse_69 ?_
        obtain ⟨s_1, hs_1⟩ : ∃ z : Nat → Nat → Int32, z = up2 σ 33 1 ((σ 33 1) + 1) := ⟨_, rfl⟩
        refine g_put S hO (fun _ h => h) fp_OW_24 (by decide) (sh_33 G ad _ _) (v := .int ((σ 33 1) + 1)) rfl rfl (Nat.le_of_ble_eq_true rfl) (E2 := enc G ad s_1 τ) (by rw [hs_1]; exact enc_i (sh_33 G ad _ _)) d_OW_refuse_70 (fun H locs hO => ?_)
        refine lv_iconst (v := 1) S.1 S.2.1 d_OW_refuse_73 (by decide) ?_
        subst hs_1
        exact im_z S hk hr hO (by first | exact Or.inl rfl | exact Or.inr rfl) ⟨z_p (Or.inr (Or.inr w_17_2)), by rw [owS, if_pos w_17_2], rfl⟩ (Nat.le_of_ble_eq_true rfl) (Nat.le_of_ble_eq_true rfl) d_OW_refuse_74
      refine lv_tableOut (tgt := 75) S.1 S.2.1 d_OW_refuse_17 (sw13 w_17_0 w_17_1 w_17_2) (by decide) ?_
      refine lv_iconst (v := 0) S.1 S.2.1 d_OW_refuse_75 (by decide) ?_
      exact im_z S hk hr hO (by first | exact Or.inl rfl | exact Or.inr rfl) ⟨z_n (fun z => z.elim w_17_0 (fun z => z.elim (fun q => w_17_1 q.1) w_17_2)), by rw [owS, if_neg w_17_2], rfl⟩ (Nat.le_of_ble_eq_true rfl) (Nat.le_of_ble_eq_true rfl) d_OW_refuse_76
    · skip
      exact absurd (nI_lt (show j < 4 by omega) (by decide)) c_6
/-- the question of the unit u at the place i on the day d, no others yet -/
def qbv (σ : Nat → Nat → Int32) (i u : Nat) (d v0 v1 : Int32) : Nat → Int32 := fun j =>
  if j = 13 then σ (80 + u) 9 else if j = 12 then σ (80 + u) 9 else if j = 11 then 0 else if j = 10 then 1 else if j = 9 then σ (80 + u) 9 else if j = 8 then σ (80 + u) 8 else if j = 7 then σ (80 + u) 7 else if j = 6 then σ (80 + u) 6 else if j = 5 then σ (80 + u) 0 else if j = 4 then σ (68 + i) 4 else if j = 3 then σ (68 + i) 3
  else if j = 1 then v1 else if j = 0 then v0 else if j = 2 then d else σ 62 j
def qbf (σ : Nat → Nat → Int32) (i u : Nat) (d : Int32) : Nat → Int32 := qbv σ i u d (if fit6 σ (68 + i) (80 + u) 0 ∨ fit6 σ (68 + i) (80 + u) 2 then 1 else 0) (if oI (lpf (fwB σ (68 + i) (80 + u)) 6 0) = (-1) then 0 else 1)
theorem qb_eq (σ : Nat → Nat → Int32) (i u : Nat) (d v0 v1 : Int32) : up2 (up2 (up2 (up2 (up2 (up2 (up2 (up2 (up2 (up2 (up2 (up2 (up2 (up2 σ 62 2 d) 62 0 v0) 62 1 v1) 62 3 (σ (68 + i) 3)) 62 4 (σ (68 + i) 4)) 62 5 (σ (80 + u) 0)) 62 6 (σ (80 + u) 6)) 62 7 (σ (80 + u) 7)) 62 8 (σ (80 + u) 8)) 62 9 (σ (80 + u) 9)) 62 10 1) 62 11 0) 62 12 (σ (80 + u) 9)) 62 13 (σ (80 + u) 9) = va_up σ 62 (qbv σ i u d v0 v1) := by
  funext k j
  by_cases hk : k = 62
  · subst hk
    simp only [up2, va_up, upd, qbv, if_true]
  · simp [up2, va_up, hk]
def ns0 (τ : Nat → Nat → Int64) (k : Nat) : Nat → Nat → Int64 := up2L (up2L τ k 0 0) k 1 0
def qbt (σ : Nat → Nat → Int32) (τ : Nat → Nat → Int64) (u : Nat) : Nat → Nat → Int64 := ns0 (nsa (ns0 (nsa (ns0 (nsa (ns0 τ 63) 63 (σ (80 + u) 0)) 64) 64 (σ (80 + u) 1)) 65) 65 (σ (80 + u) 2)) 66
theorem fit_c {σ σ2 : Nat → Nat → Int32} {k u : Nat} (hk : σ2 k = σ k) (hu : σ2 u = σ u) : fit6 σ2 k u = fit6 σ k u := by
  funext w
  simp only [fit6, hld, hk, hu]
theorem fw_c {σ σ2 : Nat → Nat → Int32} {k u : Nat} (hk : σ2 k = σ k) (hu : σ2 u = σ u) : fwB σ2 k u = fwB σ k u := by
  funext w
  exact decide_eq_decide.mpr (by rw [fit_c hk hu])
theorem qb_c {σ : Nat → Nat → Int32} {i u : Nat} {d v0 v1 w0 w1 : Int32} (h0 : v0 = w0) (h1 : v1 = w1) : va_up σ 62 (qbv σ i u d v0 v1) = va_up σ 62 (qbv σ i u d w0 w1) := by rw [h0, h1]
theorem up2_c {σ : Nat → Nat → Int32} {k j q : Nat} {v : Int32} (h : q ≠ k) : up2 σ k j v q = σ q := by simp [up2, va_up, h]
set_option maxHeartbeats 4000000 in
set_option maxRecDepth 100000 in
theorem k_QU_begin (l : Launch) (G : gP) (ad : Nat → Nat) (σ : Nat → Nat → Int32) (τ : Nat → Nat → Int64) (u : Nat) (hu : u < 40) (i : Nat) (hi : i < 12) (d : Int32) : gim l y_QU_begin c_QU_begin 4 none { frames := 3, cells := 0, slots := 0, locals := 67 } G ad σ τ [.ref (ad 62), .ref (ad (80 + u)), .ref (ad (68 + i)), .int d] 0 0 (fun v σ1 τ1 => v = none ∧ σ1 = va_up σ 62 (qbf σ i u d) ∧ τ1 = qbt σ τ u) (fun _ => False) := by
  refine gs_of (fun _ h => h) (by decide) (Nat.le_of_ble_eq_true rfl) ?_
  intro p e s m args below meth c ls S hk hr hx hl hO
  have hl : lv_has ls 4 [(0, .ref (ad 62)), (1, .ref (ad (80 + u))), (2, .ref (ad (68 + i))), (3, .int d)] := hl
  refine lv_aload_n S.1 S.2.1 d_QU_begin_0 rfl (lv_at hl 0 rfl) ?_
  refine lv_iload_n S.1 S.2.1 d_QU_begin_1 rfl (lv_at hl 3 rfl) ?_
  obtain ⟨s_1, hs_1⟩ : ∃ z : Nat → Nat → Int32, z = up2 σ 62 2 d := ⟨_, rfl⟩
  refine g_put S hO (fun _ h => h) fp_QU_27 (by decide) (sh_62 G ad _ _) (v := .int d) rfl rfl (Nat.le_of_ble_eq_true rfl) (E2 := enc G ad s_1 τ) (by rw [hs_1]; exact enc_i (sh_62 G ad _ _)) d_QU_begin_2 (fun H locs hO => ?_)
  refine lv_aload_n S.1 S.2.1 d_QU_begin_5 rfl (lv_at hl 0 rfl) ?_
  refine lv_aload_n S.1 S.2.1 d_QU_begin_6 rfl (lv_at hl 2 rfl) ?_
  refine lv_aload_n S.1 S.2.1 d_QU_begin_7 rfl (lv_at hl 1 rfl) ?_
  refine lv_iconst (v := 0) S.1 S.2.1 d_QU_begin_8 (by decide) ?_
  refine g_VP (As := [.ref (ad (80 + u)), .int 0]) (rest := [.ref (ad 62)]) S hO (k_PL_fits l G ad s_1 τ i (by omega) u (by omega) 0) cw_QU_31 (by omega) (sh_PL G ad _ _ (by omega)) rfl rfl hl.1 (Nat.le_of_ble_eq_true rfl) ⟨(Nat.le_of_ble_eq_true rfl), (Nat.le_of_ble_eq_true rfl)⟩ ⟨(Nat.le_of_ble_eq_true rfl), (Nat.le_of_ble_eq_true rfl)⟩ d_QU_begin_9 (fun q x ce H h9 => h9.elim) (fun v H v_2 hO => ?_)
  subst v_2
  refine W.eq (g2 := F0 m 12 ls [.int (if fit6 s_1 (68 + i) (80 + u) 0 then 1 else 0), .ref (ad 62)]) rfl ?_
  refine lv_if_ne (tgt := 24) S.1 S.2.1 d_QU_begin_12 (by decide) (fun c_12 => ?_) (fun c_12 => ?_)
  · skip
    refine lv_iconst (v := 1) S.1 S.2.1 d_QU_begin_24 (by decide) ?_
    refine lv_goto (tgt := 29) S.1 S.2.1 d_QU_begin_25 (by decide) ?_
    obtain ⟨s_3, hs_3⟩ : ∃ z : Nat → Nat → Int32, z = up2 s_1 62 0 1 := ⟨_, rfl⟩
    refine g_put S hO (fun _ h => h) fp_QU_37 (by decide) (sh_62 G ad _ _) (v := .int 1) rfl rfl (Nat.le_of_ble_eq_true rfl) (E2 := enc G ad s_3 τ) (by rw [hs_3]; exact enc_i (sh_62 G ad _ _)) d_QU_begin_29 (fun H locs hO => ?_)
    refine lv_aload_n S.1 S.2.1 d_QU_begin_32 rfl (lv_at hl 0 rfl) ?_
    refine lv_aload_n S.1 S.2.1 d_QU_begin_33 rfl (lv_at hl 2 rfl) ?_
    refine lv_aload_n S.1 S.2.1 d_QU_begin_34 rfl (lv_at hl 1 rfl) ?_
    refine g_VP (As := [.ref (ad (80 + u))]) (rest := [.ref (ad 62)]) S hO (k_PL_firstWayFor l G ad s_3 τ i (by omega) u (by omega)) cw_QU_41 (by omega) (sh_PL G ad _ _ (by omega)) rfl rfl hl.1 (Nat.le_of_ble_eq_true rfl) ⟨(Nat.le_of_ble_eq_true rfl), (Nat.le_of_ble_eq_true rfl)⟩ ⟨(Nat.le_of_ble_eq_true rfl), (Nat.le_of_ble_eq_true rfl)⟩ d_QU_begin_35 (fun q x ce H h9 => h9.elim) (fun v H v_4 hO => ?_)
    subst v_4
    refine W.eq (g2 := F0 m 38 ls [.int (oI (lpf (fwB s_3 (68 + i) (80 + u)) 6 0)), .ref (ad 62)]) rfl ?_
    refine lv_iconst (v := (-1)) S.1 S.2.1 d_QU_begin_38 (by decide) ?_
    refine lv_icmp_eq (tgt := 46) S.1 S.2.1 d_QU_begin_39 (by decide) (fun c_39 => ?_) (fun c_39 => ?_)
    · skip
      refine lv_iconst (v := 0) S.1 S.2.1 d_QU_begin_46 (by decide) ?_
      obtain ⟨s_5, hs_5⟩ : ∃ z : Nat → Nat → Int32, z = up2 s_3 62 1 0 := ⟨_, rfl⟩
      refine g_put S hO (fun _ h => h) fp_QU_45 (by decide) (sh_62 G ad _ _) (v := .int 0) rfl rfl (Nat.le_of_ble_eq_true rfl) (E2 := enc G ad s_5 τ) (by rw [hs_5]; exact enc_i (sh_62 G ad _ _)) d_QU_begin_47 (fun H locs hO => ?_)
      refine lv_aload_n S.1 S.2.1 d_QU_begin_50 rfl (lv_at hl 0 rfl) ?_
      refine lv_aload_n S.1 S.2.1 d_QU_begin_51 rfl (lv_at hl 2 rfl) ?_
      refine g_get S hO fl_QU_48 (by omega) (sh_PL G ad _ _ (by omega)) (v := .int (s_5 (68 + i) 3)) rfl d_QU_begin_52 ?_
      obtain ⟨s_6, hs_6⟩ : ∃ z : Nat → Nat → Int32, z = up2 s_5 62 3 (s_5 (68 + i) 3) := ⟨_, rfl⟩
      refine g_put S hO (fun _ h => h) fp_QU_51 (by decide) (sh_62 G ad _ _) (v := .int (s_5 (68 + i) 3)) rfl rfl (Nat.le_of_ble_eq_true rfl) (E2 := enc G ad s_6 τ) (by rw [hs_6]; exact enc_i (sh_62 G ad _ _)) d_QU_begin_55 (fun H locs hO => ?_)
      refine lv_aload_n S.1 S.2.1 d_QU_begin_58 rfl (lv_at hl 0 rfl) ?_
      refine lv_aload_n S.1 S.2.1 d_QU_begin_59 rfl (lv_at hl 2 rfl) ?_
      refine g_get S hO fl_QU_52 (by omega) (sh_PL G ad _ _ (by omega)) (v := .int (s_6 (68 + i) 4)) rfl d_QU_begin_60 ?_
      obtain ⟨s_7, hs_7⟩ : ∃ z : Nat → Nat → Int32, z = up2 s_6 62 4 (s_6 (68 + i) 4) := ⟨_, rfl⟩
      refine g_put S hO (fun _ h => h) fp_QU_55 (by decide) (sh_62 G ad _ _) (v := .int (s_6 (68 + i) 4)) rfl rfl (Nat.le_of_ble_eq_true rfl) (E2 := enc G ad s_7 τ) (by rw [hs_7]; exact enc_i (sh_62 G ad _ _)) d_QU_begin_63 (fun H locs hO => ?_)
      refine lv_aload_n S.1 S.2.1 d_QU_begin_66 rfl (lv_at hl 0 rfl) ?_
      refine lv_aload_n S.1 S.2.1 d_QU_begin_67 rfl (lv_at hl 1 rfl) ?_
      refine g_get S hO fl_QU_56 (by omega) (sh_UN G ad _ _ (by omega)) (v := .int (s_7 (80 + u) 0)) rfl d_QU_begin_68 ?_
      obtain ⟨s_8, hs_8⟩ : ∃ z : Nat → Nat → Int32, z = up2 s_7 62 5 (s_7 (80 + u) 0) := ⟨_, rfl⟩
      refine g_put S hO (fun _ h => h) fp_QU_61 (by decide) (sh_62 G ad _ _) (v := .int (s_7 (80 + u) 0)) rfl rfl (Nat.le_of_ble_eq_true rfl) (E2 := enc G ad s_8 τ) (by rw [hs_8]; exact enc_i (sh_62 G ad _ _)) d_QU_begin_71 (fun H locs hO => ?_)
      refine lv_aload_n S.1 S.2.1 d_QU_begin_74 rfl (lv_at hl 0 rfl) ?_
      refine lv_aload_n S.1 S.2.1 d_QU_begin_75 rfl (lv_at hl 1 rfl) ?_
      refine g_get S hO fl_QU_62 (by omega) (sh_UN G ad _ _ (by omega)) (v := .int (s_8 (80 + u) 6)) rfl d_QU_begin_76 ?_
      obtain ⟨s_9, hs_9⟩ : ∃ z : Nat → Nat → Int32, z = up2 s_8 62 6 (s_8 (80 + u) 6) := ⟨_, rfl⟩
      refine g_put S hO (fun _ h => h) fp_QU_65 (by decide) (sh_62 G ad _ _) (v := .int (s_8 (80 + u) 6)) rfl rfl (Nat.le_of_ble_eq_true rfl) (E2 := enc G ad s_9 τ) (by rw [hs_9]; exact enc_i (sh_62 G ad _ _)) d_QU_begin_79 (fun H locs hO => ?_)
      refine lv_aload_n S.1 S.2.1 d_QU_begin_82 rfl (lv_at hl 0 rfl) ?_
      refine lv_aload_n S.1 S.2.1 d_QU_begin_83 rfl (lv_at hl 1 rfl) ?_
      refine g_get S hO fl_QU_66 (by omega) (sh_UN G ad _ _ (by omega)) (v := .int (s_9 (80 + u) 7)) rfl d_QU_begin_84 ?_
      obtain ⟨s_10, hs_10⟩ : ∃ z : Nat → Nat → Int32, z = up2 s_9 62 7 (s_9 (80 + u) 7) := ⟨_, rfl⟩
      refine g_put S hO (fun _ h => h) fp_QU_69 (by decide) (sh_62 G ad _ _) (v := .int (s_9 (80 + u) 7)) rfl rfl (Nat.le_of_ble_eq_true rfl) (E2 := enc G ad s_10 τ) (by rw [hs_10]; exact enc_i (sh_62 G ad _ _)) d_QU_begin_87 (fun H locs hO => ?_)
      refine lv_aload_n S.1 S.2.1 d_QU_begin_90 rfl (lv_at hl 0 rfl) ?_
      refine lv_aload_n S.1 S.2.1 d_QU_begin_91 rfl (lv_at hl 1 rfl) ?_
      refine g_get S hO fl_QU_70 (by omega) (sh_UN G ad _ _ (by omega)) (v := .int (s_10 (80 + u) 8)) rfl d_QU_begin_92 ?_
      obtain ⟨s_11, hs_11⟩ : ∃ z : Nat → Nat → Int32, z = up2 s_10 62 8 (s_10 (80 + u) 8) := ⟨_, rfl⟩
      refine g_put S hO (fun _ h => h) fp_QU_73 (by decide) (sh_62 G ad _ _) (v := .int (s_10 (80 + u) 8)) rfl rfl (Nat.le_of_ble_eq_true rfl) (E2 := enc G ad s_11 τ) (by rw [hs_11]; exact enc_i (sh_62 G ad _ _)) d_QU_begin_95 (fun H locs hO => ?_)
      refine lv_aload_n S.1 S.2.1 d_QU_begin_98 rfl (lv_at hl 0 rfl) ?_
      refine lv_aload_n S.1 S.2.1 d_QU_begin_99 rfl (lv_at hl 1 rfl) ?_
      refine g_get S hO fl_QU_74 (by omega) (sh_UN G ad _ _ (by omega)) (v := .int (s_11 (80 + u) 9)) rfl d_QU_begin_100 ?_
      obtain ⟨s_12, hs_12⟩ : ∃ z : Nat → Nat → Int32, z = up2 s_11 62 9 (s_11 (80 + u) 9) := ⟨_, rfl⟩
      refine g_put S hO (fun _ h => h) fp_QU_77 (by decide) (sh_62 G ad _ _) (v := .int (s_11 (80 + u) 9)) rfl rfl (Nat.le_of_ble_eq_true rfl) (E2 := enc G ad s_12 τ) (by rw [hs_12]; exact enc_i (sh_62 G ad _ _)) d_QU_begin_103 (fun H locs hO => ?_)
      refine lv_aload_n S.1 S.2.1 d_QU_begin_106 rfl (lv_at hl 0 rfl) ?_
      refine lv_iconst (v := 1) S.1 S.2.1 d_QU_begin_107 (by decide) ?_
      obtain ⟨s_13, hs_13⟩ : ∃ z : Nat → Nat → Int32, z = up2 s_12 62 10 1 := ⟨_, rfl⟩
      refine g_put S hO (fun _ h => h) fp_QU_78 (by decide) (sh_62 G ad _ _) (v := .int 1) rfl rfl (Nat.le_of_ble_eq_true rfl) (E2 := enc G ad s_13 τ) (by rw [hs_13]; exact enc_i (sh_62 G ad _ _)) d_QU_begin_108 (fun H locs hO => ?_)
      refine lv_aload_n S.1 S.2.1 d_QU_begin_111 rfl (lv_at hl 0 rfl) ?_
      refine lv_iconst (v := 0) S.1 S.2.1 d_QU_begin_112 (by decide) ?_
      obtain ⟨s_14, hs_14⟩ : ∃ z : Nat → Nat → Int32, z = up2 s_13 62 11 0 := ⟨_, rfl⟩
      refine g_put S hO (fun _ h => h) fp_QU_81 (by decide) (sh_62 G ad _ _) (v := .int 0) rfl rfl (Nat.le_of_ble_eq_true rfl) (E2 := enc G ad s_14 τ) (by rw [hs_14]; exact enc_i (sh_62 G ad _ _)) d_QU_begin_113 (fun H locs hO => ?_)
      refine lv_aload_n S.1 S.2.1 d_QU_begin_116 rfl (lv_at hl 0 rfl) ?_
      refine lv_aload_n S.1 S.2.1 d_QU_begin_117 rfl (lv_at hl 1 rfl) ?_
      refine g_get S hO fl_QU_74 (by omega) (sh_UN G ad _ _ (by omega)) (v := .int (s_14 (80 + u) 9)) rfl d_QU_begin_118 ?_
      obtain ⟨s_15, hs_15⟩ : ∃ z : Nat → Nat → Int32, z = up2 s_14 62 12 (s_14 (80 + u) 9) := ⟨_, rfl⟩
      refine g_put S hO (fun _ h => h) fp_QU_84 (by decide) (sh_62 G ad _ _) (v := .int (s_14 (80 + u) 9)) rfl rfl (Nat.le_of_ble_eq_true rfl) (E2 := enc G ad s_15 τ) (by rw [hs_15]; exact enc_i (sh_62 G ad _ _)) d_QU_begin_121 (fun H locs hO => ?_)
      refine lv_aload_n S.1 S.2.1 d_QU_begin_124 rfl (lv_at hl 0 rfl) ?_
      refine lv_aload_n S.1 S.2.1 d_QU_begin_125 rfl (lv_at hl 1 rfl) ?_
      refine g_get S hO fl_QU_74 (by omega) (sh_UN G ad _ _ (by omega)) (v := .int (s_15 (80 + u) 9)) rfl d_QU_begin_126 ?_
      obtain ⟨s_16, hs_16⟩ : ∃ z : Nat → Nat → Int32, z = up2 s_15 62 13 (s_15 (80 + u) 9) := ⟨_, rfl⟩
      refine g_put S hO (fun _ h => h) fp_QU_87 (by decide) (sh_62 G ad _ _) (v := .int (s_15 (80 + u) 9)) rfl rfl (Nat.le_of_ble_eq_true rfl) (E2 := enc G ad s_16 τ) (by rw [hs_16]; exact enc_i (sh_62 G ad _ _)) d_QU_begin_129 (fun H locs hO => ?_)
      refine lv_aload_n S.1 S.2.1 d_QU_begin_132 rfl (lv_at hl 0 rfl) ?_
      refine g_get S hO fl_QU_12 (by decide) (sh_62 G ad _ _) (v := .ref (ad 63)) rfl d_QU_begin_133 ?_
      refine lv_aload_n S.1 S.2.1 d_QU_begin_136 rfl (lv_at hl 1 rfl) ?_
      refine g_get S hO fl_QU_56 (by omega) (sh_UN G ad _ _ (by omega)) (v := .int (s_16 (80 + u) 0)) rfl d_QU_begin_137 ?_
      refine g_VI (As := [.int (s_16 (80 + u) 0)]) (rest := []) S hO (fun _ h => h) (k_NS_holdOnly l G ad s_16 τ 0 (by omega) (s_16 (80 + u) 0)) cw_QU_90 (by decide) (sh_NS G ad _ _ (j := 0) (by decide)) rfl rfl hl.1 (Nat.le_of_ble_eq_true rfl) ⟨(Nat.le_of_ble_eq_true rfl), (Nat.le_of_ble_eq_true rfl)⟩ ⟨(Nat.le_of_ble_eq_true rfl), (Nat.le_of_ble_eq_true rfl)⟩ d_QU_begin_140 (fun q x ce H locs h9 => h9.elim) (fun v E1 H locs v_17 hO => ?_)
      obtain ⟨s_18, t_19, rfl, rfl, hs_18, ht_19⟩ := v_17
      rw [hs_18] at hO
      refine W.eq (g2 := F0 m 143 ls []) rfl ?_
      refine lv_aload_n S.1 S.2.1 d_QU_begin_143 rfl (lv_at hl 0 rfl) ?_
      refine g_get S hO fl_QU_18 (by decide) (sh_62 G ad _ _) (v := .ref (ad 64)) rfl d_QU_begin_144 ?_
      refine lv_aload_n S.1 S.2.1 d_QU_begin_147 rfl (lv_at hl 1 rfl) ?_
      refine g_get S hO fl_QU_94 (by omega) (sh_UN G ad _ _ (by omega)) (v := .int (s_16 (80 + u) 1)) rfl d_QU_begin_148 ?_
      refine g_VI (As := [.int (s_16 (80 + u) 1)]) (rest := []) S hO (fun _ h => h) (k_NS_holdOnly l G ad s_16 t_19 1 (by omega) (s_16 (80 + u) 1)) cw_QU_90 (by decide) (sh_NS G ad _ _ (j := 1) (by decide)) rfl rfl hl.1 (Nat.le_of_ble_eq_true rfl) ⟨(Nat.le_of_ble_eq_true rfl), (Nat.le_of_ble_eq_true rfl)⟩ ⟨(Nat.le_of_ble_eq_true rfl), (Nat.le_of_ble_eq_true rfl)⟩ d_QU_begin_151 (fun q x ce H locs h9 => h9.elim) (fun v E1 H locs v_20 hO => ?_)
      obtain ⟨s_21, t_22, rfl, rfl, hs_21, ht_22⟩ := v_20
      rw [hs_21] at hO
      refine W.eq (g2 := F0 m 154 ls []) rfl ?_
      refine lv_aload_n S.1 S.2.1 d_QU_begin_154 rfl (lv_at hl 0 rfl) ?_
      refine g_get S hO fl_QU_21 (by decide) (sh_62 G ad _ _) (v := .ref (ad 65)) rfl d_QU_begin_155 ?_
      refine lv_aload_n S.1 S.2.1 d_QU_begin_158 rfl (lv_at hl 1 rfl) ?_
      refine g_get S hO fl_QU_97 (by omega) (sh_UN G ad _ _ (by omega)) (v := .int (s_16 (80 + u) 2)) rfl d_QU_begin_159 ?_
      refine g_VI (As := [.int (s_16 (80 + u) 2)]) (rest := []) S hO (fun _ h => h) (k_NS_holdOnly l G ad s_16 t_22 2 (by omega) (s_16 (80 + u) 2)) cw_QU_90 (by decide) (sh_NS G ad _ _ (j := 2) (by decide)) rfl rfl hl.1 (Nat.le_of_ble_eq_true rfl) ⟨(Nat.le_of_ble_eq_true rfl), (Nat.le_of_ble_eq_true rfl)⟩ ⟨(Nat.le_of_ble_eq_true rfl), (Nat.le_of_ble_eq_true rfl)⟩ d_QU_begin_162 (fun q x ce H locs h9 => h9.elim) (fun v E1 H locs v_23 hO => ?_)
      obtain ⟨s_24, t_25, rfl, rfl, hs_24, ht_25⟩ := v_23
      rw [hs_24] at hO
      refine W.eq (g2 := F0 m 165 ls []) rfl ?_
      refine lv_aload_n S.1 S.2.1 d_QU_begin_165 rfl (lv_at hl 0 rfl) ?_
      refine g_get S hO fl_QU_24 (by decide) (sh_62 G ad _ _) (v := .ref (ad 66)) rfl d_QU_begin_166 ?_
      refine g_VI (As := []) (rest := []) S hO (fun _ h => h) (k_NS_clear l G ad s_16 t_25 3 (by omega)) cw_QU_100 (by decide) (sh_NS G ad _ _ (j := 3) (by decide)) rfl rfl hl.1 (Nat.le_of_ble_eq_true rfl) ⟨(Nat.le_of_ble_eq_true rfl), (Nat.le_of_ble_eq_true rfl)⟩ ⟨(Nat.le_of_ble_eq_true rfl), (Nat.le_of_ble_eq_true rfl)⟩ d_QU_begin_169 (fun q x ce H locs h9 => h9.elim) (fun v E1 H locs v_26 hO => ?_)
      obtain ⟨s_27, t_28, rfl, rfl, hs_27, ht_28⟩ := v_26
      rw [hs_27] at hO
      refine W.eq (g2 := F0 m 172 ls []) rfl ?_
      subst hs_16
      subst hs_15
      subst hs_14
      subst hs_13
      subst hs_12
      subst hs_11
      subst hs_10
      subst hs_9
      subst hs_8
      subst hs_7
      subst hs_6
      subst hs_5
      subst hs_3
      subst hs_1
      subst ht_28
      subst ht_25
      subst ht_22
      subst ht_19
      exact im_v S hk hr hO ⟨rfl, (by
          have n1 : 68 + i ≠ 62 := by omega
          have n2 : 80 + u ≠ 62 := by omega
          have q1 : up2 σ 62 2 d (68 + i) = σ (68 + i) := up2_c n1
          have q2 : up2 σ 62 2 d (80 + u) = σ (80 + u) := up2_c n2
          have e12 : (fit6 (up2 σ 62 2 d) (68 + i) (80 + u) 0) = (fit6 σ (68 + i) (80 + u) 0) := congrFun (fit_c q1 q2) 0
          have e21 : (fit6 (up2 σ 62 2 d) (68 + i) (80 + u) 2) = (fit6 σ (68 + i) (80 + u) 2) := congrFun (fit_c q1 q2) 2
          rw [fw_c (σ := σ) (by rw [up2_c n1, up2_c n1]) (by rw [up2_c n2, up2_c n2])] at c_39
          simp only [up2_k n1, up2_k n2]
          exact (qb_eq σ i u d _ _).trans (qb_c (by first | exact (if_pos (by first | exact Or.inl (e12.mp (z_1.mp c_12)) | exact Or.inr (e21.mp (z_1.mp c_21)))).symm | exact (if_neg (fun z => z.elim (fun q => z_0.mp c_12 (e12.mpr q)) (fun q => z_0.mp c_21 (e21.mpr q)))).symm) (by first | exact (if_pos c_39).symm | exact (if_neg c_39).symm))), (by
          have n2 : 80 + u ≠ 62 := by omega
          simp only [qbt, ns0, up2_k n2])⟩ (Nat.le_of_ble_eq_true rfl) (Nat.le_of_ble_eq_true rfl) d_QU_begin_172
    · skip
      refine lv_iconst (v := 1) S.1 S.2.1 d_QU_begin_42 (by decide) ?_
      refine lv_goto (tgt := 47) S.1 S.2.1 d_QU_begin_43 (by decide) ?_
      obtain ⟨s_29, hs_29⟩ : ∃ z : Nat → Nat → Int32, z = up2 s_3 62 1 1 := ⟨_, rfl⟩
      refine g_put S hO (fun _ h => h) fp_QU_45 (by decide) (sh_62 G ad _ _) (v := .int 1) rfl rfl (Nat.le_of_ble_eq_true rfl) (E2 := enc G ad s_29 τ) (by rw [hs_29]; exact enc_i (sh_62 G ad _ _)) d_QU_begin_47 (fun H locs hO => ?_)
      refine lv_aload_n S.1 S.2.1 d_QU_begin_50 rfl (lv_at hl 0 rfl) ?_
      refine lv_aload_n S.1 S.2.1 d_QU_begin_51 rfl (lv_at hl 2 rfl) ?_
      refine g_get S hO fl_QU_48 (by omega) (sh_PL G ad _ _ (by omega)) (v := .int (s_29 (68 + i) 3)) rfl d_QU_begin_52 ?_
      obtain ⟨s_30, hs_30⟩ : ∃ z : Nat → Nat → Int32, z = up2 s_29 62 3 (s_29 (68 + i) 3) := ⟨_, rfl⟩
      refine g_put S hO (fun _ h => h) fp_QU_51 (by decide) (sh_62 G ad _ _) (v := .int (s_29 (68 + i) 3)) rfl rfl (Nat.le_of_ble_eq_true rfl) (E2 := enc G ad s_30 τ) (by rw [hs_30]; exact enc_i (sh_62 G ad _ _)) d_QU_begin_55 (fun H locs hO => ?_)
      refine lv_aload_n S.1 S.2.1 d_QU_begin_58 rfl (lv_at hl 0 rfl) ?_
      refine lv_aload_n S.1 S.2.1 d_QU_begin_59 rfl (lv_at hl 2 rfl) ?_
      refine g_get S hO fl_QU_52 (by omega) (sh_PL G ad _ _ (by omega)) (v := .int (s_30 (68 + i) 4)) rfl d_QU_begin_60 ?_
      obtain ⟨s_31, hs_31⟩ : ∃ z : Nat → Nat → Int32, z = up2 s_30 62 4 (s_30 (68 + i) 4) := ⟨_, rfl⟩
      refine g_put S hO (fun _ h => h) fp_QU_55 (by decide) (sh_62 G ad _ _) (v := .int (s_30 (68 + i) 4)) rfl rfl (Nat.le_of_ble_eq_true rfl) (E2 := enc G ad s_31 τ) (by rw [hs_31]; exact enc_i (sh_62 G ad _ _)) d_QU_begin_63 (fun H locs hO => ?_)
      refine lv_aload_n S.1 S.2.1 d_QU_begin_66 rfl (lv_at hl 0 rfl) ?_
      refine lv_aload_n S.1 S.2.1 d_QU_begin_67 rfl (lv_at hl 1 rfl) ?_
      refine g_get S hO fl_QU_56 (by omega) (sh_UN G ad _ _ (by omega)) (v := .int (s_31 (80 + u) 0)) rfl d_QU_begin_68 ?_
      obtain ⟨s_32, hs_32⟩ : ∃ z : Nat → Nat → Int32, z = up2 s_31 62 5 (s_31 (80 + u) 0) := ⟨_, rfl⟩
      refine g_put S hO (fun _ h => h) fp_QU_61 (by decide) (sh_62 G ad _ _) (v := .int (s_31 (80 + u) 0)) rfl rfl (Nat.le_of_ble_eq_true rfl) (E2 := enc G ad s_32 τ) (by rw [hs_32]; exact enc_i (sh_62 G ad _ _)) d_QU_begin_71 (fun H locs hO => ?_)
      refine lv_aload_n S.1 S.2.1 d_QU_begin_74 rfl (lv_at hl 0 rfl) ?_
      refine lv_aload_n S.1 S.2.1 d_QU_begin_75 rfl (lv_at hl 1 rfl) ?_
      refine g_get S hO fl_QU_62 (by omega) (sh_UN G ad _ _ (by omega)) (v := .int (s_32 (80 + u) 6)) rfl d_QU_begin_76 ?_
      obtain ⟨s_33, hs_33⟩ : ∃ z : Nat → Nat → Int32, z = up2 s_32 62 6 (s_32 (80 + u) 6) := ⟨_, rfl⟩
      refine g_put S hO (fun _ h => h) fp_QU_65 (by decide) (sh_62 G ad _ _) (v := .int (s_32 (80 + u) 6)) rfl rfl (Nat.le_of_ble_eq_true rfl) (E2 := enc G ad s_33 τ) (by rw [hs_33]; exact enc_i (sh_62 G ad _ _)) d_QU_begin_79 (fun H locs hO => ?_)
      refine lv_aload_n S.1 S.2.1 d_QU_begin_82 rfl (lv_at hl 0 rfl) ?_
      refine lv_aload_n S.1 S.2.1 d_QU_begin_83 rfl (lv_at hl 1 rfl) ?_
      refine g_get S hO fl_QU_66 (by omega) (sh_UN G ad _ _ (by omega)) (v := .int (s_33 (80 + u) 7)) rfl d_QU_begin_84 ?_
      obtain ⟨s_34, hs_34⟩ : ∃ z : Nat → Nat → Int32, z = up2 s_33 62 7 (s_33 (80 + u) 7) := ⟨_, rfl⟩
      refine g_put S hO (fun _ h => h) fp_QU_69 (by decide) (sh_62 G ad _ _) (v := .int (s_33 (80 + u) 7)) rfl rfl (Nat.le_of_ble_eq_true rfl) (E2 := enc G ad s_34 τ) (by rw [hs_34]; exact enc_i (sh_62 G ad _ _)) d_QU_begin_87 (fun H locs hO => ?_)
      refine lv_aload_n S.1 S.2.1 d_QU_begin_90 rfl (lv_at hl 0 rfl) ?_
      refine lv_aload_n S.1 S.2.1 d_QU_begin_91 rfl (lv_at hl 1 rfl) ?_
      refine g_get S hO fl_QU_70 (by omega) (sh_UN G ad _ _ (by omega)) (v := .int (s_34 (80 + u) 8)) rfl d_QU_begin_92 ?_
      obtain ⟨s_35, hs_35⟩ : ∃ z : Nat → Nat → Int32, z = up2 s_34 62 8 (s_34 (80 + u) 8) := ⟨_, rfl⟩
      refine g_put S hO (fun _ h => h) fp_QU_73 (by decide) (sh_62 G ad _ _) (v := .int (s_34 (80 + u) 8)) rfl rfl (Nat.le_of_ble_eq_true rfl) (E2 := enc G ad s_35 τ) (by rw [hs_35]; exact enc_i (sh_62 G ad _ _)) d_QU_begin_95 (fun H locs hO => ?_)
      refine lv_aload_n S.1 S.2.1 d_QU_begin_98 rfl (lv_at hl 0 rfl) ?_
      refine lv_aload_n S.1 S.2.1 d_QU_begin_99 rfl (lv_at hl 1 rfl) ?_
      refine g_get S hO fl_QU_74 (by omega) (sh_UN G ad _ _ (by omega)) (v := .int (s_35 (80 + u) 9)) rfl d_QU_begin_100 ?_
      obtain ⟨s_36, hs_36⟩ : ∃ z : Nat → Nat → Int32, z = up2 s_35 62 9 (s_35 (80 + u) 9) := ⟨_, rfl⟩
      refine g_put S hO (fun _ h => h) fp_QU_77 (by decide) (sh_62 G ad _ _) (v := .int (s_35 (80 + u) 9)) rfl rfl (Nat.le_of_ble_eq_true rfl) (E2 := enc G ad s_36 τ) (by rw [hs_36]; exact enc_i (sh_62 G ad _ _)) d_QU_begin_103 (fun H locs hO => ?_)
      refine lv_aload_n S.1 S.2.1 d_QU_begin_106 rfl (lv_at hl 0 rfl) ?_
      refine lv_iconst (v := 1) S.1 S.2.1 d_QU_begin_107 (by decide) ?_
      obtain ⟨s_37, hs_37⟩ : ∃ z : Nat → Nat → Int32, z = up2 s_36 62 10 1 := ⟨_, rfl⟩
      refine g_put S hO (fun _ h => h) fp_QU_78 (by decide) (sh_62 G ad _ _) (v := .int 1) rfl rfl (Nat.le_of_ble_eq_true rfl) (E2 := enc G ad s_37 τ) (by rw [hs_37]; exact enc_i (sh_62 G ad _ _)) d_QU_begin_108 (fun H locs hO => ?_)
      refine lv_aload_n S.1 S.2.1 d_QU_begin_111 rfl (lv_at hl 0 rfl) ?_
      refine lv_iconst (v := 0) S.1 S.2.1 d_QU_begin_112 (by decide) ?_
      obtain ⟨s_38, hs_38⟩ : ∃ z : Nat → Nat → Int32, z = up2 s_37 62 11 0 := ⟨_, rfl⟩
      refine g_put S hO (fun _ h => h) fp_QU_81 (by decide) (sh_62 G ad _ _) (v := .int 0) rfl rfl (Nat.le_of_ble_eq_true rfl) (E2 := enc G ad s_38 τ) (by rw [hs_38]; exact enc_i (sh_62 G ad _ _)) d_QU_begin_113 (fun H locs hO => ?_)
      refine lv_aload_n S.1 S.2.1 d_QU_begin_116 rfl (lv_at hl 0 rfl) ?_
      refine lv_aload_n S.1 S.2.1 d_QU_begin_117 rfl (lv_at hl 1 rfl) ?_
      refine g_get S hO fl_QU_74 (by omega) (sh_UN G ad _ _ (by omega)) (v := .int (s_38 (80 + u) 9)) rfl d_QU_begin_118 ?_
      obtain ⟨s_39, hs_39⟩ : ∃ z : Nat → Nat → Int32, z = up2 s_38 62 12 (s_38 (80 + u) 9) := ⟨_, rfl⟩
      refine g_put S hO (fun _ h => h) fp_QU_84 (by decide) (sh_62 G ad _ _) (v := .int (s_38 (80 + u) 9)) rfl rfl (Nat.le_of_ble_eq_true rfl) (E2 := enc G ad s_39 τ) (by rw [hs_39]; exact enc_i (sh_62 G ad _ _)) d_QU_begin_121 (fun H locs hO => ?_)
      refine lv_aload_n S.1 S.2.1 d_QU_begin_124 rfl (lv_at hl 0 rfl) ?_
      refine lv_aload_n S.1 S.2.1 d_QU_begin_125 rfl (lv_at hl 1 rfl) ?_
      refine g_get S hO fl_QU_74 (by omega) (sh_UN G ad _ _ (by omega)) (v := .int (s_39 (80 + u) 9)) rfl d_QU_begin_126 ?_
      obtain ⟨s_40, hs_40⟩ : ∃ z : Nat → Nat → Int32, z = up2 s_39 62 13 (s_39 (80 + u) 9) := ⟨_, rfl⟩
      refine g_put S hO (fun _ h => h) fp_QU_87 (by decide) (sh_62 G ad _ _) (v := .int (s_39 (80 + u) 9)) rfl rfl (Nat.le_of_ble_eq_true rfl) (E2 := enc G ad s_40 τ) (by rw [hs_40]; exact enc_i (sh_62 G ad _ _)) d_QU_begin_129 (fun H locs hO => ?_)
      refine lv_aload_n S.1 S.2.1 d_QU_begin_132 rfl (lv_at hl 0 rfl) ?_
      refine g_get S hO fl_QU_12 (by decide) (sh_62 G ad _ _) (v := .ref (ad 63)) rfl d_QU_begin_133 ?_
      refine lv_aload_n S.1 S.2.1 d_QU_begin_136 rfl (lv_at hl 1 rfl) ?_
      refine g_get S hO fl_QU_56 (by omega) (sh_UN G ad _ _ (by omega)) (v := .int (s_40 (80 + u) 0)) rfl d_QU_begin_137 ?_
      refine g_VI (As := [.int (s_40 (80 + u) 0)]) (rest := []) S hO (fun _ h => h) (k_NS_holdOnly l G ad s_40 τ 0 (by omega) (s_40 (80 + u) 0)) cw_QU_90 (by decide) (sh_NS G ad _ _ (j := 0) (by decide)) rfl rfl hl.1 (Nat.le_of_ble_eq_true rfl) ⟨(Nat.le_of_ble_eq_true rfl), (Nat.le_of_ble_eq_true rfl)⟩ ⟨(Nat.le_of_ble_eq_true rfl), (Nat.le_of_ble_eq_true rfl)⟩ d_QU_begin_140 (fun q x ce H locs h9 => h9.elim) (fun v E1 H locs v_41 hO => ?_)
      obtain ⟨s_42, t_43, rfl, rfl, hs_42, ht_43⟩ := v_41
      rw [hs_42] at hO
      refine W.eq (g2 := F0 m 143 ls []) rfl ?_
      refine lv_aload_n S.1 S.2.1 d_QU_begin_143 rfl (lv_at hl 0 rfl) ?_
      refine g_get S hO fl_QU_18 (by decide) (sh_62 G ad _ _) (v := .ref (ad 64)) rfl d_QU_begin_144 ?_
      refine lv_aload_n S.1 S.2.1 d_QU_begin_147 rfl (lv_at hl 1 rfl) ?_
      refine g_get S hO fl_QU_94 (by omega) (sh_UN G ad _ _ (by omega)) (v := .int (s_40 (80 + u) 1)) rfl d_QU_begin_148 ?_
      refine g_VI (As := [.int (s_40 (80 + u) 1)]) (rest := []) S hO (fun _ h => h) (k_NS_holdOnly l G ad s_40 t_43 1 (by omega) (s_40 (80 + u) 1)) cw_QU_90 (by decide) (sh_NS G ad _ _ (j := 1) (by decide)) rfl rfl hl.1 (Nat.le_of_ble_eq_true rfl) ⟨(Nat.le_of_ble_eq_true rfl), (Nat.le_of_ble_eq_true rfl)⟩ ⟨(Nat.le_of_ble_eq_true rfl), (Nat.le_of_ble_eq_true rfl)⟩ d_QU_begin_151 (fun q x ce H locs h9 => h9.elim) (fun v E1 H locs v_44 hO => ?_)
      obtain ⟨s_45, t_46, rfl, rfl, hs_45, ht_46⟩ := v_44
      rw [hs_45] at hO
      refine W.eq (g2 := F0 m 154 ls []) rfl ?_
      refine lv_aload_n S.1 S.2.1 d_QU_begin_154 rfl (lv_at hl 0 rfl) ?_
      refine g_get S hO fl_QU_21 (by decide) (sh_62 G ad _ _) (v := .ref (ad 65)) rfl d_QU_begin_155 ?_
      refine lv_aload_n S.1 S.2.1 d_QU_begin_158 rfl (lv_at hl 1 rfl) ?_
      refine g_get S hO fl_QU_97 (by omega) (sh_UN G ad _ _ (by omega)) (v := .int (s_40 (80 + u) 2)) rfl d_QU_begin_159 ?_
      refine g_VI (As := [.int (s_40 (80 + u) 2)]) (rest := []) S hO (fun _ h => h) (k_NS_holdOnly l G ad s_40 t_46 2 (by omega) (s_40 (80 + u) 2)) cw_QU_90 (by decide) (sh_NS G ad _ _ (j := 2) (by decide)) rfl rfl hl.1 (Nat.le_of_ble_eq_true rfl) ⟨(Nat.le_of_ble_eq_true rfl), (Nat.le_of_ble_eq_true rfl)⟩ ⟨(Nat.le_of_ble_eq_true rfl), (Nat.le_of_ble_eq_true rfl)⟩ d_QU_begin_162 (fun q x ce H locs h9 => h9.elim) (fun v E1 H locs v_47 hO => ?_)
      obtain ⟨s_48, t_49, rfl, rfl, hs_48, ht_49⟩ := v_47
      rw [hs_48] at hO
      refine W.eq (g2 := F0 m 165 ls []) rfl ?_
      refine lv_aload_n S.1 S.2.1 d_QU_begin_165 rfl (lv_at hl 0 rfl) ?_
      refine g_get S hO fl_QU_24 (by decide) (sh_62 G ad _ _) (v := .ref (ad 66)) rfl d_QU_begin_166 ?_
      refine g_VI (As := []) (rest := []) S hO (fun _ h => h) (k_NS_clear l G ad s_40 t_49 3 (by omega)) cw_QU_100 (by decide) (sh_NS G ad _ _ (j := 3) (by decide)) rfl rfl hl.1 (Nat.le_of_ble_eq_true rfl) ⟨(Nat.le_of_ble_eq_true rfl), (Nat.le_of_ble_eq_true rfl)⟩ ⟨(Nat.le_of_ble_eq_true rfl), (Nat.le_of_ble_eq_true rfl)⟩ d_QU_begin_169 (fun q x ce H locs h9 => h9.elim) (fun v E1 H locs v_50 hO => ?_)
      obtain ⟨s_51, t_52, rfl, rfl, hs_51, ht_52⟩ := v_50
      rw [hs_51] at hO
      refine W.eq (g2 := F0 m 172 ls []) rfl ?_
      subst hs_40
      subst hs_39
      subst hs_38
      subst hs_37
      subst hs_36
      subst hs_35
      subst hs_34
      subst hs_33
      subst hs_32
      subst hs_31
      subst hs_30
      subst hs_29
      subst hs_3
      subst hs_1
      subst ht_52
      subst ht_49
      subst ht_46
      subst ht_43
      exact im_v S hk hr hO ⟨rfl, (by
          have n1 : 68 + i ≠ 62 := by omega
          have n2 : 80 + u ≠ 62 := by omega
          have q1 : up2 σ 62 2 d (68 + i) = σ (68 + i) := up2_c n1
          have q2 : up2 σ 62 2 d (80 + u) = σ (80 + u) := up2_c n2
          have e12 : (fit6 (up2 σ 62 2 d) (68 + i) (80 + u) 0) = (fit6 σ (68 + i) (80 + u) 0) := congrFun (fit_c q1 q2) 0
          have e21 : (fit6 (up2 σ 62 2 d) (68 + i) (80 + u) 2) = (fit6 σ (68 + i) (80 + u) 2) := congrFun (fit_c q1 q2) 2
          rw [fw_c (σ := σ) (by rw [up2_c n1, up2_c n1]) (by rw [up2_c n2, up2_c n2])] at c_39
          simp only [up2_k n1, up2_k n2]
          exact (qb_eq σ i u d _ _).trans (qb_c (by first | exact (if_pos (by first | exact Or.inl (e12.mp (z_1.mp c_12)) | exact Or.inr (e21.mp (z_1.mp c_21)))).symm | exact (if_neg (fun z => z.elim (fun q => z_0.mp c_12 (e12.mpr q)) (fun q => z_0.mp c_21 (e21.mpr q)))).symm) (by first | exact (if_pos c_39).symm | exact (if_neg c_39).symm))), (by
          have n2 : 80 + u ≠ 62 := by omega
          simp only [qbt, ns0, up2_k n2])⟩ (Nat.le_of_ble_eq_true rfl) (Nat.le_of_ble_eq_true rfl) d_QU_begin_172
  · skip
    refine lv_aload_n S.1 S.2.1 d_QU_begin_15 rfl (lv_at hl 2 rfl) ?_
    refine lv_aload_n S.1 S.2.1 d_QU_begin_16 rfl (lv_at hl 1 rfl) ?_
    refine lv_iconst (v := 2) S.1 S.2.1 d_QU_begin_17 (by decide) ?_
    refine g_VP (As := [.ref (ad (80 + u)), .int 2]) (rest := [.ref (ad 62)]) S hO (k_PL_fits l G ad s_1 τ i (by omega) u (by omega) 2) cw_QU_31 (by omega) (sh_PL G ad _ _ (by omega)) rfl rfl hl.1 (Nat.le_of_ble_eq_true rfl) ⟨(Nat.le_of_ble_eq_true rfl), (Nat.le_of_ble_eq_true rfl)⟩ ⟨(Nat.le_of_ble_eq_true rfl), (Nat.le_of_ble_eq_true rfl)⟩ d_QU_begin_18 (fun q x ce H h9 => h9.elim) (fun v H v_53 hO => ?_)
    subst v_53
    refine W.eq (g2 := F0 m 21 ls [.int (if fit6 s_1 (68 + i) (80 + u) 2 then 1 else 0), .ref (ad 62)]) rfl ?_
    refine lv_if_eq (tgt := 28) S.1 S.2.1 d_QU_begin_21 (by decide) (fun c_21 => ?_) (fun c_21 => ?_)
    · skip
      refine lv_iconst (v := 0) S.1 S.2.1 d_QU_begin_28 (by decide) ?_
      obtain ⟨s_54, hs_54⟩ : ∃ z : Nat → Nat → Int32, z = up2 s_1 62 0 0 := ⟨_, rfl⟩
      refine g_put S hO (fun _ h => h) fp_QU_37 (by decide) (sh_62 G ad _ _) (v := .int 0) rfl rfl (Nat.le_of_ble_eq_true rfl) (E2 := enc G ad s_54 τ) (by rw [hs_54]; exact enc_i (sh_62 G ad _ _)) d_QU_begin_29 (fun H locs hO => ?_)
      refine lv_aload_n S.1 S.2.1 d_QU_begin_32 rfl (lv_at hl 0 rfl) ?_
      refine lv_aload_n S.1 S.2.1 d_QU_begin_33 rfl (lv_at hl 2 rfl) ?_
      refine lv_aload_n S.1 S.2.1 d_QU_begin_34 rfl (lv_at hl 1 rfl) ?_
      refine g_VP (As := [.ref (ad (80 + u))]) (rest := [.ref (ad 62)]) S hO (k_PL_firstWayFor l G ad s_54 τ i (by omega) u (by omega)) cw_QU_41 (by omega) (sh_PL G ad _ _ (by omega)) rfl rfl hl.1 (Nat.le_of_ble_eq_true rfl) ⟨(Nat.le_of_ble_eq_true rfl), (Nat.le_of_ble_eq_true rfl)⟩ ⟨(Nat.le_of_ble_eq_true rfl), (Nat.le_of_ble_eq_true rfl)⟩ d_QU_begin_35 (fun q x ce H h9 => h9.elim) (fun v H v_55 hO => ?_)
      subst v_55
      refine W.eq (g2 := F0 m 38 ls [.int (oI (lpf (fwB s_54 (68 + i) (80 + u)) 6 0)), .ref (ad 62)]) rfl ?_
      refine lv_iconst (v := (-1)) S.1 S.2.1 d_QU_begin_38 (by decide) ?_
      refine lv_icmp_eq (tgt := 46) S.1 S.2.1 d_QU_begin_39 (by decide) (fun c_39 => ?_) (fun c_39 => ?_)
      · skip
        refine lv_iconst (v := 0) S.1 S.2.1 d_QU_begin_46 (by decide) ?_
        obtain ⟨s_56, hs_56⟩ : ∃ z : Nat → Nat → Int32, z = up2 s_54 62 1 0 := ⟨_, rfl⟩
        refine g_put S hO (fun _ h => h) fp_QU_45 (by decide) (sh_62 G ad _ _) (v := .int 0) rfl rfl (Nat.le_of_ble_eq_true rfl) (E2 := enc G ad s_56 τ) (by rw [hs_56]; exact enc_i (sh_62 G ad _ _)) d_QU_begin_47 (fun H locs hO => ?_)
        refine lv_aload_n S.1 S.2.1 d_QU_begin_50 rfl (lv_at hl 0 rfl) ?_
        refine lv_aload_n S.1 S.2.1 d_QU_begin_51 rfl (lv_at hl 2 rfl) ?_
        refine g_get S hO fl_QU_48 (by omega) (sh_PL G ad _ _ (by omega)) (v := .int (s_56 (68 + i) 3)) rfl d_QU_begin_52 ?_
        obtain ⟨s_57, hs_57⟩ : ∃ z : Nat → Nat → Int32, z = up2 s_56 62 3 (s_56 (68 + i) 3) := ⟨_, rfl⟩
        refine g_put S hO (fun _ h => h) fp_QU_51 (by decide) (sh_62 G ad _ _) (v := .int (s_56 (68 + i) 3)) rfl rfl (Nat.le_of_ble_eq_true rfl) (E2 := enc G ad s_57 τ) (by rw [hs_57]; exact enc_i (sh_62 G ad _ _)) d_QU_begin_55 (fun H locs hO => ?_)
        refine lv_aload_n S.1 S.2.1 d_QU_begin_58 rfl (lv_at hl 0 rfl) ?_
        refine lv_aload_n S.1 S.2.1 d_QU_begin_59 rfl (lv_at hl 2 rfl) ?_
        refine g_get S hO fl_QU_52 (by omega) (sh_PL G ad _ _ (by omega)) (v := .int (s_57 (68 + i) 4)) rfl d_QU_begin_60 ?_
        obtain ⟨s_58, hs_58⟩ : ∃ z : Nat → Nat → Int32, z = up2 s_57 62 4 (s_57 (68 + i) 4) := ⟨_, rfl⟩
        refine g_put S hO (fun _ h => h) fp_QU_55 (by decide) (sh_62 G ad _ _) (v := .int (s_57 (68 + i) 4)) rfl rfl (Nat.le_of_ble_eq_true rfl) (E2 := enc G ad s_58 τ) (by rw [hs_58]; exact enc_i (sh_62 G ad _ _)) d_QU_begin_63 (fun H locs hO => ?_)
        refine lv_aload_n S.1 S.2.1 d_QU_begin_66 rfl (lv_at hl 0 rfl) ?_
        refine lv_aload_n S.1 S.2.1 d_QU_begin_67 rfl (lv_at hl 1 rfl) ?_
        refine g_get S hO fl_QU_56 (by omega) (sh_UN G ad _ _ (by omega)) (v := .int (s_58 (80 + u) 0)) rfl d_QU_begin_68 ?_
        obtain ⟨s_59, hs_59⟩ : ∃ z : Nat → Nat → Int32, z = up2 s_58 62 5 (s_58 (80 + u) 0) := ⟨_, rfl⟩
        refine g_put S hO (fun _ h => h) fp_QU_61 (by decide) (sh_62 G ad _ _) (v := .int (s_58 (80 + u) 0)) rfl rfl (Nat.le_of_ble_eq_true rfl) (E2 := enc G ad s_59 τ) (by rw [hs_59]; exact enc_i (sh_62 G ad _ _)) d_QU_begin_71 (fun H locs hO => ?_)
        refine lv_aload_n S.1 S.2.1 d_QU_begin_74 rfl (lv_at hl 0 rfl) ?_
        refine lv_aload_n S.1 S.2.1 d_QU_begin_75 rfl (lv_at hl 1 rfl) ?_
        refine g_get S hO fl_QU_62 (by omega) (sh_UN G ad _ _ (by omega)) (v := .int (s_59 (80 + u) 6)) rfl d_QU_begin_76 ?_
        obtain ⟨s_60, hs_60⟩ : ∃ z : Nat → Nat → Int32, z = up2 s_59 62 6 (s_59 (80 + u) 6) := ⟨_, rfl⟩
        refine g_put S hO (fun _ h => h) fp_QU_65 (by decide) (sh_62 G ad _ _) (v := .int (s_59 (80 + u) 6)) rfl rfl (Nat.le_of_ble_eq_true rfl) (E2 := enc G ad s_60 τ) (by rw [hs_60]; exact enc_i (sh_62 G ad _ _)) d_QU_begin_79 (fun H locs hO => ?_)
        refine lv_aload_n S.1 S.2.1 d_QU_begin_82 rfl (lv_at hl 0 rfl) ?_
        refine lv_aload_n S.1 S.2.1 d_QU_begin_83 rfl (lv_at hl 1 rfl) ?_
        refine g_get S hO fl_QU_66 (by omega) (sh_UN G ad _ _ (by omega)) (v := .int (s_60 (80 + u) 7)) rfl d_QU_begin_84 ?_
        obtain ⟨s_61, hs_61⟩ : ∃ z : Nat → Nat → Int32, z = up2 s_60 62 7 (s_60 (80 + u) 7) := ⟨_, rfl⟩
        refine g_put S hO (fun _ h => h) fp_QU_69 (by decide) (sh_62 G ad _ _) (v := .int (s_60 (80 + u) 7)) rfl rfl (Nat.le_of_ble_eq_true rfl) (E2 := enc G ad s_61 τ) (by rw [hs_61]; exact enc_i (sh_62 G ad _ _)) d_QU_begin_87 (fun H locs hO => ?_)
        refine lv_aload_n S.1 S.2.1 d_QU_begin_90 rfl (lv_at hl 0 rfl) ?_
        refine lv_aload_n S.1 S.2.1 d_QU_begin_91 rfl (lv_at hl 1 rfl) ?_
        refine g_get S hO fl_QU_70 (by omega) (sh_UN G ad _ _ (by omega)) (v := .int (s_61 (80 + u) 8)) rfl d_QU_begin_92 ?_
        obtain ⟨s_62, hs_62⟩ : ∃ z : Nat → Nat → Int32, z = up2 s_61 62 8 (s_61 (80 + u) 8) := ⟨_, rfl⟩
        refine g_put S hO (fun _ h => h) fp_QU_73 (by decide) (sh_62 G ad _ _) (v := .int (s_61 (80 + u) 8)) rfl rfl (Nat.le_of_ble_eq_true rfl) (E2 := enc G ad s_62 τ) (by rw [hs_62]; exact enc_i (sh_62 G ad _ _)) d_QU_begin_95 (fun H locs hO => ?_)
        refine lv_aload_n S.1 S.2.1 d_QU_begin_98 rfl (lv_at hl 0 rfl) ?_
        refine lv_aload_n S.1 S.2.1 d_QU_begin_99 rfl (lv_at hl 1 rfl) ?_
        refine g_get S hO fl_QU_74 (by omega) (sh_UN G ad _ _ (by omega)) (v := .int (s_62 (80 + u) 9)) rfl d_QU_begin_100 ?_
        obtain ⟨s_63, hs_63⟩ : ∃ z : Nat → Nat → Int32, z = up2 s_62 62 9 (s_62 (80 + u) 9) := ⟨_, rfl⟩
        refine g_put S hO (fun _ h => h) fp_QU_77 (by decide) (sh_62 G ad _ _) (v := .int (s_62 (80 + u) 9)) rfl rfl (Nat.le_of_ble_eq_true rfl) (E2 := enc G ad s_63 τ) (by rw [hs_63]; exact enc_i (sh_62 G ad _ _)) d_QU_begin_103 (fun H locs hO => ?_)
        refine lv_aload_n S.1 S.2.1 d_QU_begin_106 rfl (lv_at hl 0 rfl) ?_
        refine lv_iconst (v := 1) S.1 S.2.1 d_QU_begin_107 (by decide) ?_
        obtain ⟨s_64, hs_64⟩ : ∃ z : Nat → Nat → Int32, z = up2 s_63 62 10 1 := ⟨_, rfl⟩
        refine g_put S hO (fun _ h => h) fp_QU_78 (by decide) (sh_62 G ad _ _) (v := .int 1) rfl rfl (Nat.le_of_ble_eq_true rfl) (E2 := enc G ad s_64 τ) (by rw [hs_64]; exact enc_i (sh_62 G ad _ _)) d_QU_begin_108 (fun H locs hO => ?_)
        refine lv_aload_n S.1 S.2.1 d_QU_begin_111 rfl (lv_at hl 0 rfl) ?_
        refine lv_iconst (v := 0) S.1 S.2.1 d_QU_begin_112 (by decide) ?_
        obtain ⟨s_65, hs_65⟩ : ∃ z : Nat → Nat → Int32, z = up2 s_64 62 11 0 := ⟨_, rfl⟩
        refine g_put S hO (fun _ h => h) fp_QU_81 (by decide) (sh_62 G ad _ _) (v := .int 0) rfl rfl (Nat.le_of_ble_eq_true rfl) (E2 := enc G ad s_65 τ) (by rw [hs_65]; exact enc_i (sh_62 G ad _ _)) d_QU_begin_113 (fun H locs hO => ?_)
        refine lv_aload_n S.1 S.2.1 d_QU_begin_116 rfl (lv_at hl 0 rfl) ?_
        refine lv_aload_n S.1 S.2.1 d_QU_begin_117 rfl (lv_at hl 1 rfl) ?_
        refine g_get S hO fl_QU_74 (by omega) (sh_UN G ad _ _ (by omega)) (v := .int (s_65 (80 + u) 9)) rfl d_QU_begin_118 ?_
        obtain ⟨s_66, hs_66⟩ : ∃ z : Nat → Nat → Int32, z = up2 s_65 62 12 (s_65 (80 + u) 9) := ⟨_, rfl⟩
        refine g_put S hO (fun _ h => h) fp_QU_84 (by decide) (sh_62 G ad _ _) (v := .int (s_65 (80 + u) 9)) rfl rfl (Nat.le_of_ble_eq_true rfl) (E2 := enc G ad s_66 τ) (by rw [hs_66]; exact enc_i (sh_62 G ad _ _)) d_QU_begin_121 (fun H locs hO => ?_)
        refine lv_aload_n S.1 S.2.1 d_QU_begin_124 rfl (lv_at hl 0 rfl) ?_
        refine lv_aload_n S.1 S.2.1 d_QU_begin_125 rfl (lv_at hl 1 rfl) ?_
        refine g_get S hO fl_QU_74 (by omega) (sh_UN G ad _ _ (by omega)) (v := .int (s_66 (80 + u) 9)) rfl d_QU_begin_126 ?_
        obtain ⟨s_67, hs_67⟩ : ∃ z : Nat → Nat → Int32, z = up2 s_66 62 13 (s_66 (80 + u) 9) := ⟨_, rfl⟩
        refine g_put S hO (fun _ h => h) fp_QU_87 (by decide) (sh_62 G ad _ _) (v := .int (s_66 (80 + u) 9)) rfl rfl (Nat.le_of_ble_eq_true rfl) (E2 := enc G ad s_67 τ) (by rw [hs_67]; exact enc_i (sh_62 G ad _ _)) d_QU_begin_129 (fun H locs hO => ?_)
        refine lv_aload_n S.1 S.2.1 d_QU_begin_132 rfl (lv_at hl 0 rfl) ?_
        refine g_get S hO fl_QU_12 (by decide) (sh_62 G ad _ _) (v := .ref (ad 63)) rfl d_QU_begin_133 ?_
        refine lv_aload_n S.1 S.2.1 d_QU_begin_136 rfl (lv_at hl 1 rfl) ?_
        refine g_get S hO fl_QU_56 (by omega) (sh_UN G ad _ _ (by omega)) (v := .int (s_67 (80 + u) 0)) rfl d_QU_begin_137 ?_
        refine g_VI (As := [.int (s_67 (80 + u) 0)]) (rest := []) S hO (fun _ h => h) (k_NS_holdOnly l G ad s_67 τ 0 (by omega) (s_67 (80 + u) 0)) cw_QU_90 (by decide) (sh_NS G ad _ _ (j := 0) (by decide)) rfl rfl hl.1 (Nat.le_of_ble_eq_true rfl) ⟨(Nat.le_of_ble_eq_true rfl), (Nat.le_of_ble_eq_true rfl)⟩ ⟨(Nat.le_of_ble_eq_true rfl), (Nat.le_of_ble_eq_true rfl)⟩ d_QU_begin_140 (fun q x ce H locs h9 => h9.elim) (fun v E1 H locs v_68 hO => ?_)
        obtain ⟨s_69, t_70, rfl, rfl, hs_69, ht_70⟩ := v_68
        rw [hs_69] at hO
        refine W.eq (g2 := F0 m 143 ls []) rfl ?_
        refine lv_aload_n S.1 S.2.1 d_QU_begin_143 rfl (lv_at hl 0 rfl) ?_
        refine g_get S hO fl_QU_18 (by decide) (sh_62 G ad _ _) (v := .ref (ad 64)) rfl d_QU_begin_144 ?_
        refine lv_aload_n S.1 S.2.1 d_QU_begin_147 rfl (lv_at hl 1 rfl) ?_
        refine g_get S hO fl_QU_94 (by omega) (sh_UN G ad _ _ (by omega)) (v := .int (s_67 (80 + u) 1)) rfl d_QU_begin_148 ?_
        refine g_VI (As := [.int (s_67 (80 + u) 1)]) (rest := []) S hO (fun _ h => h) (k_NS_holdOnly l G ad s_67 t_70 1 (by omega) (s_67 (80 + u) 1)) cw_QU_90 (by decide) (sh_NS G ad _ _ (j := 1) (by decide)) rfl rfl hl.1 (Nat.le_of_ble_eq_true rfl) ⟨(Nat.le_of_ble_eq_true rfl), (Nat.le_of_ble_eq_true rfl)⟩ ⟨(Nat.le_of_ble_eq_true rfl), (Nat.le_of_ble_eq_true rfl)⟩ d_QU_begin_151 (fun q x ce H locs h9 => h9.elim) (fun v E1 H locs v_71 hO => ?_)
        obtain ⟨s_72, t_73, rfl, rfl, hs_72, ht_73⟩ := v_71
        rw [hs_72] at hO
        refine W.eq (g2 := F0 m 154 ls []) rfl ?_
        refine lv_aload_n S.1 S.2.1 d_QU_begin_154 rfl (lv_at hl 0 rfl) ?_
        refine g_get S hO fl_QU_21 (by decide) (sh_62 G ad _ _) (v := .ref (ad 65)) rfl d_QU_begin_155 ?_
        refine lv_aload_n S.1 S.2.1 d_QU_begin_158 rfl (lv_at hl 1 rfl) ?_
        refine g_get S hO fl_QU_97 (by omega) (sh_UN G ad _ _ (by omega)) (v := .int (s_67 (80 + u) 2)) rfl d_QU_begin_159 ?_
        refine g_VI (As := [.int (s_67 (80 + u) 2)]) (rest := []) S hO (fun _ h => h) (k_NS_holdOnly l G ad s_67 t_73 2 (by omega) (s_67 (80 + u) 2)) cw_QU_90 (by decide) (sh_NS G ad _ _ (j := 2) (by decide)) rfl rfl hl.1 (Nat.le_of_ble_eq_true rfl) ⟨(Nat.le_of_ble_eq_true rfl), (Nat.le_of_ble_eq_true rfl)⟩ ⟨(Nat.le_of_ble_eq_true rfl), (Nat.le_of_ble_eq_true rfl)⟩ d_QU_begin_162 (fun q x ce H locs h9 => h9.elim) (fun v E1 H locs v_74 hO => ?_)
        obtain ⟨s_75, t_76, rfl, rfl, hs_75, ht_76⟩ := v_74
        rw [hs_75] at hO
        refine W.eq (g2 := F0 m 165 ls []) rfl ?_
        refine lv_aload_n S.1 S.2.1 d_QU_begin_165 rfl (lv_at hl 0 rfl) ?_
        refine g_get S hO fl_QU_24 (by decide) (sh_62 G ad _ _) (v := .ref (ad 66)) rfl d_QU_begin_166 ?_
        refine g_VI (As := []) (rest := []) S hO (fun _ h => h) (k_NS_clear l G ad s_67 t_76 3 (by omega)) cw_QU_100 (by decide) (sh_NS G ad _ _ (j := 3) (by decide)) rfl rfl hl.1 (Nat.le_of_ble_eq_true rfl) ⟨(Nat.le_of_ble_eq_true rfl), (Nat.le_of_ble_eq_true rfl)⟩ ⟨(Nat.le_of_ble_eq_true rfl), (Nat.le_of_ble_eq_true rfl)⟩ d_QU_begin_169 (fun q x ce H locs h9 => h9.elim) (fun v E1 H locs v_77 hO => ?_)
        obtain ⟨s_78, t_79, rfl, rfl, hs_78, ht_79⟩ := v_77
        rw [hs_78] at hO
        refine W.eq (g2 := F0 m 172 ls []) rfl ?_
        subst hs_67
        subst hs_66
        subst hs_65
        subst hs_64
        subst hs_63
        subst hs_62
        subst hs_61
        subst hs_60
        subst hs_59
        subst hs_58
        subst hs_57
        subst hs_56
        subst hs_54
        subst hs_1
        subst ht_79
        subst ht_76
        subst ht_73
        subst ht_70
        exact im_v S hk hr hO ⟨rfl, (by
            have n1 : 68 + i ≠ 62 := by omega
            have n2 : 80 + u ≠ 62 := by omega
            have q1 : up2 σ 62 2 d (68 + i) = σ (68 + i) := up2_c n1
            have q2 : up2 σ 62 2 d (80 + u) = σ (80 + u) := up2_c n2
            have e12 : (fit6 (up2 σ 62 2 d) (68 + i) (80 + u) 0) = (fit6 σ (68 + i) (80 + u) 0) := congrFun (fit_c q1 q2) 0
            have e21 : (fit6 (up2 σ 62 2 d) (68 + i) (80 + u) 2) = (fit6 σ (68 + i) (80 + u) 2) := congrFun (fit_c q1 q2) 2
            rw [fw_c (σ := σ) (by rw [up2_c n1, up2_c n1]) (by rw [up2_c n2, up2_c n2])] at c_39
            simp only [up2_k n1, up2_k n2]
            exact (qb_eq σ i u d _ _).trans (qb_c (by first | exact (if_pos (by first | exact Or.inl (e12.mp (z_1.mp c_12)) | exact Or.inr (e21.mp (z_1.mp c_21)))).symm | exact (if_neg (fun z => z.elim (fun q => z_0.mp c_12 (e12.mpr q)) (fun q => z_0.mp c_21 (e21.mpr q)))).symm) (by first | exact (if_pos c_39).symm | exact (if_neg c_39).symm))), (by
            have n2 : 80 + u ≠ 62 := by omega
            simp only [qbt, ns0, up2_k n2])⟩ (Nat.le_of_ble_eq_true rfl) (Nat.le_of_ble_eq_true rfl) d_QU_begin_172
      · skip
        refine lv_iconst (v := 1) S.1 S.2.1 d_QU_begin_42 (by decide) ?_
        refine lv_goto (tgt := 47) S.1 S.2.1 d_QU_begin_43 (by decide) ?_
        obtain ⟨s_80, hs_80⟩ : ∃ z : Nat → Nat → Int32, z = up2 s_54 62 1 1 := ⟨_, rfl⟩
        refine g_put S hO (fun _ h => h) fp_QU_45 (by decide) (sh_62 G ad _ _) (v := .int 1) rfl rfl (Nat.le_of_ble_eq_true rfl) (E2 := enc G ad s_80 τ) (by rw [hs_80]; exact enc_i (sh_62 G ad _ _)) d_QU_begin_47 (fun H locs hO => ?_)
        refine lv_aload_n S.1 S.2.1 d_QU_begin_50 rfl (lv_at hl 0 rfl) ?_
        refine lv_aload_n S.1 S.2.1 d_QU_begin_51 rfl (lv_at hl 2 rfl) ?_
        refine g_get S hO fl_QU_48 (by omega) (sh_PL G ad _ _ (by omega)) (v := .int (s_80 (68 + i) 3)) rfl d_QU_begin_52 ?_
        obtain ⟨s_81, hs_81⟩ : ∃ z : Nat → Nat → Int32, z = up2 s_80 62 3 (s_80 (68 + i) 3) := ⟨_, rfl⟩
        refine g_put S hO (fun _ h => h) fp_QU_51 (by decide) (sh_62 G ad _ _) (v := .int (s_80 (68 + i) 3)) rfl rfl (Nat.le_of_ble_eq_true rfl) (E2 := enc G ad s_81 τ) (by rw [hs_81]; exact enc_i (sh_62 G ad _ _)) d_QU_begin_55 (fun H locs hO => ?_)
        refine lv_aload_n S.1 S.2.1 d_QU_begin_58 rfl (lv_at hl 0 rfl) ?_
        refine lv_aload_n S.1 S.2.1 d_QU_begin_59 rfl (lv_at hl 2 rfl) ?_
        refine g_get S hO fl_QU_52 (by omega) (sh_PL G ad _ _ (by omega)) (v := .int (s_81 (68 + i) 4)) rfl d_QU_begin_60 ?_
        obtain ⟨s_82, hs_82⟩ : ∃ z : Nat → Nat → Int32, z = up2 s_81 62 4 (s_81 (68 + i) 4) := ⟨_, rfl⟩
        refine g_put S hO (fun _ h => h) fp_QU_55 (by decide) (sh_62 G ad _ _) (v := .int (s_81 (68 + i) 4)) rfl rfl (Nat.le_of_ble_eq_true rfl) (E2 := enc G ad s_82 τ) (by rw [hs_82]; exact enc_i (sh_62 G ad _ _)) d_QU_begin_63 (fun H locs hO => ?_)
        refine lv_aload_n S.1 S.2.1 d_QU_begin_66 rfl (lv_at hl 0 rfl) ?_
        refine lv_aload_n S.1 S.2.1 d_QU_begin_67 rfl (lv_at hl 1 rfl) ?_
        refine g_get S hO fl_QU_56 (by omega) (sh_UN G ad _ _ (by omega)) (v := .int (s_82 (80 + u) 0)) rfl d_QU_begin_68 ?_
        obtain ⟨s_83, hs_83⟩ : ∃ z : Nat → Nat → Int32, z = up2 s_82 62 5 (s_82 (80 + u) 0) := ⟨_, rfl⟩
        refine g_put S hO (fun _ h => h) fp_QU_61 (by decide) (sh_62 G ad _ _) (v := .int (s_82 (80 + u) 0)) rfl rfl (Nat.le_of_ble_eq_true rfl) (E2 := enc G ad s_83 τ) (by rw [hs_83]; exact enc_i (sh_62 G ad _ _)) d_QU_begin_71 (fun H locs hO => ?_)
        refine lv_aload_n S.1 S.2.1 d_QU_begin_74 rfl (lv_at hl 0 rfl) ?_
        refine lv_aload_n S.1 S.2.1 d_QU_begin_75 rfl (lv_at hl 1 rfl) ?_
        refine g_get S hO fl_QU_62 (by omega) (sh_UN G ad _ _ (by omega)) (v := .int (s_83 (80 + u) 6)) rfl d_QU_begin_76 ?_
        obtain ⟨s_84, hs_84⟩ : ∃ z : Nat → Nat → Int32, z = up2 s_83 62 6 (s_83 (80 + u) 6) := ⟨_, rfl⟩
        refine g_put S hO (fun _ h => h) fp_QU_65 (by decide) (sh_62 G ad _ _) (v := .int (s_83 (80 + u) 6)) rfl rfl (Nat.le_of_ble_eq_true rfl) (E2 := enc G ad s_84 τ) (by rw [hs_84]; exact enc_i (sh_62 G ad _ _)) d_QU_begin_79 (fun H locs hO => ?_)
        refine lv_aload_n S.1 S.2.1 d_QU_begin_82 rfl (lv_at hl 0 rfl) ?_
        refine lv_aload_n S.1 S.2.1 d_QU_begin_83 rfl (lv_at hl 1 rfl) ?_
        refine g_get S hO fl_QU_66 (by omega) (sh_UN G ad _ _ (by omega)) (v := .int (s_84 (80 + u) 7)) rfl d_QU_begin_84 ?_
        obtain ⟨s_85, hs_85⟩ : ∃ z : Nat → Nat → Int32, z = up2 s_84 62 7 (s_84 (80 + u) 7) := ⟨_, rfl⟩
        refine g_put S hO (fun _ h => h) fp_QU_69 (by decide) (sh_62 G ad _ _) (v := .int (s_84 (80 + u) 7)) rfl rfl (Nat.le_of_ble_eq_true rfl) (E2 := enc G ad s_85 τ) (by rw [hs_85]; exact enc_i (sh_62 G ad _ _)) d_QU_begin_87 (fun H locs hO => ?_)
        refine lv_aload_n S.1 S.2.1 d_QU_begin_90 rfl (lv_at hl 0 rfl) ?_
        refine lv_aload_n S.1 S.2.1 d_QU_begin_91 rfl (lv_at hl 1 rfl) ?_
        refine g_get S hO fl_QU_70 (by omega) (sh_UN G ad _ _ (by omega)) (v := .int (s_85 (80 + u) 8)) rfl d_QU_begin_92 ?_
        obtain ⟨s_86, hs_86⟩ : ∃ z : Nat → Nat → Int32, z = up2 s_85 62 8 (s_85 (80 + u) 8) := ⟨_, rfl⟩
        refine g_put S hO (fun _ h => h) fp_QU_73 (by decide) (sh_62 G ad _ _) (v := .int (s_85 (80 + u) 8)) rfl rfl (Nat.le_of_ble_eq_true rfl) (E2 := enc G ad s_86 τ) (by rw [hs_86]; exact enc_i (sh_62 G ad _ _)) d_QU_begin_95 (fun H locs hO => ?_)
        refine lv_aload_n S.1 S.2.1 d_QU_begin_98 rfl (lv_at hl 0 rfl) ?_
        refine lv_aload_n S.1 S.2.1 d_QU_begin_99 rfl (lv_at hl 1 rfl) ?_
        refine g_get S hO fl_QU_74 (by omega) (sh_UN G ad _ _ (by omega)) (v := .int (s_86 (80 + u) 9)) rfl d_QU_begin_100 ?_
        obtain ⟨s_87, hs_87⟩ : ∃ z : Nat → Nat → Int32, z = up2 s_86 62 9 (s_86 (80 + u) 9) := ⟨_, rfl⟩
        refine g_put S hO (fun _ h => h) fp_QU_77 (by decide) (sh_62 G ad _ _) (v := .int (s_86 (80 + u) 9)) rfl rfl (Nat.le_of_ble_eq_true rfl) (E2 := enc G ad s_87 τ) (by rw [hs_87]; exact enc_i (sh_62 G ad _ _)) d_QU_begin_103 (fun H locs hO => ?_)
        refine lv_aload_n S.1 S.2.1 d_QU_begin_106 rfl (lv_at hl 0 rfl) ?_
        refine lv_iconst (v := 1) S.1 S.2.1 d_QU_begin_107 (by decide) ?_
        obtain ⟨s_88, hs_88⟩ : ∃ z : Nat → Nat → Int32, z = up2 s_87 62 10 1 := ⟨_, rfl⟩
        refine g_put S hO (fun _ h => h) fp_QU_78 (by decide) (sh_62 G ad _ _) (v := .int 1) rfl rfl (Nat.le_of_ble_eq_true rfl) (E2 := enc G ad s_88 τ) (by rw [hs_88]; exact enc_i (sh_62 G ad _ _)) d_QU_begin_108 (fun H locs hO => ?_)
        refine lv_aload_n S.1 S.2.1 d_QU_begin_111 rfl (lv_at hl 0 rfl) ?_
        refine lv_iconst (v := 0) S.1 S.2.1 d_QU_begin_112 (by decide) ?_
        obtain ⟨s_89, hs_89⟩ : ∃ z : Nat → Nat → Int32, z = up2 s_88 62 11 0 := ⟨_, rfl⟩
        refine g_put S hO (fun _ h => h) fp_QU_81 (by decide) (sh_62 G ad _ _) (v := .int 0) rfl rfl (Nat.le_of_ble_eq_true rfl) (E2 := enc G ad s_89 τ) (by rw [hs_89]; exact enc_i (sh_62 G ad _ _)) d_QU_begin_113 (fun H locs hO => ?_)
        refine lv_aload_n S.1 S.2.1 d_QU_begin_116 rfl (lv_at hl 0 rfl) ?_
        refine lv_aload_n S.1 S.2.1 d_QU_begin_117 rfl (lv_at hl 1 rfl) ?_
        refine g_get S hO fl_QU_74 (by omega) (sh_UN G ad _ _ (by omega)) (v := .int (s_89 (80 + u) 9)) rfl d_QU_begin_118 ?_
        obtain ⟨s_90, hs_90⟩ : ∃ z : Nat → Nat → Int32, z = up2 s_89 62 12 (s_89 (80 + u) 9) := ⟨_, rfl⟩
        refine g_put S hO (fun _ h => h) fp_QU_84 (by decide) (sh_62 G ad _ _) (v := .int (s_89 (80 + u) 9)) rfl rfl (Nat.le_of_ble_eq_true rfl) (E2 := enc G ad s_90 τ) (by rw [hs_90]; exact enc_i (sh_62 G ad _ _)) d_QU_begin_121 (fun H locs hO => ?_)
        refine lv_aload_n S.1 S.2.1 d_QU_begin_124 rfl (lv_at hl 0 rfl) ?_
        refine lv_aload_n S.1 S.2.1 d_QU_begin_125 rfl (lv_at hl 1 rfl) ?_
        refine g_get S hO fl_QU_74 (by omega) (sh_UN G ad _ _ (by omega)) (v := .int (s_90 (80 + u) 9)) rfl d_QU_begin_126 ?_
        obtain ⟨s_91, hs_91⟩ : ∃ z : Nat → Nat → Int32, z = up2 s_90 62 13 (s_90 (80 + u) 9) := ⟨_, rfl⟩
        refine g_put S hO (fun _ h => h) fp_QU_87 (by decide) (sh_62 G ad _ _) (v := .int (s_90 (80 + u) 9)) rfl rfl (Nat.le_of_ble_eq_true rfl) (E2 := enc G ad s_91 τ) (by rw [hs_91]; exact enc_i (sh_62 G ad _ _)) d_QU_begin_129 (fun H locs hO => ?_)
        refine lv_aload_n S.1 S.2.1 d_QU_begin_132 rfl (lv_at hl 0 rfl) ?_
        refine g_get S hO fl_QU_12 (by decide) (sh_62 G ad _ _) (v := .ref (ad 63)) rfl d_QU_begin_133 ?_
        refine lv_aload_n S.1 S.2.1 d_QU_begin_136 rfl (lv_at hl 1 rfl) ?_
        refine g_get S hO fl_QU_56 (by omega) (sh_UN G ad _ _ (by omega)) (v := .int (s_91 (80 + u) 0)) rfl d_QU_begin_137 ?_
        refine g_VI (As := [.int (s_91 (80 + u) 0)]) (rest := []) S hO (fun _ h => h) (k_NS_holdOnly l G ad s_91 τ 0 (by omega) (s_91 (80 + u) 0)) cw_QU_90 (by decide) (sh_NS G ad _ _ (j := 0) (by decide)) rfl rfl hl.1 (Nat.le_of_ble_eq_true rfl) ⟨(Nat.le_of_ble_eq_true rfl), (Nat.le_of_ble_eq_true rfl)⟩ ⟨(Nat.le_of_ble_eq_true rfl), (Nat.le_of_ble_eq_true rfl)⟩ d_QU_begin_140 (fun q x ce H locs h9 => h9.elim) (fun v E1 H locs v_92 hO => ?_)
        obtain ⟨s_93, t_94, rfl, rfl, hs_93, ht_94⟩ := v_92
        rw [hs_93] at hO
        refine W.eq (g2 := F0 m 143 ls []) rfl ?_
        refine lv_aload_n S.1 S.2.1 d_QU_begin_143 rfl (lv_at hl 0 rfl) ?_
        refine g_get S hO fl_QU_18 (by decide) (sh_62 G ad _ _) (v := .ref (ad 64)) rfl d_QU_begin_144 ?_
        refine lv_aload_n S.1 S.2.1 d_QU_begin_147 rfl (lv_at hl 1 rfl) ?_
        refine g_get S hO fl_QU_94 (by omega) (sh_UN G ad _ _ (by omega)) (v := .int (s_91 (80 + u) 1)) rfl d_QU_begin_148 ?_
        refine g_VI (As := [.int (s_91 (80 + u) 1)]) (rest := []) S hO (fun _ h => h) (k_NS_holdOnly l G ad s_91 t_94 1 (by omega) (s_91 (80 + u) 1)) cw_QU_90 (by decide) (sh_NS G ad _ _ (j := 1) (by decide)) rfl rfl hl.1 (Nat.le_of_ble_eq_true rfl) ⟨(Nat.le_of_ble_eq_true rfl), (Nat.le_of_ble_eq_true rfl)⟩ ⟨(Nat.le_of_ble_eq_true rfl), (Nat.le_of_ble_eq_true rfl)⟩ d_QU_begin_151 (fun q x ce H locs h9 => h9.elim) (fun v E1 H locs v_95 hO => ?_)
        obtain ⟨s_96, t_97, rfl, rfl, hs_96, ht_97⟩ := v_95
        rw [hs_96] at hO
        refine W.eq (g2 := F0 m 154 ls []) rfl ?_
        refine lv_aload_n S.1 S.2.1 d_QU_begin_154 rfl (lv_at hl 0 rfl) ?_
        refine g_get S hO fl_QU_21 (by decide) (sh_62 G ad _ _) (v := .ref (ad 65)) rfl d_QU_begin_155 ?_
        refine lv_aload_n S.1 S.2.1 d_QU_begin_158 rfl (lv_at hl 1 rfl) ?_
        refine g_get S hO fl_QU_97 (by omega) (sh_UN G ad _ _ (by omega)) (v := .int (s_91 (80 + u) 2)) rfl d_QU_begin_159 ?_
        refine g_VI (As := [.int (s_91 (80 + u) 2)]) (rest := []) S hO (fun _ h => h) (k_NS_holdOnly l G ad s_91 t_97 2 (by omega) (s_91 (80 + u) 2)) cw_QU_90 (by decide) (sh_NS G ad _ _ (j := 2) (by decide)) rfl rfl hl.1 (Nat.le_of_ble_eq_true rfl) ⟨(Nat.le_of_ble_eq_true rfl), (Nat.le_of_ble_eq_true rfl)⟩ ⟨(Nat.le_of_ble_eq_true rfl), (Nat.le_of_ble_eq_true rfl)⟩ d_QU_begin_162 (fun q x ce H locs h9 => h9.elim) (fun v E1 H locs v_98 hO => ?_)
        obtain ⟨s_99, t_100, rfl, rfl, hs_99, ht_100⟩ := v_98
        rw [hs_99] at hO
        refine W.eq (g2 := F0 m 165 ls []) rfl ?_
        refine lv_aload_n S.1 S.2.1 d_QU_begin_165 rfl (lv_at hl 0 rfl) ?_
        refine g_get S hO fl_QU_24 (by decide) (sh_62 G ad _ _) (v := .ref (ad 66)) rfl d_QU_begin_166 ?_
        refine g_VI (As := []) (rest := []) S hO (fun _ h => h) (k_NS_clear l G ad s_91 t_100 3 (by omega)) cw_QU_100 (by decide) (sh_NS G ad _ _ (j := 3) (by decide)) rfl rfl hl.1 (Nat.le_of_ble_eq_true rfl) ⟨(Nat.le_of_ble_eq_true rfl), (Nat.le_of_ble_eq_true rfl)⟩ ⟨(Nat.le_of_ble_eq_true rfl), (Nat.le_of_ble_eq_true rfl)⟩ d_QU_begin_169 (fun q x ce H locs h9 => h9.elim) (fun v E1 H locs v_101 hO => ?_)
        obtain ⟨s_102, t_103, rfl, rfl, hs_102, ht_103⟩ := v_101
        rw [hs_102] at hO
        refine W.eq (g2 := F0 m 172 ls []) rfl ?_
        subst hs_91
        subst hs_90
        subst hs_89
        subst hs_88
        subst hs_87
        subst hs_86
        subst hs_85
        subst hs_84
        subst hs_83
        subst hs_82
        subst hs_81
        subst hs_80
        subst hs_54
        subst hs_1
        subst ht_103
        subst ht_100
        subst ht_97
        subst ht_94
        exact im_v S hk hr hO ⟨rfl, (by
            have n1 : 68 + i ≠ 62 := by omega
            have n2 : 80 + u ≠ 62 := by omega
            have q1 : up2 σ 62 2 d (68 + i) = σ (68 + i) := up2_c n1
            have q2 : up2 σ 62 2 d (80 + u) = σ (80 + u) := up2_c n2
            have e12 : (fit6 (up2 σ 62 2 d) (68 + i) (80 + u) 0) = (fit6 σ (68 + i) (80 + u) 0) := congrFun (fit_c q1 q2) 0
            have e21 : (fit6 (up2 σ 62 2 d) (68 + i) (80 + u) 2) = (fit6 σ (68 + i) (80 + u) 2) := congrFun (fit_c q1 q2) 2
            rw [fw_c (σ := σ) (by rw [up2_c n1, up2_c n1]) (by rw [up2_c n2, up2_c n2])] at c_39
            simp only [up2_k n1, up2_k n2]
            exact (qb_eq σ i u d _ _).trans (qb_c (by first | exact (if_pos (by first | exact Or.inl (e12.mp (z_1.mp c_12)) | exact Or.inr (e21.mp (z_1.mp c_21)))).symm | exact (if_neg (fun z => z.elim (fun q => z_0.mp c_12 (e12.mpr q)) (fun q => z_0.mp c_21 (e21.mpr q)))).symm) (by first | exact (if_pos c_39).symm | exact (if_neg c_39).symm))), (by
            have n2 : 80 + u ≠ 62 := by omega
            simp only [qbt, ns0, up2_k n2])⟩ (Nat.le_of_ble_eq_true rfl) (Nat.le_of_ble_eq_true rfl) d_QU_begin_172
    · skip
      refine lv_iconst (v := 1) S.1 S.2.1 d_QU_begin_24 (by decide) ?_
      refine lv_goto (tgt := 29) S.1 S.2.1 d_QU_begin_25 (by decide) ?_
      obtain ⟨s_104, hs_104⟩ : ∃ z : Nat → Nat → Int32, z = up2 s_1 62 0 1 := ⟨_, rfl⟩
      refine g_put S hO (fun _ h => h) fp_QU_37 (by decide) (sh_62 G ad _ _) (v := .int 1) rfl rfl (Nat.le_of_ble_eq_true rfl) (E2 := enc G ad s_104 τ) (by rw [hs_104]; exact enc_i (sh_62 G ad _ _)) d_QU_begin_29 (fun H locs hO => ?_)
      refine lv_aload_n S.1 S.2.1 d_QU_begin_32 rfl (lv_at hl 0 rfl) ?_
      refine lv_aload_n S.1 S.2.1 d_QU_begin_33 rfl (lv_at hl 2 rfl) ?_
      refine lv_aload_n S.1 S.2.1 d_QU_begin_34 rfl (lv_at hl 1 rfl) ?_
      refine g_VP (As := [.ref (ad (80 + u))]) (rest := [.ref (ad 62)]) S hO (k_PL_firstWayFor l G ad s_104 τ i (by omega) u (by omega)) cw_QU_41 (by omega) (sh_PL G ad _ _ (by omega)) rfl rfl hl.1 (Nat.le_of_ble_eq_true rfl) ⟨(Nat.le_of_ble_eq_true rfl), (Nat.le_of_ble_eq_true rfl)⟩ ⟨(Nat.le_of_ble_eq_true rfl), (Nat.le_of_ble_eq_true rfl)⟩ d_QU_begin_35 (fun q x ce H h9 => h9.elim) (fun v H v_105 hO => ?_)
      subst v_105
      refine W.eq (g2 := F0 m 38 ls [.int (oI (lpf (fwB s_104 (68 + i) (80 + u)) 6 0)), .ref (ad 62)]) rfl ?_
      refine lv_iconst (v := (-1)) S.1 S.2.1 d_QU_begin_38 (by decide) ?_
      refine lv_icmp_eq (tgt := 46) S.1 S.2.1 d_QU_begin_39 (by decide) (fun c_39 => ?_) (fun c_39 => ?_)
      · skip
        refine lv_iconst (v := 0) S.1 S.2.1 d_QU_begin_46 (by decide) ?_
        obtain ⟨s_106, hs_106⟩ : ∃ z : Nat → Nat → Int32, z = up2 s_104 62 1 0 := ⟨_, rfl⟩
        refine g_put S hO (fun _ h => h) fp_QU_45 (by decide) (sh_62 G ad _ _) (v := .int 0) rfl rfl (Nat.le_of_ble_eq_true rfl) (E2 := enc G ad s_106 τ) (by rw [hs_106]; exact enc_i (sh_62 G ad _ _)) d_QU_begin_47 (fun H locs hO => ?_)
        refine lv_aload_n S.1 S.2.1 d_QU_begin_50 rfl (lv_at hl 0 rfl) ?_
        refine lv_aload_n S.1 S.2.1 d_QU_begin_51 rfl (lv_at hl 2 rfl) ?_
        refine g_get S hO fl_QU_48 (by omega) (sh_PL G ad _ _ (by omega)) (v := .int (s_106 (68 + i) 3)) rfl d_QU_begin_52 ?_
        obtain ⟨s_107, hs_107⟩ : ∃ z : Nat → Nat → Int32, z = up2 s_106 62 3 (s_106 (68 + i) 3) := ⟨_, rfl⟩
        refine g_put S hO (fun _ h => h) fp_QU_51 (by decide) (sh_62 G ad _ _) (v := .int (s_106 (68 + i) 3)) rfl rfl (Nat.le_of_ble_eq_true rfl) (E2 := enc G ad s_107 τ) (by rw [hs_107]; exact enc_i (sh_62 G ad _ _)) d_QU_begin_55 (fun H locs hO => ?_)
        refine lv_aload_n S.1 S.2.1 d_QU_begin_58 rfl (lv_at hl 0 rfl) ?_
        refine lv_aload_n S.1 S.2.1 d_QU_begin_59 rfl (lv_at hl 2 rfl) ?_
        refine g_get S hO fl_QU_52 (by omega) (sh_PL G ad _ _ (by omega)) (v := .int (s_107 (68 + i) 4)) rfl d_QU_begin_60 ?_
        obtain ⟨s_108, hs_108⟩ : ∃ z : Nat → Nat → Int32, z = up2 s_107 62 4 (s_107 (68 + i) 4) := ⟨_, rfl⟩
        refine g_put S hO (fun _ h => h) fp_QU_55 (by decide) (sh_62 G ad _ _) (v := .int (s_107 (68 + i) 4)) rfl rfl (Nat.le_of_ble_eq_true rfl) (E2 := enc G ad s_108 τ) (by rw [hs_108]; exact enc_i (sh_62 G ad _ _)) d_QU_begin_63 (fun H locs hO => ?_)
        refine lv_aload_n S.1 S.2.1 d_QU_begin_66 rfl (lv_at hl 0 rfl) ?_
        refine lv_aload_n S.1 S.2.1 d_QU_begin_67 rfl (lv_at hl 1 rfl) ?_
        refine g_get S hO fl_QU_56 (by omega) (sh_UN G ad _ _ (by omega)) (v := .int (s_108 (80 + u) 0)) rfl d_QU_begin_68 ?_
        obtain ⟨s_109, hs_109⟩ : ∃ z : Nat → Nat → Int32, z = up2 s_108 62 5 (s_108 (80 + u) 0) := ⟨_, rfl⟩
        refine g_put S hO (fun _ h => h) fp_QU_61 (by decide) (sh_62 G ad _ _) (v := .int (s_108 (80 + u) 0)) rfl rfl (Nat.le_of_ble_eq_true rfl) (E2 := enc G ad s_109 τ) (by rw [hs_109]; exact enc_i (sh_62 G ad _ _)) d_QU_begin_71 (fun H locs hO => ?_)
        refine lv_aload_n S.1 S.2.1 d_QU_begin_74 rfl (lv_at hl 0 rfl) ?_
        refine lv_aload_n S.1 S.2.1 d_QU_begin_75 rfl (lv_at hl 1 rfl) ?_
        refine g_get S hO fl_QU_62 (by omega) (sh_UN G ad _ _ (by omega)) (v := .int (s_109 (80 + u) 6)) rfl d_QU_begin_76 ?_
        obtain ⟨s_110, hs_110⟩ : ∃ z : Nat → Nat → Int32, z = up2 s_109 62 6 (s_109 (80 + u) 6) := ⟨_, rfl⟩
        refine g_put S hO (fun _ h => h) fp_QU_65 (by decide) (sh_62 G ad _ _) (v := .int (s_109 (80 + u) 6)) rfl rfl (Nat.le_of_ble_eq_true rfl) (E2 := enc G ad s_110 τ) (by rw [hs_110]; exact enc_i (sh_62 G ad _ _)) d_QU_begin_79 (fun H locs hO => ?_)
        refine lv_aload_n S.1 S.2.1 d_QU_begin_82 rfl (lv_at hl 0 rfl) ?_
        refine lv_aload_n S.1 S.2.1 d_QU_begin_83 rfl (lv_at hl 1 rfl) ?_
        refine g_get S hO fl_QU_66 (by omega) (sh_UN G ad _ _ (by omega)) (v := .int (s_110 (80 + u) 7)) rfl d_QU_begin_84 ?_
        obtain ⟨s_111, hs_111⟩ : ∃ z : Nat → Nat → Int32, z = up2 s_110 62 7 (s_110 (80 + u) 7) := ⟨_, rfl⟩
        refine g_put S hO (fun _ h => h) fp_QU_69 (by decide) (sh_62 G ad _ _) (v := .int (s_110 (80 + u) 7)) rfl rfl (Nat.le_of_ble_eq_true rfl) (E2 := enc G ad s_111 τ) (by rw [hs_111]; exact enc_i (sh_62 G ad _ _)) d_QU_begin_87 (fun H locs hO => ?_)
        refine lv_aload_n S.1 S.2.1 d_QU_begin_90 rfl (lv_at hl 0 rfl) ?_
        refine lv_aload_n S.1 S.2.1 d_QU_begin_91 rfl (lv_at hl 1 rfl) ?_
        refine g_get S hO fl_QU_70 (by omega) (sh_UN G ad _ _ (by omega)) (v := .int (s_111 (80 + u) 8)) rfl d_QU_begin_92 ?_
        obtain ⟨s_112, hs_112⟩ : ∃ z : Nat → Nat → Int32, z = up2 s_111 62 8 (s_111 (80 + u) 8) := ⟨_, rfl⟩
        refine g_put S hO (fun _ h => h) fp_QU_73 (by decide) (sh_62 G ad _ _) (v := .int (s_111 (80 + u) 8)) rfl rfl (Nat.le_of_ble_eq_true rfl) (E2 := enc G ad s_112 τ) (by rw [hs_112]; exact enc_i (sh_62 G ad _ _)) d_QU_begin_95 (fun H locs hO => ?_)
        refine lv_aload_n S.1 S.2.1 d_QU_begin_98 rfl (lv_at hl 0 rfl) ?_
        refine lv_aload_n S.1 S.2.1 d_QU_begin_99 rfl (lv_at hl 1 rfl) ?_
        refine g_get S hO fl_QU_74 (by omega) (sh_UN G ad _ _ (by omega)) (v := .int (s_112 (80 + u) 9)) rfl d_QU_begin_100 ?_
        obtain ⟨s_113, hs_113⟩ : ∃ z : Nat → Nat → Int32, z = up2 s_112 62 9 (s_112 (80 + u) 9) := ⟨_, rfl⟩
        refine g_put S hO (fun _ h => h) fp_QU_77 (by decide) (sh_62 G ad _ _) (v := .int (s_112 (80 + u) 9)) rfl rfl (Nat.le_of_ble_eq_true rfl) (E2 := enc G ad s_113 τ) (by rw [hs_113]; exact enc_i (sh_62 G ad _ _)) d_QU_begin_103 (fun H locs hO => ?_)
        refine lv_aload_n S.1 S.2.1 d_QU_begin_106 rfl (lv_at hl 0 rfl) ?_
        refine lv_iconst (v := 1) S.1 S.2.1 d_QU_begin_107 (by decide) ?_
        obtain ⟨s_114, hs_114⟩ : ∃ z : Nat → Nat → Int32, z = up2 s_113 62 10 1 := ⟨_, rfl⟩
        refine g_put S hO (fun _ h => h) fp_QU_78 (by decide) (sh_62 G ad _ _) (v := .int 1) rfl rfl (Nat.le_of_ble_eq_true rfl) (E2 := enc G ad s_114 τ) (by rw [hs_114]; exact enc_i (sh_62 G ad _ _)) d_QU_begin_108 (fun H locs hO => ?_)
        refine lv_aload_n S.1 S.2.1 d_QU_begin_111 rfl (lv_at hl 0 rfl) ?_
        refine lv_iconst (v := 0) S.1 S.2.1 d_QU_begin_112 (by decide) ?_
        obtain ⟨s_115, hs_115⟩ : ∃ z : Nat → Nat → Int32, z = up2 s_114 62 11 0 := ⟨_, rfl⟩
        refine g_put S hO (fun _ h => h) fp_QU_81 (by decide) (sh_62 G ad _ _) (v := .int 0) rfl rfl (Nat.le_of_ble_eq_true rfl) (E2 := enc G ad s_115 τ) (by rw [hs_115]; exact enc_i (sh_62 G ad _ _)) d_QU_begin_113 (fun H locs hO => ?_)
        refine lv_aload_n S.1 S.2.1 d_QU_begin_116 rfl (lv_at hl 0 rfl) ?_
        refine lv_aload_n S.1 S.2.1 d_QU_begin_117 rfl (lv_at hl 1 rfl) ?_
        refine g_get S hO fl_QU_74 (by omega) (sh_UN G ad _ _ (by omega)) (v := .int (s_115 (80 + u) 9)) rfl d_QU_begin_118 ?_
        obtain ⟨s_116, hs_116⟩ : ∃ z : Nat → Nat → Int32, z = up2 s_115 62 12 (s_115 (80 + u) 9) := ⟨_, rfl⟩
        refine g_put S hO (fun _ h => h) fp_QU_84 (by decide) (sh_62 G ad _ _) (v := .int (s_115 (80 + u) 9)) rfl rfl (Nat.le_of_ble_eq_true rfl) (E2 := enc G ad s_116 τ) (by rw [hs_116]; exact enc_i (sh_62 G ad _ _)) d_QU_begin_121 (fun H locs hO => ?_)
        refine lv_aload_n S.1 S.2.1 d_QU_begin_124 rfl (lv_at hl 0 rfl) ?_
        refine lv_aload_n S.1 S.2.1 d_QU_begin_125 rfl (lv_at hl 1 rfl) ?_
        refine g_get S hO fl_QU_74 (by omega) (sh_UN G ad _ _ (by omega)) (v := .int (s_116 (80 + u) 9)) rfl d_QU_begin_126 ?_
        obtain ⟨s_117, hs_117⟩ : ∃ z : Nat → Nat → Int32, z = up2 s_116 62 13 (s_116 (80 + u) 9) := ⟨_, rfl⟩
        refine g_put S hO (fun _ h => h) fp_QU_87 (by decide) (sh_62 G ad _ _) (v := .int (s_116 (80 + u) 9)) rfl rfl (Nat.le_of_ble_eq_true rfl) (E2 := enc G ad s_117 τ) (by rw [hs_117]; exact enc_i (sh_62 G ad _ _)) d_QU_begin_129 (fun H locs hO => ?_)
        refine lv_aload_n S.1 S.2.1 d_QU_begin_132 rfl (lv_at hl 0 rfl) ?_
        refine g_get S hO fl_QU_12 (by decide) (sh_62 G ad _ _) (v := .ref (ad 63)) rfl d_QU_begin_133 ?_
        refine lv_aload_n S.1 S.2.1 d_QU_begin_136 rfl (lv_at hl 1 rfl) ?_
        refine g_get S hO fl_QU_56 (by omega) (sh_UN G ad _ _ (by omega)) (v := .int (s_117 (80 + u) 0)) rfl d_QU_begin_137 ?_
        refine g_VI (As := [.int (s_117 (80 + u) 0)]) (rest := []) S hO (fun _ h => h) (k_NS_holdOnly l G ad s_117 τ 0 (by omega) (s_117 (80 + u) 0)) cw_QU_90 (by decide) (sh_NS G ad _ _ (j := 0) (by decide)) rfl rfl hl.1 (Nat.le_of_ble_eq_true rfl) ⟨(Nat.le_of_ble_eq_true rfl), (Nat.le_of_ble_eq_true rfl)⟩ ⟨(Nat.le_of_ble_eq_true rfl), (Nat.le_of_ble_eq_true rfl)⟩ d_QU_begin_140 (fun q x ce H locs h9 => h9.elim) (fun v E1 H locs v_118 hO => ?_)
        obtain ⟨s_119, t_120, rfl, rfl, hs_119, ht_120⟩ := v_118
        rw [hs_119] at hO
        refine W.eq (g2 := F0 m 143 ls []) rfl ?_
        refine lv_aload_n S.1 S.2.1 d_QU_begin_143 rfl (lv_at hl 0 rfl) ?_
        refine g_get S hO fl_QU_18 (by decide) (sh_62 G ad _ _) (v := .ref (ad 64)) rfl d_QU_begin_144 ?_
        refine lv_aload_n S.1 S.2.1 d_QU_begin_147 rfl (lv_at hl 1 rfl) ?_
        refine g_get S hO fl_QU_94 (by omega) (sh_UN G ad _ _ (by omega)) (v := .int (s_117 (80 + u) 1)) rfl d_QU_begin_148 ?_
        refine g_VI (As := [.int (s_117 (80 + u) 1)]) (rest := []) S hO (fun _ h => h) (k_NS_holdOnly l G ad s_117 t_120 1 (by omega) (s_117 (80 + u) 1)) cw_QU_90 (by decide) (sh_NS G ad _ _ (j := 1) (by decide)) rfl rfl hl.1 (Nat.le_of_ble_eq_true rfl) ⟨(Nat.le_of_ble_eq_true rfl), (Nat.le_of_ble_eq_true rfl)⟩ ⟨(Nat.le_of_ble_eq_true rfl), (Nat.le_of_ble_eq_true rfl)⟩ d_QU_begin_151 (fun q x ce H locs h9 => h9.elim) (fun v E1 H locs v_121 hO => ?_)
        obtain ⟨s_122, t_123, rfl, rfl, hs_122, ht_123⟩ := v_121
        rw [hs_122] at hO
        refine W.eq (g2 := F0 m 154 ls []) rfl ?_
        refine lv_aload_n S.1 S.2.1 d_QU_begin_154 rfl (lv_at hl 0 rfl) ?_
        refine g_get S hO fl_QU_21 (by decide) (sh_62 G ad _ _) (v := .ref (ad 65)) rfl d_QU_begin_155 ?_
        refine lv_aload_n S.1 S.2.1 d_QU_begin_158 rfl (lv_at hl 1 rfl) ?_
        refine g_get S hO fl_QU_97 (by omega) (sh_UN G ad _ _ (by omega)) (v := .int (s_117 (80 + u) 2)) rfl d_QU_begin_159 ?_
        refine g_VI (As := [.int (s_117 (80 + u) 2)]) (rest := []) S hO (fun _ h => h) (k_NS_holdOnly l G ad s_117 t_123 2 (by omega) (s_117 (80 + u) 2)) cw_QU_90 (by decide) (sh_NS G ad _ _ (j := 2) (by decide)) rfl rfl hl.1 (Nat.le_of_ble_eq_true rfl) ⟨(Nat.le_of_ble_eq_true rfl), (Nat.le_of_ble_eq_true rfl)⟩ ⟨(Nat.le_of_ble_eq_true rfl), (Nat.le_of_ble_eq_true rfl)⟩ d_QU_begin_162 (fun q x ce H locs h9 => h9.elim) (fun v E1 H locs v_124 hO => ?_)
        obtain ⟨s_125, t_126, rfl, rfl, hs_125, ht_126⟩ := v_124
        rw [hs_125] at hO
        refine W.eq (g2 := F0 m 165 ls []) rfl ?_
        refine lv_aload_n S.1 S.2.1 d_QU_begin_165 rfl (lv_at hl 0 rfl) ?_
        refine g_get S hO fl_QU_24 (by decide) (sh_62 G ad _ _) (v := .ref (ad 66)) rfl d_QU_begin_166 ?_
        refine g_VI (As := []) (rest := []) S hO (fun _ h => h) (k_NS_clear l G ad s_117 t_126 3 (by omega)) cw_QU_100 (by decide) (sh_NS G ad _ _ (j := 3) (by decide)) rfl rfl hl.1 (Nat.le_of_ble_eq_true rfl) ⟨(Nat.le_of_ble_eq_true rfl), (Nat.le_of_ble_eq_true rfl)⟩ ⟨(Nat.le_of_ble_eq_true rfl), (Nat.le_of_ble_eq_true rfl)⟩ d_QU_begin_169 (fun q x ce H locs h9 => h9.elim) (fun v E1 H locs v_127 hO => ?_)
        obtain ⟨s_128, t_129, rfl, rfl, hs_128, ht_129⟩ := v_127
        rw [hs_128] at hO
        refine W.eq (g2 := F0 m 172 ls []) rfl ?_
        subst hs_117
        subst hs_116
        subst hs_115
        subst hs_114
        subst hs_113
        subst hs_112
        subst hs_111
        subst hs_110
        subst hs_109
        subst hs_108
        subst hs_107
        subst hs_106
        subst hs_104
        subst hs_1
        subst ht_129
        subst ht_126
        subst ht_123
        subst ht_120
        exact im_v S hk hr hO ⟨rfl, (by
            have n1 : 68 + i ≠ 62 := by omega
            have n2 : 80 + u ≠ 62 := by omega
            have q1 : up2 σ 62 2 d (68 + i) = σ (68 + i) := up2_c n1
            have q2 : up2 σ 62 2 d (80 + u) = σ (80 + u) := up2_c n2
            have e12 : (fit6 (up2 σ 62 2 d) (68 + i) (80 + u) 0) = (fit6 σ (68 + i) (80 + u) 0) := congrFun (fit_c q1 q2) 0
            have e21 : (fit6 (up2 σ 62 2 d) (68 + i) (80 + u) 2) = (fit6 σ (68 + i) (80 + u) 2) := congrFun (fit_c q1 q2) 2
            rw [fw_c (σ := σ) (by rw [up2_c n1, up2_c n1]) (by rw [up2_c n2, up2_c n2])] at c_39
            simp only [up2_k n1, up2_k n2]
            exact (qb_eq σ i u d _ _).trans (qb_c (by first | exact (if_pos (by first | exact Or.inl (e12.mp (z_1.mp c_12)) | exact Or.inr (e21.mp (z_1.mp c_21)))).symm | exact (if_neg (fun z => z.elim (fun q => z_0.mp c_12 (e12.mpr q)) (fun q => z_0.mp c_21 (e21.mpr q)))).symm) (by first | exact (if_pos c_39).symm | exact (if_neg c_39).symm))), (by
            have n2 : 80 + u ≠ 62 := by omega
            simp only [qbt, ns0, up2_k n2])⟩ (Nat.le_of_ble_eq_true rfl) (Nat.le_of_ble_eq_true rfl) d_QU_begin_172
      · skip
        refine lv_iconst (v := 1) S.1 S.2.1 d_QU_begin_42 (by decide) ?_
        refine lv_goto (tgt := 47) S.1 S.2.1 d_QU_begin_43 (by decide) ?_
        obtain ⟨s_130, hs_130⟩ : ∃ z : Nat → Nat → Int32, z = up2 s_104 62 1 1 := ⟨_, rfl⟩
        refine g_put S hO (fun _ h => h) fp_QU_45 (by decide) (sh_62 G ad _ _) (v := .int 1) rfl rfl (Nat.le_of_ble_eq_true rfl) (E2 := enc G ad s_130 τ) (by rw [hs_130]; exact enc_i (sh_62 G ad _ _)) d_QU_begin_47 (fun H locs hO => ?_)
        refine lv_aload_n S.1 S.2.1 d_QU_begin_50 rfl (lv_at hl 0 rfl) ?_
        refine lv_aload_n S.1 S.2.1 d_QU_begin_51 rfl (lv_at hl 2 rfl) ?_
        refine g_get S hO fl_QU_48 (by omega) (sh_PL G ad _ _ (by omega)) (v := .int (s_130 (68 + i) 3)) rfl d_QU_begin_52 ?_
        obtain ⟨s_131, hs_131⟩ : ∃ z : Nat → Nat → Int32, z = up2 s_130 62 3 (s_130 (68 + i) 3) := ⟨_, rfl⟩
        refine g_put S hO (fun _ h => h) fp_QU_51 (by decide) (sh_62 G ad _ _) (v := .int (s_130 (68 + i) 3)) rfl rfl (Nat.le_of_ble_eq_true rfl) (E2 := enc G ad s_131 τ) (by rw [hs_131]; exact enc_i (sh_62 G ad _ _)) d_QU_begin_55 (fun H locs hO => ?_)
        refine lv_aload_n S.1 S.2.1 d_QU_begin_58 rfl (lv_at hl 0 rfl) ?_
        refine lv_aload_n S.1 S.2.1 d_QU_begin_59 rfl (lv_at hl 2 rfl) ?_
        refine g_get S hO fl_QU_52 (by omega) (sh_PL G ad _ _ (by omega)) (v := .int (s_131 (68 + i) 4)) rfl d_QU_begin_60 ?_
        obtain ⟨s_132, hs_132⟩ : ∃ z : Nat → Nat → Int32, z = up2 s_131 62 4 (s_131 (68 + i) 4) := ⟨_, rfl⟩
        refine g_put S hO (fun _ h => h) fp_QU_55 (by decide) (sh_62 G ad _ _) (v := .int (s_131 (68 + i) 4)) rfl rfl (Nat.le_of_ble_eq_true rfl) (E2 := enc G ad s_132 τ) (by rw [hs_132]; exact enc_i (sh_62 G ad _ _)) d_QU_begin_63 (fun H locs hO => ?_)
        refine lv_aload_n S.1 S.2.1 d_QU_begin_66 rfl (lv_at hl 0 rfl) ?_
        refine lv_aload_n S.1 S.2.1 d_QU_begin_67 rfl (lv_at hl 1 rfl) ?_
        refine g_get S hO fl_QU_56 (by omega) (sh_UN G ad _ _ (by omega)) (v := .int (s_132 (80 + u) 0)) rfl d_QU_begin_68 ?_
        obtain ⟨s_133, hs_133⟩ : ∃ z : Nat → Nat → Int32, z = up2 s_132 62 5 (s_132 (80 + u) 0) := ⟨_, rfl⟩
        refine g_put S hO (fun _ h => h) fp_QU_61 (by decide) (sh_62 G ad _ _) (v := .int (s_132 (80 + u) 0)) rfl rfl (Nat.le_of_ble_eq_true rfl) (E2 := enc G ad s_133 τ) (by rw [hs_133]; exact enc_i (sh_62 G ad _ _)) d_QU_begin_71 (fun H locs hO => ?_)
        refine lv_aload_n S.1 S.2.1 d_QU_begin_74 rfl (lv_at hl 0 rfl) ?_
        refine lv_aload_n S.1 S.2.1 d_QU_begin_75 rfl (lv_at hl 1 rfl) ?_
        refine g_get S hO fl_QU_62 (by omega) (sh_UN G ad _ _ (by omega)) (v := .int (s_133 (80 + u) 6)) rfl d_QU_begin_76 ?_
        obtain ⟨s_134, hs_134⟩ : ∃ z : Nat → Nat → Int32, z = up2 s_133 62 6 (s_133 (80 + u) 6) := ⟨_, rfl⟩
        refine g_put S hO (fun _ h => h) fp_QU_65 (by decide) (sh_62 G ad _ _) (v := .int (s_133 (80 + u) 6)) rfl rfl (Nat.le_of_ble_eq_true rfl) (E2 := enc G ad s_134 τ) (by rw [hs_134]; exact enc_i (sh_62 G ad _ _)) d_QU_begin_79 (fun H locs hO => ?_)
        refine lv_aload_n S.1 S.2.1 d_QU_begin_82 rfl (lv_at hl 0 rfl) ?_
        refine lv_aload_n S.1 S.2.1 d_QU_begin_83 rfl (lv_at hl 1 rfl) ?_
        refine g_get S hO fl_QU_66 (by omega) (sh_UN G ad _ _ (by omega)) (v := .int (s_134 (80 + u) 7)) rfl d_QU_begin_84 ?_
        obtain ⟨s_135, hs_135⟩ : ∃ z : Nat → Nat → Int32, z = up2 s_134 62 7 (s_134 (80 + u) 7) := ⟨_, rfl⟩
        refine g_put S hO (fun _ h => h) fp_QU_69 (by decide) (sh_62 G ad _ _) (v := .int (s_134 (80 + u) 7)) rfl rfl (Nat.le_of_ble_eq_true rfl) (E2 := enc G ad s_135 τ) (by rw [hs_135]; exact enc_i (sh_62 G ad _ _)) d_QU_begin_87 (fun H locs hO => ?_)
        refine lv_aload_n S.1 S.2.1 d_QU_begin_90 rfl (lv_at hl 0 rfl) ?_
        refine lv_aload_n S.1 S.2.1 d_QU_begin_91 rfl (lv_at hl 1 rfl) ?_
        refine g_get S hO fl_QU_70 (by omega) (sh_UN G ad _ _ (by omega)) (v := .int (s_135 (80 + u) 8)) rfl d_QU_begin_92 ?_
        obtain ⟨s_136, hs_136⟩ : ∃ z : Nat → Nat → Int32, z = up2 s_135 62 8 (s_135 (80 + u) 8) := ⟨_, rfl⟩
        refine g_put S hO (fun _ h => h) fp_QU_73 (by decide) (sh_62 G ad _ _) (v := .int (s_135 (80 + u) 8)) rfl rfl (Nat.le_of_ble_eq_true rfl) (E2 := enc G ad s_136 τ) (by rw [hs_136]; exact enc_i (sh_62 G ad _ _)) d_QU_begin_95 (fun H locs hO => ?_)
        refine lv_aload_n S.1 S.2.1 d_QU_begin_98 rfl (lv_at hl 0 rfl) ?_
        refine lv_aload_n S.1 S.2.1 d_QU_begin_99 rfl (lv_at hl 1 rfl) ?_
        refine g_get S hO fl_QU_74 (by omega) (sh_UN G ad _ _ (by omega)) (v := .int (s_136 (80 + u) 9)) rfl d_QU_begin_100 ?_
        obtain ⟨s_137, hs_137⟩ : ∃ z : Nat → Nat → Int32, z = up2 s_136 62 9 (s_136 (80 + u) 9) := ⟨_, rfl⟩
        refine g_put S hO (fun _ h => h) fp_QU_77 (by decide) (sh_62 G ad _ _) (v := .int (s_136 (80 + u) 9)) rfl rfl (Nat.le_of_ble_eq_true rfl) (E2 := enc G ad s_137 τ) (by rw [hs_137]; exact enc_i (sh_62 G ad _ _)) d_QU_begin_103 (fun H locs hO => ?_)
        refine lv_aload_n S.1 S.2.1 d_QU_begin_106 rfl (lv_at hl 0 rfl) ?_
        refine lv_iconst (v := 1) S.1 S.2.1 d_QU_begin_107 (by decide) ?_
        obtain ⟨s_138, hs_138⟩ : ∃ z : Nat → Nat → Int32, z = up2 s_137 62 10 1 := ⟨_, rfl⟩
        refine g_put S hO (fun _ h => h) fp_QU_78 (by decide) (sh_62 G ad _ _) (v := .int 1) rfl rfl (Nat.le_of_ble_eq_true rfl) (E2 := enc G ad s_138 τ) (by rw [hs_138]; exact enc_i (sh_62 G ad _ _)) d_QU_begin_108 (fun H locs hO => ?_)
        refine lv_aload_n S.1 S.2.1 d_QU_begin_111 rfl (lv_at hl 0 rfl) ?_
        refine lv_iconst (v := 0) S.1 S.2.1 d_QU_begin_112 (by decide) ?_
        obtain ⟨s_139, hs_139⟩ : ∃ z : Nat → Nat → Int32, z = up2 s_138 62 11 0 := ⟨_, rfl⟩
        refine g_put S hO (fun _ h => h) fp_QU_81 (by decide) (sh_62 G ad _ _) (v := .int 0) rfl rfl (Nat.le_of_ble_eq_true rfl) (E2 := enc G ad s_139 τ) (by rw [hs_139]; exact enc_i (sh_62 G ad _ _)) d_QU_begin_113 (fun H locs hO => ?_)
        refine lv_aload_n S.1 S.2.1 d_QU_begin_116 rfl (lv_at hl 0 rfl) ?_
        refine lv_aload_n S.1 S.2.1 d_QU_begin_117 rfl (lv_at hl 1 rfl) ?_
        refine g_get S hO fl_QU_74 (by omega) (sh_UN G ad _ _ (by omega)) (v := .int (s_139 (80 + u) 9)) rfl d_QU_begin_118 ?_
        obtain ⟨s_140, hs_140⟩ : ∃ z : Nat → Nat → Int32, z = up2 s_139 62 12 (s_139 (80 + u) 9) := ⟨_, rfl⟩
        refine g_put S hO (fun _ h => h) fp_QU_84 (by decide) (sh_62 G ad _ _) (v := .int (s_139 (80 + u) 9)) rfl rfl (Nat.le_of_ble_eq_true rfl) (E2 := enc G ad s_140 τ) (by rw [hs_140]; exact enc_i (sh_62 G ad _ _)) d_QU_begin_121 (fun H locs hO => ?_)
        refine lv_aload_n S.1 S.2.1 d_QU_begin_124 rfl (lv_at hl 0 rfl) ?_
        refine lv_aload_n S.1 S.2.1 d_QU_begin_125 rfl (lv_at hl 1 rfl) ?_
        refine g_get S hO fl_QU_74 (by omega) (sh_UN G ad _ _ (by omega)) (v := .int (s_140 (80 + u) 9)) rfl d_QU_begin_126 ?_
        obtain ⟨s_141, hs_141⟩ : ∃ z : Nat → Nat → Int32, z = up2 s_140 62 13 (s_140 (80 + u) 9) := ⟨_, rfl⟩
        refine g_put S hO (fun _ h => h) fp_QU_87 (by decide) (sh_62 G ad _ _) (v := .int (s_140 (80 + u) 9)) rfl rfl (Nat.le_of_ble_eq_true rfl) (E2 := enc G ad s_141 τ) (by rw [hs_141]; exact enc_i (sh_62 G ad _ _)) d_QU_begin_129 (fun H locs hO => ?_)
        refine lv_aload_n S.1 S.2.1 d_QU_begin_132 rfl (lv_at hl 0 rfl) ?_
        refine g_get S hO fl_QU_12 (by decide) (sh_62 G ad _ _) (v := .ref (ad 63)) rfl d_QU_begin_133 ?_
        refine lv_aload_n S.1 S.2.1 d_QU_begin_136 rfl (lv_at hl 1 rfl) ?_
        refine g_get S hO fl_QU_56 (by omega) (sh_UN G ad _ _ (by omega)) (v := .int (s_141 (80 + u) 0)) rfl d_QU_begin_137 ?_
        refine g_VI (As := [.int (s_141 (80 + u) 0)]) (rest := []) S hO (fun _ h => h) (k_NS_holdOnly l G ad s_141 τ 0 (by omega) (s_141 (80 + u) 0)) cw_QU_90 (by decide) (sh_NS G ad _ _ (j := 0) (by decide)) rfl rfl hl.1 (Nat.le_of_ble_eq_true rfl) ⟨(Nat.le_of_ble_eq_true rfl), (Nat.le_of_ble_eq_true rfl)⟩ ⟨(Nat.le_of_ble_eq_true rfl), (Nat.le_of_ble_eq_true rfl)⟩ d_QU_begin_140 (fun q x ce H locs h9 => h9.elim) (fun v E1 H locs v_142 hO => ?_)
        obtain ⟨s_143, t_144, rfl, rfl, hs_143, ht_144⟩ := v_142
        rw [hs_143] at hO
        refine W.eq (g2 := F0 m 143 ls []) rfl ?_
        refine lv_aload_n S.1 S.2.1 d_QU_begin_143 rfl (lv_at hl 0 rfl) ?_
        refine g_get S hO fl_QU_18 (by decide) (sh_62 G ad _ _) (v := .ref (ad 64)) rfl d_QU_begin_144 ?_
        refine lv_aload_n S.1 S.2.1 d_QU_begin_147 rfl (lv_at hl 1 rfl) ?_
        refine g_get S hO fl_QU_94 (by omega) (sh_UN G ad _ _ (by omega)) (v := .int (s_141 (80 + u) 1)) rfl d_QU_begin_148 ?_
        refine g_VI (As := [.int (s_141 (80 + u) 1)]) (rest := []) S hO (fun _ h => h) (k_NS_holdOnly l G ad s_141 t_144 1 (by omega) (s_141 (80 + u) 1)) cw_QU_90 (by decide) (sh_NS G ad _ _ (j := 1) (by decide)) rfl rfl hl.1 (Nat.le_of_ble_eq_true rfl) ⟨(Nat.le_of_ble_eq_true rfl), (Nat.le_of_ble_eq_true rfl)⟩ ⟨(Nat.le_of_ble_eq_true rfl), (Nat.le_of_ble_eq_true rfl)⟩ d_QU_begin_151 (fun q x ce H locs h9 => h9.elim) (fun v E1 H locs v_145 hO => ?_)
        obtain ⟨s_146, t_147, rfl, rfl, hs_146, ht_147⟩ := v_145
        rw [hs_146] at hO
        refine W.eq (g2 := F0 m 154 ls []) rfl ?_
        refine lv_aload_n S.1 S.2.1 d_QU_begin_154 rfl (lv_at hl 0 rfl) ?_
        refine g_get S hO fl_QU_21 (by decide) (sh_62 G ad _ _) (v := .ref (ad 65)) rfl d_QU_begin_155 ?_
        refine lv_aload_n S.1 S.2.1 d_QU_begin_158 rfl (lv_at hl 1 rfl) ?_
        refine g_get S hO fl_QU_97 (by omega) (sh_UN G ad _ _ (by omega)) (v := .int (s_141 (80 + u) 2)) rfl d_QU_begin_159 ?_
        refine g_VI (As := [.int (s_141 (80 + u) 2)]) (rest := []) S hO (fun _ h => h) (k_NS_holdOnly l G ad s_141 t_147 2 (by omega) (s_141 (80 + u) 2)) cw_QU_90 (by decide) (sh_NS G ad _ _ (j := 2) (by decide)) rfl rfl hl.1 (Nat.le_of_ble_eq_true rfl) ⟨(Nat.le_of_ble_eq_true rfl), (Nat.le_of_ble_eq_true rfl)⟩ ⟨(Nat.le_of_ble_eq_true rfl), (Nat.le_of_ble_eq_true rfl)⟩ d_QU_begin_162 (fun q x ce H locs h9 => h9.elim) (fun v E1 H locs v_148 hO => ?_)
        obtain ⟨s_149, t_150, rfl, rfl, hs_149, ht_150⟩ := v_148
        rw [hs_149] at hO
        refine W.eq (g2 := F0 m 165 ls []) rfl ?_
        refine lv_aload_n S.1 S.2.1 d_QU_begin_165 rfl (lv_at hl 0 rfl) ?_
        refine g_get S hO fl_QU_24 (by decide) (sh_62 G ad _ _) (v := .ref (ad 66)) rfl d_QU_begin_166 ?_
        refine g_VI (As := []) (rest := []) S hO (fun _ h => h) (k_NS_clear l G ad s_141 t_150 3 (by omega)) cw_QU_100 (by decide) (sh_NS G ad _ _ (j := 3) (by decide)) rfl rfl hl.1 (Nat.le_of_ble_eq_true rfl) ⟨(Nat.le_of_ble_eq_true rfl), (Nat.le_of_ble_eq_true rfl)⟩ ⟨(Nat.le_of_ble_eq_true rfl), (Nat.le_of_ble_eq_true rfl)⟩ d_QU_begin_169 (fun q x ce H locs h9 => h9.elim) (fun v E1 H locs v_151 hO => ?_)
        obtain ⟨s_152, t_153, rfl, rfl, hs_152, ht_153⟩ := v_151
        rw [hs_152] at hO
        refine W.eq (g2 := F0 m 172 ls []) rfl ?_
        subst hs_141
        subst hs_140
        subst hs_139
        subst hs_138
        subst hs_137
        subst hs_136
        subst hs_135
        subst hs_134
        subst hs_133
        subst hs_132
        subst hs_131
        subst hs_130
        subst hs_104
        subst hs_1
        subst ht_153
        subst ht_150
        subst ht_147
        subst ht_144
        exact im_v S hk hr hO ⟨rfl, (by
            have n1 : 68 + i ≠ 62 := by omega
            have n2 : 80 + u ≠ 62 := by omega
            have q1 : up2 σ 62 2 d (68 + i) = σ (68 + i) := up2_c n1
            have q2 : up2 σ 62 2 d (80 + u) = σ (80 + u) := up2_c n2
            have e12 : (fit6 (up2 σ 62 2 d) (68 + i) (80 + u) 0) = (fit6 σ (68 + i) (80 + u) 0) := congrFun (fit_c q1 q2) 0
            have e21 : (fit6 (up2 σ 62 2 d) (68 + i) (80 + u) 2) = (fit6 σ (68 + i) (80 + u) 2) := congrFun (fit_c q1 q2) 2
            rw [fw_c (σ := σ) (by rw [up2_c n1, up2_c n1]) (by rw [up2_c n2, up2_c n2])] at c_39
            simp only [up2_k n1, up2_k n2]
            exact (qb_eq σ i u d _ _).trans (qb_c (by first | exact (if_pos (by first | exact Or.inl (e12.mp (z_1.mp c_12)) | exact Or.inr (e21.mp (z_1.mp c_21)))).symm | exact (if_neg (fun z => z.elim (fun q => z_0.mp c_12 (e12.mpr q)) (fun q => z_0.mp c_21 (e21.mpr q)))).symm) (by first | exact (if_pos c_39).symm | exact (if_neg c_39).symm))), (by
            have n2 : 80 + u ≠ 62 := by omega
            simp only [qbt, ns0, up2_k n2])⟩ (Nat.le_of_ble_eq_true rfl) (Nat.le_of_ble_eq_true rfl) d_QU_begin_172
