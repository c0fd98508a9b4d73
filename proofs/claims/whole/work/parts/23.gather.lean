/-! The others of the question. Written by wip/tools/m23.py. -/
def qav (σ : Nat → Nat → Int32) (x10 x11 x12 x13 : Int32) : Nat → Int32 := fun j => if j = 13 then x13 else if j = 12 then x12 else if j = 11 then x11 else if j = 10 then x10 else σ 62 j
def qaf (σ : Nat → Nat → Int32) (v : Nat) : Nat → Int32 := qav σ (σ 62 10 + 1) (σ 62 11 + σ (80 + v) 6) (if σ (80 + v) 9 < σ 62 12 then σ (80 + v) 9 else σ 62 12) (if σ 62 13 < σ (80 + v) 9 then σ (80 + v) 9 else σ 62 13)
def qat (σ : Nat → Nat → Int32) (τ : Nat → Nat → Int64) (v : Nat) : Nat → Nat → Int64 := nsa (nsa (if σ (80 + v) 0 = σ 62 5 then nsa (nsa τ 63 (σ (80 + v) 0)) 64 (σ (80 + v) 1) else nsa τ 63 (σ (80 + v) 0)) 65 (σ (80 + v) 2)) 66 (σ (80 + v) 7)
theorem qa_eq (σ : Nat → Nat → Int32) (x10 x11 x12 x13 : Int32) : up2 (up2 (up2 (up2 σ 62 10 x10) 62 11 x11) 62 12 x12) 62 13 x13 = va_up σ 62 (qav σ x10 x11 x12 x13) := by
  funext k j
  by_cases hk : k = 62
  · subst hk
    simp only [up2, va_up, upd, qav, if_true]
  · simp [up2, va_up, hk]
/-- the question after the units before v -/
def gst (σ : Nat → Nat → Int32) (τ : Nat → Nat → Int64) (u : Nat) (p : Int32) : Nat → (Nat → Nat → Int32) × (Nat → Nat → Int64)
  | 0 => (σ, τ)
  | v + 1 => if v ≠ u ∧ (gst σ τ u p v).1 (80 + v) 10 = p then (va_up (gst σ τ u p v).1 62 (qaf (gst σ τ u p v).1 v), qat (gst σ τ u p v).1 (gst σ τ u p v).2 v) else gst σ τ u p v
theorem gst_t {σ : Nat → Nat → Int32} {τ : Nat → Nat → Int64} {u v : Nat} {p : Int32} (h : v ≠ u ∧ (gst σ τ u p v).1 (80 + v) 10 = p) : gst σ τ u p (v + 1) = (va_up (gst σ τ u p v).1 62 (qaf (gst σ τ u p v).1 v), qat (gst σ τ u p v).1 (gst σ τ u p v).2 v) := by rw [gst, if_pos h]
theorem gst_f {σ : Nat → Nat → Int32} {τ : Nat → Nat → Int64} {u v : Nat} {p : Int32} (h : ¬ (v ≠ u ∧ (gst σ τ u p v).1 (80 + v) 10 = p)) : gst σ τ u p (v + 1) = gst σ τ u p v := by rw [gst, if_neg h]
set_option maxHeartbeats 4000000 in
set_option maxRecDepth 100000 in
theorem k_QU_addOther (l : Launch) (G : gP) (ad : Nat → Nat) (σ : Nat → Nat → Int32) (τ : Nat → Nat → Int64) (v : Nat) (hv : v < 40) : gim l y_QU_addOther c_QU_addOther 2 none { frames := 1, cells := 0, slots := 0, locals := 24 } G ad σ τ [.ref (ad 62), .ref (ad (80 + v))] 0 0 (fun v9 σ1 τ1 => v9 = none ∧ σ1 = va_up σ 62 (qaf σ v) ∧ τ1 = qat σ τ v) (fun _ => False) := by
  refine gs_of (fun _ h => h) (by decide) (Nat.le_of_ble_eq_true rfl) ?_
  intro p e s m args below meth c ls S hk hr hx hl hO
  have hl : lv_has ls 2 [(0, .ref (ad 62)), (1, .ref (ad (80 + v)))] := hl
  refine lv_aload_n S.1 S.2.1 d_QU_addOther_0 rfl (lv_at hl 0 rfl) ?_
  refine lv_dup S.1 S.2.1 d_QU_addOther_1 rfl ?_
  refine g_get S hO fl_QU_78 (by decide) (sh_62 G ad _ _) (v := .int (σ 62 10)) rfl d_QU_addOther_2 ?_
  refine lv_iconst (v := 1) S.1 S.2.1 d_QU_addOther_5 (by decide) ?_
  refine lv_iadd S.1 S.2.1 d_QU_addOther_6 ?_
  obtain ⟨s_1, hs_1⟩ : ∃ z : Nat → Nat → Int32, z = up2 σ 62 10 ((σ 62 10) + 1) := ⟨_, rfl⟩
  refine g_put S hO (fun _ h => h) fp_QU_78 (by decide) (sh_62 G ad _ _) (v := .int ((σ 62 10) + 1)) rfl rfl (Nat.le_of_ble_eq_true rfl) (E2 := enc G ad s_1 τ) (by rw [hs_1]; exact enc_i (sh_62 G ad _ _)) d_QU_addOther_7 (fun H locs hO => ?_)
  refine lv_aload_n S.1 S.2.1 d_QU_addOther_10 rfl (lv_at hl 0 rfl) ?_
  refine lv_dup S.1 S.2.1 d_QU_addOther_11 rfl ?_
  refine g_get S hO fl_QU_81 (by decide) (sh_62 G ad _ _) (v := .int (s_1 62 11)) rfl d_QU_addOther_12 ?_
  refine lv_aload_n S.1 S.2.1 d_QU_addOther_15 rfl (lv_at hl 1 rfl) ?_
  refine g_get S hO fl_QU_62 (by omega) (sh_UN G ad _ _ (by omega)) (v := .int (s_1 (80 + v) 6)) rfl d_QU_addOther_16 ?_
  refine lv_iadd S.1 S.2.1 d_QU_addOther_19 ?_
  obtain ⟨s_2, hs_2⟩ : ∃ z : Nat → Nat → Int32, z = up2 s_1 62 11 ((s_1 62 11) + (s_1 (80 + v) 6)) := ⟨_, rfl⟩
  refine g_put S hO (fun _ h => h) fp_QU_81 (by decide) (sh_62 G ad _ _) (v := .int ((s_1 62 11) + (s_1 (80 + v) 6))) rfl rfl (Nat.le_of_ble_eq_true rfl) (E2 := enc G ad s_2 τ) (by rw [hs_2]; exact enc_i (sh_62 G ad _ _)) d_QU_addOther_20 (fun H locs hO => ?_)
  refine lv_aload_n S.1 S.2.1 d_QU_addOther_23 rfl (lv_at hl 0 rfl) ?_
  refine lv_aload_n S.1 S.2.1 d_QU_addOther_24 rfl (lv_at hl 0 rfl) ?_
  refine g_get S hO fl_QU_84 (by decide) (sh_62 G ad _ _) (v := .int (s_2 62 12)) rfl d_QU_addOther_25 ?_
  refine lv_aload_n S.1 S.2.1 d_QU_addOther_28 rfl (lv_at hl 1 rfl) ?_
  refine g_get S hO fl_QU_74 (by omega) (sh_UN G ad _ _ (by omega)) (v := .int (s_2 (80 + v) 9)) rfl d_QU_addOther_29 ?_
  refine va_mmin S.1 S.2.1 (S.2.2.1.trans hl.1.symm) S.2.2.2.1 (S.2.2.2.2 _ km_QU_103) (S.2.2.2.2 _ ks_java_lang_Math_min) (S.2.2.2.2 _ kt_java_lang_Math) (S.2.2.2.2 _ kc_java_lang_Math_min) (Nat.le_of_ble_eq_true rfl) (Nat.le_of_ble_eq_true rfl) (Nat.le_of_ble_eq_true rfl) (Nat.le_of_ble_eq_true rfl) d_QU_addOther_32 ?_
  obtain ⟨s_3, hs_3⟩ : ∃ z : Nat → Nat → Int32, z = up2 s_2 62 12 (if s_2 (80 + v) 9 < s_2 62 12 then s_2 (80 + v) 9 else s_2 62 12) := ⟨_, rfl⟩
  refine g_put S hO (fun _ h => h) fp_QU_84 (by decide) (sh_62 G ad _ _) (v := .int (if s_2 (80 + v) 9 < s_2 62 12 then s_2 (80 + v) 9 else s_2 62 12)) rfl rfl (Nat.le_of_ble_eq_true rfl) (E2 := enc G ad s_3 τ) (by rw [hs_3]; exact enc_i (sh_62 G ad _ _)) d_QU_addOther_35 (fun H locs hO => ?_)
  refine lv_aload_n S.1 S.2.1 d_QU_addOther_38 rfl (lv_at hl 0 rfl) ?_
  refine lv_aload_n S.1 S.2.1 d_QU_addOther_39 rfl (lv_at hl 0 rfl) ?_
  refine g_get S hO fl_QU_87 (by decide) (sh_62 G ad _ _) (v := .int (s_3 62 13)) rfl d_QU_addOther_40 ?_
  refine lv_aload_n S.1 S.2.1 d_QU_addOther_43 rfl (lv_at hl 1 rfl) ?_
  refine g_get S hO fl_QU_74 (by omega) (sh_UN G ad _ _ (by omega)) (v := .int (s_3 (80 + v) 9)) rfl d_QU_addOther_44 ?_
  refine va_mmax S.1 S.2.1 (S.2.2.1.trans hl.1.symm) S.2.2.2.1 (S.2.2.2.2 _ km_QU_109) (S.2.2.2.2 _ ks_java_lang_Math_max) (S.2.2.2.2 _ kt_java_lang_Math) (S.2.2.2.2 _ kc_java_lang_Math_max) (Nat.le_of_ble_eq_true rfl) (Nat.le_of_ble_eq_true rfl) (Nat.le_of_ble_eq_true rfl) (Nat.le_of_ble_eq_true rfl) d_QU_addOther_47 ?_
  obtain ⟨s_4, hs_4⟩ : ∃ z : Nat → Nat → Int32, z = up2 s_3 62 13 (if s_3 62 13 < s_3 (80 + v) 9 then s_3 (80 + v) 9 else s_3 62 13) := ⟨_, rfl⟩
  refine g_put S hO (fun _ h => h) fp_QU_87 (by decide) (sh_62 G ad _ _) (v := .int (if s_3 62 13 < s_3 (80 + v) 9 then s_3 (80 + v) 9 else s_3 62 13)) rfl rfl (Nat.le_of_ble_eq_true rfl) (E2 := enc G ad s_4 τ) (by rw [hs_4]; exact enc_i (sh_62 G ad _ _)) d_QU_addOther_50 (fun H locs hO => ?_)
  refine lv_aload_n S.1 S.2.1 d_QU_addOther_53 rfl (lv_at hl 0 rfl) ?_
  refine g_get S hO fl_QU_12 (by decide) (sh_62 G ad _ _) (v := .ref (ad 63)) rfl d_QU_addOther_54 ?_
  refine lv_aload_n S.1 S.2.1 d_QU_addOther_57 rfl (lv_at hl 1 rfl) ?_
  refine g_get S hO fl_QU_56 (by omega) (sh_UN G ad _ _ (by omega)) (v := .int (s_4 (80 + v) 0)) rfl d_QU_addOther_58 ?_
  refine g_VI (As := [.int (s_4 (80 + v) 0)]) (rest := []) S hO (fun _ h => h) (k_NS_add l G ad s_4 τ 0 (by omega) (s_4 (80 + v) 0)) cw_QU_112 (by decide) (sh_NS G ad _ _ (j := 0) (by decide)) rfl rfl hl.1 (Nat.le_of_ble_eq_true rfl) ⟨(Nat.le_of_ble_eq_true rfl), (Nat.le_of_ble_eq_true rfl)⟩ ⟨(Nat.le_of_ble_eq_true rfl), (Nat.le_of_ble_eq_true rfl)⟩ d_QU_addOther_61 (fun q x ce H locs h9 => h9.elim) (fun v E1 H locs v_5 hO => ?_)
  obtain ⟨s_6, t_7, rfl, rfl, hs_6, ht_7⟩ := v_5
  rw [hs_6] at hO
  refine W.eq (g2 := F0 m 64 ls []) rfl ?_
  refine lv_aload_n S.1 S.2.1 d_QU_addOther_64 rfl (lv_at hl 1 rfl) ?_
  refine g_get S hO fl_QU_56 (by omega) (sh_UN G ad _ _ (by omega)) (v := .int (s_4 (80 + v) 0)) rfl d_QU_addOther_65 ?_
  refine lv_aload_n S.1 S.2.1 d_QU_addOther_68 rfl (lv_at hl 0 rfl) ?_
  refine g_get S hO fl_QU_61 (by decide) (sh_62 G ad _ _) (v := .int (s_4 62 5)) rfl d_QU_addOther_69 ?_
  refine lv_icmp_ne (tgt := 86) S.1 S.2.1 d_QU_addOther_72 (by decide) (fun c_72 => ?_) (fun c_72 => ?_)
  · skip
    refine lv_aload_n S.1 S.2.1 d_QU_addOther_86 rfl (lv_at hl 0 rfl) ?_
    refine g_get S hO fl_QU_21 (by decide) (sh_62 G ad _ _) (v := .ref (ad 65)) rfl d_QU_addOther_87 ?_
    refine lv_aload_n S.1 S.2.1 d_QU_addOther_90 rfl (lv_at hl 1 rfl) ?_
    refine g_get S hO fl_QU_97 (by omega) (sh_UN G ad _ _ (by omega)) (v := .int (s_4 (80 + v) 2)) rfl d_QU_addOther_91 ?_
    refine g_VI (As := [.int (s_4 (80 + v) 2)]) (rest := []) S hO (fun _ h => h) (k_NS_add l G ad s_4 t_7 2 (by omega) (s_4 (80 + v) 2)) cw_QU_112 (by decide) (sh_NS G ad _ _ (j := 2) (by decide)) rfl rfl hl.1 (Nat.le_of_ble_eq_true rfl) ⟨(Nat.le_of_ble_eq_true rfl), (Nat.le_of_ble_eq_true rfl)⟩ ⟨(Nat.le_of_ble_eq_true rfl), (Nat.le_of_ble_eq_true rfl)⟩ d_QU_addOther_94 (fun q x ce H locs h9 => h9.elim) (fun v E1 H locs v_8 hO => ?_)
    obtain ⟨s_9, t_10, rfl, rfl, hs_9, ht_10⟩ := v_8
    rw [hs_9] at hO
    refine W.eq (g2 := F0 m 97 ls []) rfl ?_
    refine lv_aload_n S.1 S.2.1 d_QU_addOther_97 rfl (lv_at hl 0 rfl) ?_
    refine g_get S hO fl_QU_24 (by decide) (sh_62 G ad _ _) (v := .ref (ad 66)) rfl d_QU_addOther_98 ?_
    refine lv_aload_n S.1 S.2.1 d_QU_addOther_101 rfl (lv_at hl 1 rfl) ?_
    refine g_get S hO fl_QU_66 (by omega) (sh_UN G ad _ _ (by omega)) (v := .int (s_4 (80 + v) 7)) rfl d_QU_addOther_102 ?_
    refine g_VI (As := [.int (s_4 (80 + v) 7)]) (rest := []) S hO (fun _ h => h) (k_NS_add l G ad s_4 t_10 3 (by omega) (s_4 (80 + v) 7)) cw_QU_112 (by decide) (sh_NS G ad _ _ (j := 3) (by decide)) rfl rfl hl.1 (Nat.le_of_ble_eq_true rfl) ⟨(Nat.le_of_ble_eq_true rfl), (Nat.le_of_ble_eq_true rfl)⟩ ⟨(Nat.le_of_ble_eq_true rfl), (Nat.le_of_ble_eq_true rfl)⟩ d_QU_addOther_105 (fun q x ce H locs h9 => h9.elim) (fun v E1 H locs v_11 hO => ?_)
    obtain ⟨s_12, t_13, rfl, rfl, hs_12, ht_13⟩ := v_11
    rw [hs_12] at hO
    refine W.eq (g2 := F0 m 108 ls []) rfl ?_
    subst hs_4
    subst hs_3
    subst hs_2
    subst hs_1
    subst ht_13
    subst ht_10
    subst ht_7
    have n2 : 80 + v ≠ 62 := by omega
    simp only [up2_k n2, up2_j (show (11 : Nat) ≠ 10 by decide), up2_j (show (12 : Nat) ≠ 10 by decide), up2_j (show (12 : Nat) ≠ 11 by decide), up2_j (show (13 : Nat) ≠ 10 by decide), up2_j (show (13 : Nat) ≠ 11 by decide), up2_j (show (13 : Nat) ≠ 12 by decide), up2_j (show (5 : Nat) ≠ 10 by decide), up2_j (show (5 : Nat) ≠ 11 by decide), up2_j (show (5 : Nat) ≠ 12 by decide), up2_j (show (5 : Nat) ≠ 13 by decide)] at c_72
    exact im_v S hk hr hO ⟨rfl, (by simp only [up2_k n2, up2_j (show (11 : Nat) ≠ 10 by decide), up2_j (show (12 : Nat) ≠ 10 by decide), up2_j (show (12 : Nat) ≠ 11 by decide), up2_j (show (13 : Nat) ≠ 10 by decide), up2_j (show (13 : Nat) ≠ 11 by decide), up2_j (show (13 : Nat) ≠ 12 by decide), up2_j (show (5 : Nat) ≠ 10 by decide), up2_j (show (5 : Nat) ≠ 11 by decide), up2_j (show (5 : Nat) ≠ 12 by decide), up2_j (show (5 : Nat) ≠ 13 by decide)]; exact qa_eq σ _ _ _ _), (by simp only [up2_k n2, up2_j (show (11 : Nat) ≠ 10 by decide), up2_j (show (12 : Nat) ≠ 10 by decide), up2_j (show (12 : Nat) ≠ 11 by decide), up2_j (show (13 : Nat) ≠ 10 by decide), up2_j (show (13 : Nat) ≠ 11 by decide), up2_j (show (13 : Nat) ≠ 12 by decide), up2_j (show (5 : Nat) ≠ 10 by decide), up2_j (show (5 : Nat) ≠ 11 by decide), up2_j (show (5 : Nat) ≠ 12 by decide), up2_j (show (5 : Nat) ≠ 13 by decide)]; rw [qat]; first | rw [if_pos c_72] | rw [if_neg c_72])⟩ (Nat.le_of_ble_eq_true rfl) (Nat.le_of_ble_eq_true rfl) d_QU_addOther_108
  · skip
    refine lv_aload_n S.1 S.2.1 d_QU_addOther_75 rfl (lv_at hl 0 rfl) ?_
    refine g_get S hO fl_QU_18 (by decide) (sh_62 G ad _ _) (v := .ref (ad 64)) rfl d_QU_addOther_76 ?_
    refine lv_aload_n S.1 S.2.1 d_QU_addOther_79 rfl (lv_at hl 1 rfl) ?_
    refine g_get S hO fl_QU_94 (by omega) (sh_UN G ad _ _ (by omega)) (v := .int (s_4 (80 + v) 1)) rfl d_QU_addOther_80 ?_
    refine g_VI (As := [.int (s_4 (80 + v) 1)]) (rest := []) S hO (fun _ h => h) (k_NS_add l G ad s_4 t_7 1 (by omega) (s_4 (80 + v) 1)) cw_QU_112 (by decide) (sh_NS G ad _ _ (j := 1) (by decide)) rfl rfl hl.1 (Nat.le_of_ble_eq_true rfl) ⟨(Nat.le_of_ble_eq_true rfl), (Nat.le_of_ble_eq_true rfl)⟩ ⟨(Nat.le_of_ble_eq_true rfl), (Nat.le_of_ble_eq_true rfl)⟩ d_QU_addOther_83 (fun q x ce H locs h9 => h9.elim) (fun v E1 H locs v_14 hO => ?_)
    obtain ⟨s_15, t_16, rfl, rfl, hs_15, ht_16⟩ := v_14
    rw [hs_15] at hO
    refine W.eq (g2 := F0 m 86 ls []) rfl ?_
    refine lv_aload_n S.1 S.2.1 d_QU_addOther_86 rfl (lv_at hl 0 rfl) ?_
    refine g_get S hO fl_QU_21 (by decide) (sh_62 G ad _ _) (v := .ref (ad 65)) rfl d_QU_addOther_87 ?_
    refine lv_aload_n S.1 S.2.1 d_QU_addOther_90 rfl (lv_at hl 1 rfl) ?_
    refine g_get S hO fl_QU_97 (by omega) (sh_UN G ad _ _ (by omega)) (v := .int (s_4 (80 + v) 2)) rfl d_QU_addOther_91 ?_
    refine g_VI (As := [.int (s_4 (80 + v) 2)]) (rest := []) S hO (fun _ h => h) (k_NS_add l G ad s_4 t_16 2 (by omega) (s_4 (80 + v) 2)) cw_QU_112 (by decide) (sh_NS G ad _ _ (j := 2) (by decide)) rfl rfl hl.1 (Nat.le_of_ble_eq_true rfl) ⟨(Nat.le_of_ble_eq_true rfl), (Nat.le_of_ble_eq_true rfl)⟩ ⟨(Nat.le_of_ble_eq_true rfl), (Nat.le_of_ble_eq_true rfl)⟩ d_QU_addOther_94 (fun q x ce H locs h9 => h9.elim) (fun v E1 H locs v_17 hO => ?_)
    obtain ⟨s_18, t_19, rfl, rfl, hs_18, ht_19⟩ := v_17
    rw [hs_18] at hO
    refine W.eq (g2 := F0 m 97 ls []) rfl ?_
    refine lv_aload_n S.1 S.2.1 d_QU_addOther_97 rfl (lv_at hl 0 rfl) ?_
    refine g_get S hO fl_QU_24 (by decide) (sh_62 G ad _ _) (v := .ref (ad 66)) rfl d_QU_addOther_98 ?_
    refine lv_aload_n S.1 S.2.1 d_QU_addOther_101 rfl (lv_at hl 1 rfl) ?_
    refine g_get S hO fl_QU_66 (by omega) (sh_UN G ad _ _ (by omega)) (v := .int (s_4 (80 + v) 7)) rfl d_QU_addOther_102 ?_
    refine g_VI (As := [.int (s_4 (80 + v) 7)]) (rest := []) S hO (fun _ h => h) (k_NS_add l G ad s_4 t_19 3 (by omega) (s_4 (80 + v) 7)) cw_QU_112 (by decide) (sh_NS G ad _ _ (j := 3) (by decide)) rfl rfl hl.1 (Nat.le_of_ble_eq_true rfl) ⟨(Nat.le_of_ble_eq_true rfl), (Nat.le_of_ble_eq_true rfl)⟩ ⟨(Nat.le_of_ble_eq_true rfl), (Nat.le_of_ble_eq_true rfl)⟩ d_QU_addOther_105 (fun q x ce H locs h9 => h9.elim) (fun v E1 H locs v_20 hO => ?_)
    obtain ⟨s_21, t_22, rfl, rfl, hs_21, ht_22⟩ := v_20
    rw [hs_21] at hO
    refine W.eq (g2 := F0 m 108 ls []) rfl ?_
    subst hs_4
    subst hs_3
    subst hs_2
    subst hs_1
    subst ht_22
    subst ht_19
    subst ht_16
    subst ht_7
    have n2 : 80 + v ≠ 62 := by omega
    simp only [up2_k n2, up2_j (show (11 : Nat) ≠ 10 by decide), up2_j (show (12 : Nat) ≠ 10 by decide), up2_j (show (12 : Nat) ≠ 11 by decide), up2_j (show (13 : Nat) ≠ 10 by decide), up2_j (show (13 : Nat) ≠ 11 by decide), up2_j (show (13 : Nat) ≠ 12 by decide), up2_j (show (5 : Nat) ≠ 10 by decide), up2_j (show (5 : Nat) ≠ 11 by decide), up2_j (show (5 : Nat) ≠ 12 by decide), up2_j (show (5 : Nat) ≠ 13 by decide)] at c_72
    exact im_v S hk hr hO ⟨rfl, (by simp only [up2_k n2, up2_j (show (11 : Nat) ≠ 10 by decide), up2_j (show (12 : Nat) ≠ 10 by decide), up2_j (show (12 : Nat) ≠ 11 by decide), up2_j (show (13 : Nat) ≠ 10 by decide), up2_j (show (13 : Nat) ≠ 11 by decide), up2_j (show (13 : Nat) ≠ 12 by decide), up2_j (show (5 : Nat) ≠ 10 by decide), up2_j (show (5 : Nat) ≠ 11 by decide), up2_j (show (5 : Nat) ≠ 12 by decide), up2_j (show (5 : Nat) ≠ 13 by decide)]; exact qa_eq σ _ _ _ _), (by simp only [up2_k n2, up2_j (show (11 : Nat) ≠ 10 by decide), up2_j (show (12 : Nat) ≠ 10 by decide), up2_j (show (12 : Nat) ≠ 11 by decide), up2_j (show (13 : Nat) ≠ 10 by decide), up2_j (show (13 : Nat) ≠ 11 by decide), up2_j (show (13 : Nat) ≠ 12 by decide), up2_j (show (5 : Nat) ≠ 10 by decide), up2_j (show (5 : Nat) ≠ 11 by decide), up2_j (show (5 : Nat) ≠ 12 by decide), up2_j (show (5 : Nat) ≠ 13 by decide)]; rw [qat]; first | rw [if_pos c_72] | rw [if_neg c_72])⟩ (Nat.le_of_ble_eq_true rfl) (Nat.le_of_ble_eq_true rfl) d_QU_addOther_108
set_option maxHeartbeats 4000000 in
set_option maxRecDepth 100000 in
theorem k_PR_gather (l : Launch) (G : gP) (ad : Nat → Nat) (σ : Nat → Nat → Int32) (τ : Nat → Nat → Int64) (u i : Nat) (hi : i < 12) (d : Int32) (nu : Nat) (hnu : σ 0 2 = nI nu) (hn4 : nu ≤ 40) (hu : u < nu) : gim l y_PR_gather c_PR_gather 5 none { frames := 4, cells := 0, slots := 0, locals := 90 } G ad σ τ [.ref (ad 0), .int (nI u), .int (nI i), .int d] 0 0 (fun v σ1 τ1 => v = none ∧ σ1 = (gst (va_up σ 62 (qbf σ i u d)) (qbt σ τ u) u (nI i) nu).1 ∧ τ1 = (gst (va_up σ 62 (qbf σ i u d)) (qbt σ τ u) u (nI i) nu).2) (fun _ => False) := by
  refine gs_of (fun _ h => h) (by decide) (Nat.le_of_ble_eq_true rfl) ?_
  intro p e s m args below meth c ls S hk hr hx hl hO
  have hl : lv_has ls 5 [(0, .ref (ad 0)), (1, .int (nI u)), (2, .int (nI i)), (3, .int d)] := hl
  refine lv_aload_n S.1 S.2.1 d_PR_gather_0 rfl (lv_at hl 0 rfl) ?_
  refine g_get S hO fl_PR_51 (by decide) (sh_0 G ad _ _) (v := .ref (ad 62)) rfl d_PR_gather_1 ?_
  refine lv_aload_n S.1 S.2.1 d_PR_gather_4 rfl (lv_at hl 0 rfl) ?_
  refine g_get S hO fl_PR_17 (by decide) (sh_0 G ad _ _) (v := .ref (ad 2)) rfl d_PR_gather_5 ?_
  refine lv_iload_n S.1 S.2.1 d_PR_gather_8 rfl (lv_at hl 1 rfl) ?_
  refine g_aal S hO (t0 := 4) (by decide) (sh_2 G ad _ _) rfl (vp_in_nI (show u < 40 by omega) (by decide)) (v := .ref (ad (80 + u))) (by rw [nI_clamp (by omega)]; rfl) d_PR_gather_9 ?_
  refine lv_aload_n S.1 S.2.1 d_PR_gather_10 rfl (lv_at hl 0 rfl) ?_
  refine g_get S hO fl_PR_11 (by decide) (sh_0 G ad _ _) (v := .ref (ad 1)) rfl d_PR_gather_11 ?_
  refine lv_iload_n S.1 S.2.1 d_PR_gather_14 rfl (lv_at hl 2 rfl) ?_
  refine g_aal S hO (t0 := 3) (by decide) (sh_1 G ad _ _) rfl (vp_in_nI hi (by decide)) (v := .ref (ad (68 + i))) (by rw [nI_clamp (by omega)]; rfl) d_PR_gather_15 ?_
  refine lv_iload_n S.1 S.2.1 d_PR_gather_16 rfl (lv_at hl 3 rfl) ?_
  refine g_VI (As := [.ref (ad (80 + u)), .ref (ad (68 + i)), .int d]) (rest := []) S hO (fun _ h => h) (k_QU_begin l G ad σ τ u (by omega) i (by omega) d) cw_PR_287 (by decide) (sh_62 G ad _ _) rfl rfl hl.1 (Nat.le_of_ble_eq_true rfl) ⟨(Nat.le_of_ble_eq_true rfl), (Nat.le_of_ble_eq_true rfl)⟩ ⟨(Nat.le_of_ble_eq_true rfl), (Nat.le_of_ble_eq_true rfl)⟩ d_PR_gather_17 (fun q x ce H locs h9 => h9.elim) (fun v E1 H locs v_1 hO => ?_)
  obtain ⟨s_2, t_3, rfl, rfl, hs_2, ht_3⟩ := v_1
  refine W.eq (g2 := F0 m 20 ls []) rfl ?_
  refine lv_iconst (v := 0) S.1 S.2.1 d_PR_gather_20 (by decide) ?_
  refine lv_istore (lv' := [(4, .int 0), (0, .ref (ad 0)), (1, .int (nI u)), (2, .int (nI i)), (3, .int d)]) S.1 S.2.1 d_PR_gather_21 hl (by decide) rfl (fun ls hl => ?_)
  have K_23 : ∀ (n9 : Nat) (j : Nat) (s9 : Nat → Nat → Int32) (t9 : Nat → Nat → Int64), nu - j < n9 → (j ≤ nu) → (s9 = (gst (va_up σ 62 (qbf σ i u d)) (qbt σ τ u) u (nI i) j).1) → (t9 = (gst (va_up σ 62 (qbf σ i u d)) (qbt σ τ u) u (nI i) j).2) → (s9 0 2 = nI nu) → ∀ (H : Heap) (locs : List Loc), gO G (gA G) 159 ad (enc G ad s9 t9) s H locs → ∀ ls : Array Slot, lv_has ls 5 [(4, .int (nI j)), (0, .ref (ad 0)), (1, .int (nI u)), (2, .int (nI i)), (3, .int d)] → W p l e { frames := 4, cells := 0, slots := 0, locals := 90 } s m args below meth c H locs 0 0 (gM below (gA G) 0 0 (fun v t => ∃ E1, (∃ σ1 τ1, E1 = enc G ad σ1 τ1 ∧ (fun v σ1 τ1 => v = none ∧ σ1 = (gst (va_up σ 62 (qbf σ i u d)) (qbt σ τ u) u (nI i) nu).1 ∧ τ1 = (gst (va_up σ 62 (qbf σ i u d)) (qbt σ τ u) u (nI i) nu).2) v σ1 τ1) ∧ va_P G.1 gcl (gw 159 ad E1) t.heap) (fun x t => (fun _ => False) x ∧ va_P G.1 gcl (gw 159 ad (enc G ad σ τ)) t.heap) args s) (F0 m 23 ls []) := by
    intro n9
    induction n9 with
    | zero =>
      intro j s9 t9 hn9 hj hs9 ht9 hn9b H locs hO ls hl
      exact absurd hn9 (Nat.not_lt_zero _)
    | succ n9 ih_23 =>
      intro j s9 t9 hn9 hj hs9 ht9 hn9b H locs hO ls hl
      refine lv_iload S.1 S.2.1 d_PR_gather_23 (lv_at hl 0 rfl) ?_
      refine lv_aload_n S.1 S.2.1 d_PR_gather_25 rfl (lv_at hl 1 rfl) ?_
      refine g_get S hO fl_PR_90 (by decide) (sh_0 G ad _ _) (v := .int (s9 0 2)) rfl d_PR_gather_26 ?_
      refine lv_icmp_ge (tgt := 72) S.1 S.2.1 d_PR_gather_29 (by decide) (fun c_29 => ?_) (fun c_29 => ?_)
      · skip
        have hw : j = nu := by have h9 := ge_nI hn9b rfl (by omega) (by omega) c_29; omega
        exact im_v S hk hr hO ⟨rfl, by rw [hs9, hw], by rw [ht9, hw]⟩ (Nat.le_of_ble_eq_true rfl) (Nat.le_of_ble_eq_true rfl) d_PR_gather_72
      · skip
        have hw : j < nu := ngt_nI hn9b rfl (by omega) (by omega) c_29
        refine lv_iload S.1 S.2.1 d_PR_gather_32 (lv_at hl 0 rfl) ?_
        refine lv_iload_n S.1 S.2.1 d_PR_gather_34 rfl (lv_at hl 2 rfl) ?_
        refine lv_icmp_eq (tgt := 66) S.1 S.2.1 d_PR_gather_35 (by decide) (fun c_35 => ?_) (fun c_35 => ?_)
        · skip
          obtain ⟨x_4, ex_4⟩ : ∃ z : Int32, z = (nI j) + 1 := ⟨_, rfl⟩
          refine lv_iinc (v := x_4) (lv' := [(4, .int x_4), (0, .ref (ad 0)), (1, .int (nI u)), (2, .int (nI i)), (3, .int d)]) S.1 S.2.1 d_PR_gather_66 hl (k := 0) rfl (by rw [ex_4]; rfl) (by decide) rfl (fun ls hl => ?_)
          refine lv_goto (tgt := 23) S.1 S.2.1 d_PR_gather_69 (by decide) ?_
          obtain rfl : x_4 = nI (j + 1) := by rw [ex_4]; exact nI_1 j
          exact ih_23 (j + 1) s9 t9 (by omega) (by omega) (by rw [hs9, gst_f (by rw [← hs9]; first | exact fun z => z.1 ((nI_eq (by omega) (by omega)).mp c_35) | exact fun z => c_49 z.2)]) (by rw [ht9, gst_f (by rw [← hs9]; first | exact fun z => z.1 ((nI_eq (by omega) (by omega)).mp c_35) | exact fun z => c_49 z.2)]) hn9b _ _ hO ls (lv_sub hl [0, 1, 2, 3, 4] rfl)
        · skip
          refine lv_aload_n S.1 S.2.1 d_PR_gather_38 rfl (lv_at hl 1 rfl) ?_
          refine g_get S hO fl_PR_17 (by decide) (sh_0 G ad _ _) (v := .ref (ad 2)) rfl d_PR_gather_39 ?_
          refine lv_iload S.1 S.2.1 d_PR_gather_42 (lv_at hl 0 rfl) ?_
          refine g_aal S hO (t0 := 4) (by decide) (sh_2 G ad _ _) rfl (vp_in_nI (show j < 40 by omega) (by decide)) (v := .ref (ad (80 + j))) (by rw [nI_clamp (by omega)]; rfl) d_PR_gather_44 ?_
          refine g_get S hO fl_PR_236 (by omega) (sh_UN G ad _ _ (by omega)) (v := .int (s9 (80 + j) 10)) rfl d_PR_gather_45 ?_
          refine lv_iload_n S.1 S.2.1 d_PR_gather_48 rfl (lv_at hl 3 rfl) ?_
          refine lv_icmp_ne (tgt := 66) S.1 S.2.1 d_PR_gather_49 (by decide) (fun c_49 => ?_) (fun c_49 => ?_)
          · skip
            obtain ⟨x_5, ex_5⟩ : ∃ z : Int32, z = (nI j) + 1 := ⟨_, rfl⟩
            refine lv_iinc (v := x_5) (lv' := [(4, .int x_5), (0, .ref (ad 0)), (1, .int (nI u)), (2, .int (nI i)), (3, .int d)]) S.1 S.2.1 d_PR_gather_66 hl (k := 0) rfl (by rw [ex_5]; rfl) (by decide) rfl (fun ls hl => ?_)
            refine lv_goto (tgt := 23) S.1 S.2.1 d_PR_gather_69 (by decide) ?_
            obtain rfl : x_5 = nI (j + 1) := by rw [ex_5]; exact nI_1 j
            exact ih_23 (j + 1) s9 t9 (by omega) (by omega) (by rw [hs9, gst_f (by rw [← hs9]; first | exact fun z => z.1 ((nI_eq (by omega) (by omega)).mp c_35) | exact fun z => c_49 z.2)]) (by rw [ht9, gst_f (by rw [← hs9]; first | exact fun z => z.1 ((nI_eq (by omega) (by omega)).mp c_35) | exact fun z => c_49 z.2)]) hn9b _ _ hO ls (lv_sub hl [0, 1, 2, 3, 4] rfl)
          · skip
            refine lv_aload_n S.1 S.2.1 d_PR_gather_52 rfl (lv_at hl 1 rfl) ?_
            refine g_get S hO fl_PR_51 (by decide) (sh_0 G ad _ _) (v := .ref (ad 62)) rfl d_PR_gather_53 ?_
            refine lv_aload_n S.1 S.2.1 d_PR_gather_56 rfl (lv_at hl 1 rfl) ?_
            refine g_get S hO fl_PR_17 (by decide) (sh_0 G ad _ _) (v := .ref (ad 2)) rfl d_PR_gather_57 ?_
            refine lv_iload S.1 S.2.1 d_PR_gather_60 (lv_at hl 0 rfl) ?_
            refine g_aal S hO (t0 := 4) (by decide) (sh_2 G ad _ _) rfl (vp_in_nI (show j < 40 by omega) (by decide)) (v := .ref (ad (80 + j))) (by rw [nI_clamp (by omega)]; rfl) d_PR_gather_62 ?_
            refine g_VI (As := [.ref (ad (80 + j))]) (rest := []) S hO (fun _ h => h) (k_QU_addOther l G ad s9 t9 j (by omega)) cw_PR_291 (by decide) (sh_62 G ad _ _) rfl rfl hl.1 (Nat.le_of_ble_eq_true rfl) ⟨(Nat.le_of_ble_eq_true rfl), (Nat.le_of_ble_eq_true rfl)⟩ ⟨(Nat.le_of_ble_eq_true rfl), (Nat.le_of_ble_eq_true rfl)⟩ d_PR_gather_63 (fun q x ce H locs h9 => h9.elim) (fun v E1 H locs v_6 hO => ?_)
            obtain ⟨s_7, t_8, rfl, rfl, hs_7, ht_8⟩ := v_6
            refine W.eq (g2 := F0 m 66 ls []) rfl ?_
            obtain ⟨x_9, ex_9⟩ : ∃ z : Int32, z = (nI j) + 1 := ⟨_, rfl⟩
            refine lv_iinc (v := x_9) (lv' := [(4, .int x_9), (0, .ref (ad 0)), (1, .int (nI u)), (2, .int (nI i)), (3, .int d)]) S.1 S.2.1 d_PR_gather_66 hl (k := 0) rfl (by rw [ex_9]; rfl) (by decide) rfl (fun ls hl => ?_)
            refine lv_goto (tgt := 23) S.1 S.2.1 d_PR_gather_69 (by decide) ?_
            obtain rfl : x_9 = nI (j + 1) := by rw [ex_9]; exact nI_1 j
            exact ih_23 (j + 1) s_7 t_8 (by omega) (by omega) (by rw [gst_t ⟨fun z => c_35 (by rw [z]), by rw [← hs9]; exact c_49⟩, ← hs9]; exact hs_7) (by rw [gst_t ⟨fun z => c_35 (by rw [z]), by rw [← hs9]; exact c_49⟩, ← hs9, ← ht9]; exact ht_8) (by rw [hs_7]; simpa [va_up] using hn9b) _ _ hO ls (lv_sub hl [0, 1, 2, 3, 4] rfl)
  exact K_23 (nu + 1) 0 s_2 t_3 (by omega) (by omega) (by rw [hs_2]; rfl) (by rw [ht_3]; rfl) (by rw [hs_2]; simpa [va_up] using hnu) _ _ hO ls (lv_sub hl [0, 1, 2, 3, 4] rfl)
