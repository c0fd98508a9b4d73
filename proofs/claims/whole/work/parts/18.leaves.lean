/-! Methods of the small classes. Written by wip/tools/m18.py. -/
theorem z_0 {P : Prop} {h : Decidable P} : (@ite _ P h (1 : Int32) 0 = 0) ↔ ¬ P := by
  by_cases hp : P
  · rw [if_pos hp]; exact ⟨fun z => absurd z (by decide), fun z => absurd hp z⟩
  · rw [if_neg hp]; exact ⟨fun _ => hp, fun _ => rfl⟩
theorem z_01 {P : Prop} {h : Decidable P} : @ite _ P h (1 : Int32) 0 = 0 ∨ @ite _ P h (1 : Int32) 0 = 1 := by
  by_cases hp : P
  · rw [if_pos hp]; exact Or.inr rfl
  · rw [if_neg hp]; exact Or.inl rfl
theorem z_p {P : Prop} {h : Decidable P} (hp : P) : some (Value.int 1) = some (Value.int (@ite _ P h (1 : Int32) 0)) := by rw [if_pos hp]
theorem z_n {P : Prop} {h : Decidable P} (hp : ¬ P) : some (Value.int 0) = some (Value.int (@ite _ P h (1 : Int32) 0)) := by rw [if_neg hp]
abbrev hld (σ : Nat → Nat → Int32) (k : Nat) (a b d : Int32) : Prop := a ≤ σ k 0 ∧ b ≤ σ k 1 ∧ d ≤ σ k 2
/-- the place k and the unit u: the way fits -/
abbrev fit6 (σ : Nat → Nat → Int32) (k u : Nat) (w : Int32) : Prop :=
  (w = 0 ∧ hld σ k (σ u 3) (σ u 4) (σ u 5)) ∨ (w = 1 ∧ hld σ k (σ u 3) (σ u 5) (σ u 4)) ∨ (w = 2 ∧ hld σ k (σ u 4) (σ u 3) (σ u 5)) ∨ (w = 3 ∧ hld σ k (σ u 4) (σ u 5) (σ u 3)) ∨ (w = 4 ∧ hld σ k (σ u 5) (σ u 3) (σ u 4)) ∨ (w = 5 ∧ hld σ k (σ u 5) (σ u 4) (σ u 3))
theorem sw05 {x : Int32} (h0 : ¬ x = 0) (h1 : ¬ x = 1) (h2 : ¬ x = 2) (h3 : ¬ x = 3) (h4 : ¬ x = 4) (h5 : ¬ x = 5) : x.toInt < 0 ∨ 5 < x.toInt := by
  by_cases hc : x.toInt < 0 ∨ 5 < x.toInt
  · exact hc
  · exfalso
    have e : ∀ k : Int32, x.toInt = k.toInt → x = k := fun k h => Int32.toInt_inj.mp h
    have hx : x.toInt = 0 ∨ x.toInt = 1 ∨ x.toInt = 2 ∨ x.toInt = 3 ∨ x.toInt = 4 ∨ x.toInt = 5 := by omega
    rcases hx with h | h | h | h | h | h
    · exact h0 (e 0 h)
    · exact h1 (e 1 h)
    · exact h2 (e 2 h)
    · exact h3 (e 3 h)
    · exact h4 (e 4 h)
    · exact h5 (e 5 h)
theorem sw13 {x : Int32} (h1 : ¬ x = 1) (h2 : ¬ x = 2) (h3 : ¬ x = 3) : x.toInt < 1 ∨ 3 < x.toInt := by
  by_cases hc : x.toInt < 1 ∨ 3 < x.toInt
  · exact hc
  · exfalso
    have e : ∀ k : Int32, x.toInt = k.toInt → x = k := fun k h => Int32.toInt_inj.mp h
    have hx : x.toInt = 1 ∨ x.toInt = 2 ∨ x.toInt = 3 := by omega
    rcases hx with h | h | h
    · exact h1 (e 1 h)
    · exact h2 (e 2 h)
    · exact h3 (e 3 h)
set_option maxHeartbeats 4000000 in
set_option maxRecDepth 100000 in
theorem k_PL_holds (l : Launch) (G : gP) (ad : Nat → Nat) (σ : Nat → Nat → Int32) (τ : Nat → Nat → Int64) (i : Nat) (hi : i < 12) (a b d : Int32) : gpu l y_PL_holds c_PL_holds 4 (some .boolean) { frames := 0, cells := 0, slots := 0, locals := 0 } G ad σ τ [.ref (ad (68 + i)), .int a, .int b, .int d] 0 0 (fun v => v = some (.int (if hld σ (68 + i) a b d then 1 else 0))) (fun _ => False) := by
  refine gs_of (fun _ h => h.elim) (by decide) (Nat.le_of_ble_eq_true rfl) ?_
  intro p e s m args below meth c ls S hk hr hx hl hO
  have hl : lv_has ls 4 [(0, .ref (ad (68 + i))), (1, .int a), (2, .int b), (3, .int d)] := hl
  refine lv_iload_n S.1 S.2.1 d_PL_holds_0 rfl (lv_at hl 1 rfl) ?_
  refine lv_aload_n S.1 S.2.1 d_PL_holds_1 rfl (lv_at hl 0 rfl) ?_
  refine g_get S hO fl_PL_9 (by omega) (sh_PL G ad _ _ (by omega)) (v := .int (σ (68 + i) 0)) rfl d_PL_holds_2 ?_
  refine lv_icmp_gt (tgt := 28) S.1 S.2.1 d_PL_holds_5 (by decide) (fun c_5 => ?_) (fun c_5 => ?_)
  · skip
    refine lv_iconst (v := 0) S.1 S.2.1 d_PL_holds_28 (by decide) ?_
    exact pu_z S hk hr hO (by first | exact Or.inl rfl | exact Or.inr rfl) (by first | exact z_p ⟨Int32.not_lt.mp c_5, Int32.not_lt.mp c_13, Int32.not_lt.mp c_21⟩ | exact z_n (fun z => Int32.not_le.mpr c_5 z.1) | exact z_n (fun z => Int32.not_le.mpr c_13 z.2.1) | exact z_n (fun z => Int32.not_le.mpr c_21 z.2.2)) (Nat.le_of_ble_eq_true rfl) (Nat.le_of_ble_eq_true rfl) d_PL_holds_29
  · skip
    refine lv_iload_n S.1 S.2.1 d_PL_holds_8 rfl (lv_at hl 2 rfl) ?_
    refine lv_aload_n S.1 S.2.1 d_PL_holds_9 rfl (lv_at hl 0 rfl) ?_
    refine g_get S hO fl_PL_15 (by omega) (sh_PL G ad _ _ (by omega)) (v := .int (σ (68 + i) 1)) rfl d_PL_holds_10 ?_
    refine lv_icmp_gt (tgt := 28) S.1 S.2.1 d_PL_holds_13 (by decide) (fun c_13 => ?_) (fun c_13 => ?_)
    · skip
      refine lv_iconst (v := 0) S.1 S.2.1 d_PL_holds_28 (by decide) ?_
      exact pu_z S hk hr hO (by first | exact Or.inl rfl | exact Or.inr rfl) (by first | exact z_p ⟨Int32.not_lt.mp c_5, Int32.not_lt.mp c_13, Int32.not_lt.mp c_21⟩ | exact z_n (fun z => Int32.not_le.mpr c_5 z.1) | exact z_n (fun z => Int32.not_le.mpr c_13 z.2.1) | exact z_n (fun z => Int32.not_le.mpr c_21 z.2.2)) (Nat.le_of_ble_eq_true rfl) (Nat.le_of_ble_eq_true rfl) d_PL_holds_29
    · skip
      refine lv_iload_n S.1 S.2.1 d_PL_holds_16 rfl (lv_at hl 3 rfl) ?_
      refine lv_aload_n S.1 S.2.1 d_PL_holds_17 rfl (lv_at hl 0 rfl) ?_
      refine g_get S hO fl_PL_18 (by omega) (sh_PL G ad _ _ (by omega)) (v := .int (σ (68 + i) 2)) rfl d_PL_holds_18 ?_
      refine lv_icmp_gt (tgt := 28) S.1 S.2.1 d_PL_holds_21 (by decide) (fun c_21 => ?_) (fun c_21 => ?_)
      · skip
        refine lv_iconst (v := 0) S.1 S.2.1 d_PL_holds_28 (by decide) ?_
        exact pu_z S hk hr hO (by first | exact Or.inl rfl | exact Or.inr rfl) (by first | exact z_p ⟨Int32.not_lt.mp c_5, Int32.not_lt.mp c_13, Int32.not_lt.mp c_21⟩ | exact z_n (fun z => Int32.not_le.mpr c_5 z.1) | exact z_n (fun z => Int32.not_le.mpr c_13 z.2.1) | exact z_n (fun z => Int32.not_le.mpr c_21 z.2.2)) (Nat.le_of_ble_eq_true rfl) (Nat.le_of_ble_eq_true rfl) d_PL_holds_29
      · skip
        refine lv_iconst (v := 1) S.1 S.2.1 d_PL_holds_24 (by decide) ?_
        refine lv_goto (tgt := 29) S.1 S.2.1 d_PL_holds_25 (by decide) ?_
        exact pu_z S hk hr hO (by first | exact Or.inl rfl | exact Or.inr rfl) (by first | exact z_p ⟨Int32.not_lt.mp c_5, Int32.not_lt.mp c_13, Int32.not_lt.mp c_21⟩ | exact z_n (fun z => Int32.not_le.mpr c_5 z.1) | exact z_n (fun z => Int32.not_le.mpr c_13 z.2.1) | exact z_n (fun z => Int32.not_le.mpr c_21 z.2.2)) (Nat.le_of_ble_eq_true rfl) (Nat.le_of_ble_eq_true rfl) d_PL_holds_29
set_option maxHeartbeats 4000000 in
set_option maxRecDepth 100000 in
theorem k_PL_fits (l : Launch) (G : gP) (ad : Nat → Nat) (σ : Nat → Nat → Int32) (τ : Nat → Nat → Int64) (i : Nat) (hi : i < 12) (u : Nat) (hu : u < 40) (a : Int32) : gpu l y_PL_fits c_PL_fits 3 (some .boolean) { frames := 1, cells := 0, slots := 0, locals := 23 } G ad σ τ [.ref (ad (68 + i)), .ref (ad (80 + u)), .int a] 0 0 (fun v => v = some (.int (if fit6 σ (68 + i) (80 + u) a then 1 else 0))) (fun _ => False) := by
  refine gs_of (fun _ h => h.elim) (by decide) (Nat.le_of_ble_eq_true rfl) ?_
  intro p e s m args below meth c ls S hk hr hx hl hO
  have hl : lv_has ls 3 [(0, .ref (ad (68 + i))), (1, .ref (ad (80 + u))), (2, .int a)] := hl
  refine lv_iload_n S.1 S.2.1 d_PL_fits_0 rfl (lv_at hl 2 rfl) ?_
  by_cases w_1_0 : a = 0
  · refine W.eq (g2 := F0 m 1 ls [.int 0]) (by rw [w_1_0]) ?_
    refine lv_tableIn (tgt := 40) S.1 S.2.1 d_PL_fits_1 (by decide) (by decide) rfl (by decide) ?_
    refine lv_aload_n S.1 S.2.1 d_PL_fits_40 rfl (lv_at hl 0 rfl) ?_
    refine lv_aload_n S.1 S.2.1 d_PL_fits_41 rfl (lv_at hl 1 rfl) ?_
    refine g_get S hO fl_PL_29 (by omega) (sh_UN G ad _ _ (by omega)) (v := .int (σ (80 + u) 3)) rfl d_PL_fits_42 ?_
    refine lv_aload_n S.1 S.2.1 d_PL_fits_45 rfl (lv_at hl 1 rfl) ?_
    refine g_get S hO fl_PL_32 (by omega) (sh_UN G ad _ _ (by omega)) (v := .int (σ (80 + u) 4)) rfl d_PL_fits_46 ?_
    refine lv_aload_n S.1 S.2.1 d_PL_fits_49 rfl (lv_at hl 1 rfl) ?_
    refine g_get S hO fl_PL_33 (by omega) (sh_UN G ad _ _ (by omega)) (v := .int (σ (80 + u) 5)) rfl d_PL_fits_50 ?_
    refine g_VP (As := [.int (σ (80 + u) 3), .int (σ (80 + u) 4), .int (σ (80 + u) 5)]) (rest := []) S hO (k_PL_holds l G ad σ τ i (by omega) (σ (80 + u) 3) (σ (80 + u) 4) (σ (80 + u) 5)) cw_PL_34 (by omega) (sh_PL G ad _ _ (by omega)) rfl rfl hl.1 (Nat.le_of_ble_eq_true rfl) ⟨(Nat.le_of_ble_eq_true rfl), (Nat.le_of_ble_eq_true rfl)⟩ ⟨(Nat.le_of_ble_eq_true rfl), (Nat.le_of_ble_eq_true rfl)⟩ d_PL_fits_53 (fun q x ce H h9 => h9.elim) (fun v H v_1 hO => ?_)
    subst v_1
    refine W.eq (g2 := F0 m 56 ls [.int (if hld σ (68 + i) (σ (80 + u) 3) (σ (80 + u) 4) (σ (80 + u) 5) then 1 else 0)]) rfl ?_
    exact pu_z S hk hr hO z_01 (by rw [w_1_0]; by_cases z9 : hld σ (68 + i) (σ (80 + u) 3) (σ (80 + u) 4) (σ (80 + u) 5) <;> simp [fit6, z9]) (Nat.le_of_ble_eq_true rfl) (Nat.le_of_ble_eq_true rfl) d_PL_fits_56
  by_cases w_1_1 : a = 1
  · refine W.eq (g2 := F0 m 1 ls [.int 1]) (by rw [w_1_1]) ?_
    refine lv_tableIn (tgt := 57) S.1 S.2.1 d_PL_fits_1 (by decide) (by decide) rfl (by decide) ?_
    refine lv_aload_n S.1 S.2.1 d_PL_fits_57 rfl (lv_at hl 0 rfl) ?_
    refine lv_aload_n S.1 S.2.1 d_PL_fits_58 rfl (lv_at hl 1 rfl) ?_
    refine g_get S hO fl_PL_29 (by omega) (sh_UN G ad _ _ (by omega)) (v := .int (σ (80 + u) 3)) rfl d_PL_fits_59 ?_
    refine lv_aload_n S.1 S.2.1 d_PL_fits_62 rfl (lv_at hl 1 rfl) ?_
    refine g_get S hO fl_PL_33 (by omega) (sh_UN G ad _ _ (by omega)) (v := .int (σ (80 + u) 5)) rfl d_PL_fits_63 ?_
    refine lv_aload_n S.1 S.2.1 d_PL_fits_66 rfl (lv_at hl 1 rfl) ?_
    refine g_get S hO fl_PL_32 (by omega) (sh_UN G ad _ _ (by omega)) (v := .int (σ (80 + u) 4)) rfl d_PL_fits_67 ?_
    refine g_VP (As := [.int (σ (80 + u) 3), .int (σ (80 + u) 5), .int (σ (80 + u) 4)]) (rest := []) S hO (k_PL_holds l G ad σ τ i (by omega) (σ (80 + u) 3) (σ (80 + u) 5) (σ (80 + u) 4)) cw_PL_34 (by omega) (sh_PL G ad _ _ (by omega)) rfl rfl hl.1 (Nat.le_of_ble_eq_true rfl) ⟨(Nat.le_of_ble_eq_true rfl), (Nat.le_of_ble_eq_true rfl)⟩ ⟨(Nat.le_of_ble_eq_true rfl), (Nat.le_of_ble_eq_true rfl)⟩ d_PL_fits_70 (fun q x ce H h9 => h9.elim) (fun v H v_2 hO => ?_)
    subst v_2
    refine W.eq (g2 := F0 m 73 ls [.int (if hld σ (68 + i) (σ (80 + u) 3) (σ (80 + u) 5) (σ (80 + u) 4) then 1 else 0)]) rfl ?_
    exact pu_z S hk hr hO z_01 (by rw [w_1_1]; by_cases z9 : hld σ (68 + i) (σ (80 + u) 3) (σ (80 + u) 5) (σ (80 + u) 4) <;> simp [fit6, z9]) (Nat.le_of_ble_eq_true rfl) (Nat.le_of_ble_eq_true rfl) d_PL_fits_73
  by_cases w_1_2 : a = 2
  · refine W.eq (g2 := F0 m 1 ls [.int 2]) (by rw [w_1_2]) ?_
    refine lv_tableIn (tgt := 74) S.1 S.2.1 d_PL_fits_1 (by decide) (by decide) rfl (by decide) ?_
    refine lv_aload_n S.1 S.2.1 d_PL_fits_74 rfl (lv_at hl 0 rfl) ?_
    refine lv_aload_n S.1 S.2.1 d_PL_fits_75 rfl (lv_at hl 1 rfl) ?_
    refine g_get S hO fl_PL_32 (by omega) (sh_UN G ad _ _ (by omega)) (v := .int (σ (80 + u) 4)) rfl d_PL_fits_76 ?_
    refine lv_aload_n S.1 S.2.1 d_PL_fits_79 rfl (lv_at hl 1 rfl) ?_
    refine g_get S hO fl_PL_29 (by omega) (sh_UN G ad _ _ (by omega)) (v := .int (σ (80 + u) 3)) rfl d_PL_fits_80 ?_
    refine lv_aload_n S.1 S.2.1 d_PL_fits_83 rfl (lv_at hl 1 rfl) ?_
    refine g_get S hO fl_PL_33 (by omega) (sh_UN G ad _ _ (by omega)) (v := .int (σ (80 + u) 5)) rfl d_PL_fits_84 ?_
    refine g_VP (As := [.int (σ (80 + u) 4), .int (σ (80 + u) 3), .int (σ (80 + u) 5)]) (rest := []) S hO (k_PL_holds l G ad σ τ i (by omega) (σ (80 + u) 4) (σ (80 + u) 3) (σ (80 + u) 5)) cw_PL_34 (by omega) (sh_PL G ad _ _ (by omega)) rfl rfl hl.1 (Nat.le_of_ble_eq_true rfl) ⟨(Nat.le_of_ble_eq_true rfl), (Nat.le_of_ble_eq_true rfl)⟩ ⟨(Nat.le_of_ble_eq_true rfl), (Nat.le_of_ble_eq_true rfl)⟩ d_PL_fits_87 (fun q x ce H h9 => h9.elim) (fun v H v_3 hO => ?_)
    subst v_3
    refine W.eq (g2 := F0 m 90 ls [.int (if hld σ (68 + i) (σ (80 + u) 4) (σ (80 + u) 3) (σ (80 + u) 5) then 1 else 0)]) rfl ?_
    exact pu_z S hk hr hO z_01 (by rw [w_1_2]; by_cases z9 : hld σ (68 + i) (σ (80 + u) 4) (σ (80 + u) 3) (σ (80 + u) 5) <;> simp [fit6, z9]) (Nat.le_of_ble_eq_true rfl) (Nat.le_of_ble_eq_true rfl) d_PL_fits_90
  by_cases w_1_3 : a = 3
  · refine W.eq (g2 := F0 m 1 ls [.int 3]) (by rw [w_1_3]) ?_
    refine lv_tableIn (tgt := 91) S.1 S.2.1 d_PL_fits_1 (by decide) (by decide) rfl (by decide) ?_
    refine lv_aload_n S.1 S.2.1 d_PL_fits_91 rfl (lv_at hl 0 rfl) ?_
    refine lv_aload_n S.1 S.2.1 d_PL_fits_92 rfl (lv_at hl 1 rfl) ?_
    refine g_get S hO fl_PL_32 (by omega) (sh_UN G ad _ _ (by omega)) (v := .int (σ (80 + u) 4)) rfl d_PL_fits_93 ?_
    refine lv_aload_n S.1 S.2.1 d_PL_fits_96 rfl (lv_at hl 1 rfl) ?_
    refine g_get S hO fl_PL_33 (by omega) (sh_UN G ad _ _ (by omega)) (v := .int (σ (80 + u) 5)) rfl d_PL_fits_97 ?_
    refine lv_aload_n S.1 S.2.1 d_PL_fits_100 rfl (lv_at hl 1 rfl) ?_
    refine g_get S hO fl_PL_29 (by omega) (sh_UN G ad _ _ (by omega)) (v := .int (σ (80 + u) 3)) rfl d_PL_fits_101 ?_
    refine g_VP (As := [.int (σ (80 + u) 4), .int (σ (80 + u) 5), .int (σ (80 + u) 3)]) (rest := []) S hO (k_PL_holds l G ad σ τ i (by omega) (σ (80 + u) 4) (σ (80 + u) 5) (σ (80 + u) 3)) cw_PL_34 (by omega) (sh_PL G ad _ _ (by omega)) rfl rfl hl.1 (Nat.le_of_ble_eq_true rfl) ⟨(Nat.le_of_ble_eq_true rfl), (Nat.le_of_ble_eq_true rfl)⟩ ⟨(Nat.le_of_ble_eq_true rfl), (Nat.le_of_ble_eq_true rfl)⟩ d_PL_fits_104 (fun q x ce H h9 => h9.elim) (fun v H v_4 hO => ?_)
    subst v_4
    refine W.eq (g2 := F0 m 107 ls [.int (if hld σ (68 + i) (σ (80 + u) 4) (σ (80 + u) 5) (σ (80 + u) 3) then 1 else 0)]) rfl ?_
    exact pu_z S hk hr hO z_01 (by rw [w_1_3]; by_cases z9 : hld σ (68 + i) (σ (80 + u) 4) (σ (80 + u) 5) (σ (80 + u) 3) <;> simp [fit6, z9]) (Nat.le_of_ble_eq_true rfl) (Nat.le_of_ble_eq_true rfl) d_PL_fits_107
  by_cases w_1_4 : a = 4
  · refine W.eq (g2 := F0 m 1 ls [.int 4]) (by rw [w_1_4]) ?_
    refine lv_tableIn (tgt := 108) S.1 S.2.1 d_PL_fits_1 (by decide) (by decide) rfl (by decide) ?_
    refine lv_aload_n S.1 S.2.1 d_PL_fits_108 rfl (lv_at hl 0 rfl) ?_
    refine lv_aload_n S.1 S.2.1 d_PL_fits_109 rfl (lv_at hl 1 rfl) ?_
    refine g_get S hO fl_PL_33 (by omega) (sh_UN G ad _ _ (by omega)) (v := .int (σ (80 + u) 5)) rfl d_PL_fits_110 ?_
    refine lv_aload_n S.1 S.2.1 d_PL_fits_113 rfl (lv_at hl 1 rfl) ?_
    refine g_get S hO fl_PL_29 (by omega) (sh_UN G ad _ _ (by omega)) (v := .int (σ (80 + u) 3)) rfl d_PL_fits_114 ?_
    refine lv_aload_n S.1 S.2.1 d_PL_fits_117 rfl (lv_at hl 1 rfl) ?_
    refine g_get S hO fl_PL_32 (by omega) (sh_UN G ad _ _ (by omega)) (v := .int (σ (80 + u) 4)) rfl d_PL_fits_118 ?_
    refine g_VP (As := [.int (σ (80 + u) 5), .int (σ (80 + u) 3), .int (σ (80 + u) 4)]) (rest := []) S hO (k_PL_holds l G ad σ τ i (by omega) (σ (80 + u) 5) (σ (80 + u) 3) (σ (80 + u) 4)) cw_PL_34 (by omega) (sh_PL G ad _ _ (by omega)) rfl rfl hl.1 (Nat.le_of_ble_eq_true rfl) ⟨(Nat.le_of_ble_eq_true rfl), (Nat.le_of_ble_eq_true rfl)⟩ ⟨(Nat.le_of_ble_eq_true rfl), (Nat.le_of_ble_eq_true rfl)⟩ d_PL_fits_121 (fun q x ce H h9 => h9.elim) (fun v H v_5 hO => ?_)
    subst v_5
    refine W.eq (g2 := F0 m 124 ls [.int (if hld σ (68 + i) (σ (80 + u) 5) (σ (80 + u) 3) (σ (80 + u) 4) then 1 else 0)]) rfl ?_
    exact pu_z S hk hr hO z_01 (by rw [w_1_4]; by_cases z9 : hld σ (68 + i) (σ (80 + u) 5) (σ (80 + u) 3) (σ (80 + u) 4) <;> simp [fit6, z9]) (Nat.le_of_ble_eq_true rfl) (Nat.le_of_ble_eq_true rfl) d_PL_fits_124
  by_cases w_1_5 : a = 5
  · refine W.eq (g2 := F0 m 1 ls [.int 5]) (by rw [w_1_5]) ?_
    refine lv_tableIn (tgt := 125) S.1 S.2.1 d_PL_fits_1 (by decide) (by decide) rfl (by decide) ?_
    refine lv_aload_n S.1 S.2.1 d_PL_fits_125 rfl (lv_at hl 0 rfl) ?_
    refine lv_aload_n S.1 S.2.1 d_PL_fits_126 rfl (lv_at hl 1 rfl) ?_
    refine g_get S hO fl_PL_33 (by omega) (sh_UN G ad _ _ (by omega)) (v := .int (σ (80 + u) 5)) rfl d_PL_fits_127 ?_
    refine lv_aload_n S.1 S.2.1 d_PL_fits_130 rfl (lv_at hl 1 rfl) ?_
    refine g_get S hO fl_PL_32 (by omega) (sh_UN G ad _ _ (by omega)) (v := .int (σ (80 + u) 4)) rfl d_PL_fits_131 ?_
    refine lv_aload_n S.1 S.2.1 d_PL_fits_134 rfl (lv_at hl 1 rfl) ?_
    refine g_get S hO fl_PL_29 (by omega) (sh_UN G ad _ _ (by omega)) (v := .int (σ (80 + u) 3)) rfl d_PL_fits_135 ?_
    refine g_VP (As := [.int (σ (80 + u) 5), .int (σ (80 + u) 4), .int (σ (80 + u) 3)]) (rest := []) S hO (k_PL_holds l G ad σ τ i (by omega) (σ (80 + u) 5) (σ (80 + u) 4) (σ (80 + u) 3)) cw_PL_34 (by omega) (sh_PL G ad _ _ (by omega)) rfl rfl hl.1 (Nat.le_of_ble_eq_true rfl) ⟨(Nat.le_of_ble_eq_true rfl), (Nat.le_of_ble_eq_true rfl)⟩ ⟨(Nat.le_of_ble_eq_true rfl), (Nat.le_of_ble_eq_true rfl)⟩ d_PL_fits_138 (fun q x ce H h9 => h9.elim) (fun v H v_6 hO => ?_)
    subst v_6
    refine W.eq (g2 := F0 m 141 ls [.int (if hld σ (68 + i) (σ (80 + u) 5) (σ (80 + u) 4) (σ (80 + u) 3) then 1 else 0)]) rfl ?_
    exact pu_z S hk hr hO z_01 (by rw [w_1_5]; by_cases z9 : hld σ (68 + i) (σ (80 + u) 5) (σ (80 + u) 4) (σ (80 + u) 3) <;> simp [fit6, z9]) (Nat.le_of_ble_eq_true rfl) (Nat.le_of_ble_eq_true rfl) d_PL_fits_141
  refine lv_tableOut (tgt := 142) S.1 S.2.1 d_PL_fits_1 (sw05 w_1_0 w_1_1 w_1_2 w_1_3 w_1_4 w_1_5) (by decide) ?_
  refine lv_iconst (v := 0) S.1 S.2.1 d_PL_fits_142 (by decide) ?_
  exact pu_z S hk hr hO (by first | exact Or.inl rfl | exact Or.inr rfl) (z_n (fun z => z.elim (fun q => w_1_0 q.1) (fun z => z.elim (fun q => w_1_1 q.1) (fun z => z.elim (fun q => w_1_2 q.1) (fun z => z.elim (fun q => w_1_3 q.1) (fun z => z.elim (fun q => w_1_4 q.1) (fun q => w_1_5 q.1))))))) (Nat.le_of_ble_eq_true rfl) (Nat.le_of_ble_eq_true rfl) d_PL_fits_143
abbrev cov (σ : Nat → Nat → Int32) (k : Nat) (r p o d : Int32) : Prop := σ k 0 = r ∧ (σ k 1 = (-1) ∨ σ k 1 = p) ∧ (σ k 2 = (-1) ∨ σ k 2 = o) ∧ d ≤ σ k 3
set_option maxHeartbeats 4000000 in
set_option maxRecDepth 100000 in
theorem k_WV_covers (l : Launch) (G : gP) (ad : Nat → Nat) (σ : Nat → Nat → Int32) (τ : Nat → Nat → Int64) (i : Nat) (hi : i < 20) (r a b d : Int32) : gpu l y_WV_covers c_WV_covers 5 (some .boolean) { frames := 0, cells := 0, slots := 0, locals := 0 } G ad σ τ [.ref (ad (120 + i)), .int r, .int a, .int b, .int d] 0 0 (fun v => v = some (.int (if cov σ (120 + i) r a b d then 1 else 0))) (fun _ => False) := by
  refine gs_of (fun _ h => h.elim) (by decide) (Nat.le_of_ble_eq_true rfl) ?_
  intro p e s m args below meth c ls S hk hr hx hl hO
  have hl : lv_has ls 5 [(0, .ref (ad (120 + i))), (1, .int r), (2, .int a), (3, .int b), (4, .int d)] := hl
  refine lv_aload_n S.1 S.2.1 d_WV_covers_0 rfl (lv_at hl 0 rfl) ?_
  refine g_get S hO fl_WV_9 (by omega) (sh_WV G ad _ _ (by omega)) (v := .int (σ (120 + i) 0)) rfl d_WV_covers_1 ?_
  refine lv_iload_n S.1 S.2.1 d_WV_covers_4 rfl (lv_at hl 1 rfl) ?_
  refine lv_icmp_ne (tgt := 53) S.1 S.2.1 d_WV_covers_5 (by decide) (fun c_5 => ?_) (fun c_5 => ?_)
  · skip
    refine lv_iconst (v := 0) S.1 S.2.1 d_WV_covers_53 (by decide) ?_
    exact pu_z S hk hr hO (by first | exact Or.inl rfl | exact Or.inr rfl) (by first | exact z_n (fun z => c_5 z.1) | exact z_n (fun z => z.2.1.elim c_13 c_21) | exact z_n (fun z => z.2.2.1.elim c_29 c_37) | exact z_n (fun z => Int32.not_le.mpr c_46 z.2.2.2) | exact z_p ⟨c_5, Or.inl c_13, Or.inl c_29, Int32.not_lt.mp c_46⟩ | exact z_p ⟨c_5, Or.inl c_13, Or.inr c_37, Int32.not_lt.mp c_46⟩ | exact z_p ⟨c_5, Or.inr c_21, Or.inl c_29, Int32.not_lt.mp c_46⟩ | exact z_p ⟨c_5, Or.inr c_21, Or.inr c_37, Int32.not_lt.mp c_46⟩) (Nat.le_of_ble_eq_true rfl) (Nat.le_of_ble_eq_true rfl) d_WV_covers_54
  · skip
    refine lv_aload_n S.1 S.2.1 d_WV_covers_8 rfl (lv_at hl 0 rfl) ?_
    refine g_get S hO fl_WV_15 (by omega) (sh_WV G ad _ _ (by omega)) (v := .int (σ (120 + i) 1)) rfl d_WV_covers_9 ?_
    refine lv_iconst (v := (-1)) S.1 S.2.1 d_WV_covers_12 (by decide) ?_
    refine lv_icmp_eq (tgt := 24) S.1 S.2.1 d_WV_covers_13 (by decide) (fun c_13 => ?_) (fun c_13 => ?_)
    · skip
      refine lv_aload_n S.1 S.2.1 d_WV_covers_24 rfl (lv_at hl 0 rfl) ?_
      refine g_get S hO fl_WV_18 (by omega) (sh_WV G ad _ _ (by omega)) (v := .int (σ (120 + i) 2)) rfl d_WV_covers_25 ?_
      refine lv_iconst (v := (-1)) S.1 S.2.1 d_WV_covers_28 (by decide) ?_
      refine lv_icmp_eq (tgt := 40) S.1 S.2.1 d_WV_covers_29 (by decide) (fun c_29 => ?_) (fun c_29 => ?_)
      · skip
        refine lv_iload S.1 S.2.1 d_WV_covers_40 (lv_at hl 4 rfl) ?_
        refine lv_aload_n S.1 S.2.1 d_WV_covers_42 rfl (lv_at hl 0 rfl) ?_
        refine g_get S hO fl_WV_21 (by omega) (sh_WV G ad _ _ (by omega)) (v := .int (σ (120 + i) 3)) rfl d_WV_covers_43 ?_
        refine lv_icmp_gt (tgt := 53) S.1 S.2.1 d_WV_covers_46 (by decide) (fun c_46 => ?_) (fun c_46 => ?_)
        · skip
          refine lv_iconst (v := 0) S.1 S.2.1 d_WV_covers_53 (by decide) ?_
          exact pu_z S hk hr hO (by first | exact Or.inl rfl | exact Or.inr rfl) (by first | exact z_n (fun z => c_5 z.1) | exact z_n (fun z => z.2.1.elim c_13 c_21) | exact z_n (fun z => z.2.2.1.elim c_29 c_37) | exact z_n (fun z => Int32.not_le.mpr c_46 z.2.2.2) | exact z_p ⟨c_5, Or.inl c_13, Or.inl c_29, Int32.not_lt.mp c_46⟩ | exact z_p ⟨c_5, Or.inl c_13, Or.inr c_37, Int32.not_lt.mp c_46⟩ | exact z_p ⟨c_5, Or.inr c_21, Or.inl c_29, Int32.not_lt.mp c_46⟩ | exact z_p ⟨c_5, Or.inr c_21, Or.inr c_37, Int32.not_lt.mp c_46⟩) (Nat.le_of_ble_eq_true rfl) (Nat.le_of_ble_eq_true rfl) d_WV_covers_54
        · skip
          refine lv_iconst (v := 1) S.1 S.2.1 d_WV_covers_49 (by decide) ?_
          refine lv_goto (tgt := 54) S.1 S.2.1 d_WV_covers_50 (by decide) ?_
          exact pu_z S hk hr hO (by first | exact Or.inl rfl | exact Or.inr rfl) (by first | exact z_n (fun z => c_5 z.1) | exact z_n (fun z => z.2.1.elim c_13 c_21) | exact z_n (fun z => z.2.2.1.elim c_29 c_37) | exact z_n (fun z => Int32.not_le.mpr c_46 z.2.2.2) | exact z_p ⟨c_5, Or.inl c_13, Or.inl c_29, Int32.not_lt.mp c_46⟩ | exact z_p ⟨c_5, Or.inl c_13, Or.inr c_37, Int32.not_lt.mp c_46⟩ | exact z_p ⟨c_5, Or.inr c_21, Or.inl c_29, Int32.not_lt.mp c_46⟩ | exact z_p ⟨c_5, Or.inr c_21, Or.inr c_37, Int32.not_lt.mp c_46⟩) (Nat.le_of_ble_eq_true rfl) (Nat.le_of_ble_eq_true rfl) d_WV_covers_54
      · skip
        refine lv_aload_n S.1 S.2.1 d_WV_covers_32 rfl (lv_at hl 0 rfl) ?_
        refine g_get S hO fl_WV_18 (by omega) (sh_WV G ad _ _ (by omega)) (v := .int (σ (120 + i) 2)) rfl d_WV_covers_33 ?_
        refine lv_iload_n S.1 S.2.1 d_WV_covers_36 rfl (lv_at hl 3 rfl) ?_
        refine lv_icmp_ne (tgt := 53) S.1 S.2.1 d_WV_covers_37 (by decide) (fun c_37 => ?_) (fun c_37 => ?_)
        · skip
          refine lv_iconst (v := 0) S.1 S.2.1 d_WV_covers_53 (by decide) ?_
          exact pu_z S hk hr hO (by first | exact Or.inl rfl | exact Or.inr rfl) (by first | exact z_n (fun z => c_5 z.1) | exact z_n (fun z => z.2.1.elim c_13 c_21) | exact z_n (fun z => z.2.2.1.elim c_29 c_37) | exact z_n (fun z => Int32.not_le.mpr c_46 z.2.2.2) | exact z_p ⟨c_5, Or.inl c_13, Or.inl c_29, Int32.not_lt.mp c_46⟩ | exact z_p ⟨c_5, Or.inl c_13, Or.inr c_37, Int32.not_lt.mp c_46⟩ | exact z_p ⟨c_5, Or.inr c_21, Or.inl c_29, Int32.not_lt.mp c_46⟩ | exact z_p ⟨c_5, Or.inr c_21, Or.inr c_37, Int32.not_lt.mp c_46⟩) (Nat.le_of_ble_eq_true rfl) (Nat.le_of_ble_eq_true rfl) d_WV_covers_54
        · skip
          refine lv_iload S.1 S.2.1 d_WV_covers_40 (lv_at hl 4 rfl) ?_
          refine lv_aload_n S.1 S.2.1 d_WV_covers_42 rfl (lv_at hl 0 rfl) ?_
          refine g_get S hO fl_WV_21 (by omega) (sh_WV G ad _ _ (by omega)) (v := .int (σ (120 + i) 3)) rfl d_WV_covers_43 ?_
          refine lv_icmp_gt (tgt := 53) S.1 S.2.1 d_WV_covers_46 (by decide) (fun c_46 => ?_) (fun c_46 => ?_)
          · skip
            refine lv_iconst (v := 0) S.1 S.2.1 d_WV_covers_53 (by decide) ?_
            exact pu_z S hk hr hO (by first | exact Or.inl rfl | exact Or.inr rfl) (by first | exact z_n (fun z => c_5 z.1) | exact z_n (fun z => z.2.1.elim c_13 c_21) | exact z_n (fun z => z.2.2.1.elim c_29 c_37) | exact z_n (fun z => Int32.not_le.mpr c_46 z.2.2.2) | exact z_p ⟨c_5, Or.inl c_13, Or.inl c_29, Int32.not_lt.mp c_46⟩ | exact z_p ⟨c_5, Or.inl c_13, Or.inr c_37, Int32.not_lt.mp c_46⟩ | exact z_p ⟨c_5, Or.inr c_21, Or.inl c_29, Int32.not_lt.mp c_46⟩ | exact z_p ⟨c_5, Or.inr c_21, Or.inr c_37, Int32.not_lt.mp c_46⟩) (Nat.le_of_ble_eq_true rfl) (Nat.le_of_ble_eq_true rfl) d_WV_covers_54
          · skip
            refine lv_iconst (v := 1) S.1 S.2.1 d_WV_covers_49 (by decide) ?_
            refine lv_goto (tgt := 54) S.1 S.2.1 d_WV_covers_50 (by decide) ?_
            exact pu_z S hk hr hO (by first | exact Or.inl rfl | exact Or.inr rfl) (by first | exact z_n (fun z => c_5 z.1) | exact z_n (fun z => z.2.1.elim c_13 c_21) | exact z_n (fun z => z.2.2.1.elim c_29 c_37) | exact z_n (fun z => Int32.not_le.mpr c_46 z.2.2.2) | exact z_p ⟨c_5, Or.inl c_13, Or.inl c_29, Int32.not_lt.mp c_46⟩ | exact z_p ⟨c_5, Or.inl c_13, Or.inr c_37, Int32.not_lt.mp c_46⟩ | exact z_p ⟨c_5, Or.inr c_21, Or.inl c_29, Int32.not_lt.mp c_46⟩ | exact z_p ⟨c_5, Or.inr c_21, Or.inr c_37, Int32.not_lt.mp c_46⟩) (Nat.le_of_ble_eq_true rfl) (Nat.le_of_ble_eq_true rfl) d_WV_covers_54
    · skip
      refine lv_aload_n S.1 S.2.1 d_WV_covers_16 rfl (lv_at hl 0 rfl) ?_
      refine g_get S hO fl_WV_15 (by omega) (sh_WV G ad _ _ (by omega)) (v := .int (σ (120 + i) 1)) rfl d_WV_covers_17 ?_
      refine lv_iload_n S.1 S.2.1 d_WV_covers_20 rfl (lv_at hl 2 rfl) ?_
      refine lv_icmp_ne (tgt := 53) S.1 S.2.1 d_WV_covers_21 (by decide) (fun c_21 => ?_) (fun c_21 => ?_)
      · skip
        refine lv_iconst (v := 0) S.1 S.2.1 d_WV_covers_53 (by decide) ?_
        exact pu_z S hk hr hO (by first | exact Or.inl rfl | exact Or.inr rfl) (by first | exact z_n (fun z => c_5 z.1) | exact z_n (fun z => z.2.1.elim c_13 c_21) | exact z_n (fun z => z.2.2.1.elim c_29 c_37) | exact z_n (fun z => Int32.not_le.mpr c_46 z.2.2.2) | exact z_p ⟨c_5, Or.inl c_13, Or.inl c_29, Int32.not_lt.mp c_46⟩ | exact z_p ⟨c_5, Or.inl c_13, Or.inr c_37, Int32.not_lt.mp c_46⟩ | exact z_p ⟨c_5, Or.inr c_21, Or.inl c_29, Int32.not_lt.mp c_46⟩ | exact z_p ⟨c_5, Or.inr c_21, Or.inr c_37, Int32.not_lt.mp c_46⟩) (Nat.le_of_ble_eq_true rfl) (Nat.le_of_ble_eq_true rfl) d_WV_covers_54
      · skip
        refine lv_aload_n S.1 S.2.1 d_WV_covers_24 rfl (lv_at hl 0 rfl) ?_
        refine g_get S hO fl_WV_18 (by omega) (sh_WV G ad _ _ (by omega)) (v := .int (σ (120 + i) 2)) rfl d_WV_covers_25 ?_
        refine lv_iconst (v := (-1)) S.1 S.2.1 d_WV_covers_28 (by decide) ?_
        refine lv_icmp_eq (tgt := 40) S.1 S.2.1 d_WV_covers_29 (by decide) (fun c_29 => ?_) (fun c_29 => ?_)
        · skip
          refine lv_iload S.1 S.2.1 d_WV_covers_40 (lv_at hl 4 rfl) ?_
          refine lv_aload_n S.1 S.2.1 d_WV_covers_42 rfl (lv_at hl 0 rfl) ?_
          refine g_get S hO fl_WV_21 (by omega) (sh_WV G ad _ _ (by omega)) (v := .int (σ (120 + i) 3)) rfl d_WV_covers_43 ?_
          refine lv_icmp_gt (tgt := 53) S.1 S.2.1 d_WV_covers_46 (by decide) (fun c_46 => ?_) (fun c_46 => ?_)
          · skip
            refine lv_iconst (v := 0) S.1 S.2.1 d_WV_covers_53 (by decide) ?_
            exact pu_z S hk hr hO (by first | exact Or.inl rfl | exact Or.inr rfl) (by first | exact z_n (fun z => c_5 z.1) | exact z_n (fun z => z.2.1.elim c_13 c_21) | exact z_n (fun z => z.2.2.1.elim c_29 c_37) | exact z_n (fun z => Int32.not_le.mpr c_46 z.2.2.2) | exact z_p ⟨c_5, Or.inl c_13, Or.inl c_29, Int32.not_lt.mp c_46⟩ | exact z_p ⟨c_5, Or.inl c_13, Or.inr c_37, Int32.not_lt.mp c_46⟩ | exact z_p ⟨c_5, Or.inr c_21, Or.inl c_29, Int32.not_lt.mp c_46⟩ | exact z_p ⟨c_5, Or.inr c_21, Or.inr c_37, Int32.not_lt.mp c_46⟩) (Nat.le_of_ble_eq_true rfl) (Nat.le_of_ble_eq_true rfl) d_WV_covers_54
          · skip
            refine lv_iconst (v := 1) S.1 S.2.1 d_WV_covers_49 (by decide) ?_
            refine lv_goto (tgt := 54) S.1 S.2.1 d_WV_covers_50 (by decide) ?_
            exact pu_z S hk hr hO (by first | exact Or.inl rfl | exact Or.inr rfl) (by first | exact z_n (fun z => c_5 z.1) | exact z_n (fun z => z.2.1.elim c_13 c_21) | exact z_n (fun z => z.2.2.1.elim c_29 c_37) | exact z_n (fun z => Int32.not_le.mpr c_46 z.2.2.2) | exact z_p ⟨c_5, Or.inl c_13, Or.inl c_29, Int32.not_lt.mp c_46⟩ | exact z_p ⟨c_5, Or.inl c_13, Or.inr c_37, Int32.not_lt.mp c_46⟩ | exact z_p ⟨c_5, Or.inr c_21, Or.inl c_29, Int32.not_lt.mp c_46⟩ | exact z_p ⟨c_5, Or.inr c_21, Or.inr c_37, Int32.not_lt.mp c_46⟩) (Nat.le_of_ble_eq_true rfl) (Nat.le_of_ble_eq_true rfl) d_WV_covers_54
        · skip
          refine lv_aload_n S.1 S.2.1 d_WV_covers_32 rfl (lv_at hl 0 rfl) ?_
          refine g_get S hO fl_WV_18 (by omega) (sh_WV G ad _ _ (by omega)) (v := .int (σ (120 + i) 2)) rfl d_WV_covers_33 ?_
          refine lv_iload_n S.1 S.2.1 d_WV_covers_36 rfl (lv_at hl 3 rfl) ?_
          refine lv_icmp_ne (tgt := 53) S.1 S.2.1 d_WV_covers_37 (by decide) (fun c_37 => ?_) (fun c_37 => ?_)
          · skip
            refine lv_iconst (v := 0) S.1 S.2.1 d_WV_covers_53 (by decide) ?_
            exact pu_z S hk hr hO (by first | exact Or.inl rfl | exact Or.inr rfl) (by first | exact z_n (fun z => c_5 z.1) | exact z_n (fun z => z.2.1.elim c_13 c_21) | exact z_n (fun z => z.2.2.1.elim c_29 c_37) | exact z_n (fun z => Int32.not_le.mpr c_46 z.2.2.2) | exact z_p ⟨c_5, Or.inl c_13, Or.inl c_29, Int32.not_lt.mp c_46⟩ | exact z_p ⟨c_5, Or.inl c_13, Or.inr c_37, Int32.not_lt.mp c_46⟩ | exact z_p ⟨c_5, Or.inr c_21, Or.inl c_29, Int32.not_lt.mp c_46⟩ | exact z_p ⟨c_5, Or.inr c_21, Or.inr c_37, Int32.not_lt.mp c_46⟩) (Nat.le_of_ble_eq_true rfl) (Nat.le_of_ble_eq_true rfl) d_WV_covers_54
          · skip
            refine lv_iload S.1 S.2.1 d_WV_covers_40 (lv_at hl 4 rfl) ?_
            refine lv_aload_n S.1 S.2.1 d_WV_covers_42 rfl (lv_at hl 0 rfl) ?_
            refine g_get S hO fl_WV_21 (by omega) (sh_WV G ad _ _ (by omega)) (v := .int (σ (120 + i) 3)) rfl d_WV_covers_43 ?_
            refine lv_icmp_gt (tgt := 53) S.1 S.2.1 d_WV_covers_46 (by decide) (fun c_46 => ?_) (fun c_46 => ?_)
            · skip
              refine lv_iconst (v := 0) S.1 S.2.1 d_WV_covers_53 (by decide) ?_
              exact pu_z S hk hr hO (by first | exact Or.inl rfl | exact Or.inr rfl) (by first | exact z_n (fun z => c_5 z.1) | exact z_n (fun z => z.2.1.elim c_13 c_21) | exact z_n (fun z => z.2.2.1.elim c_29 c_37) | exact z_n (fun z => Int32.not_le.mpr c_46 z.2.2.2) | exact z_p ⟨c_5, Or.inl c_13, Or.inl c_29, Int32.not_lt.mp c_46⟩ | exact z_p ⟨c_5, Or.inl c_13, Or.inr c_37, Int32.not_lt.mp c_46⟩ | exact z_p ⟨c_5, Or.inr c_21, Or.inl c_29, Int32.not_lt.mp c_46⟩ | exact z_p ⟨c_5, Or.inr c_21, Or.inr c_37, Int32.not_lt.mp c_46⟩) (Nat.le_of_ble_eq_true rfl) (Nat.le_of_ble_eq_true rfl) d_WV_covers_54
            · skip
              refine lv_iconst (v := 1) S.1 S.2.1 d_WV_covers_49 (by decide) ?_
              refine lv_goto (tgt := 54) S.1 S.2.1 d_WV_covers_50 (by decide) ?_
              exact pu_z S hk hr hO (by first | exact Or.inl rfl | exact Or.inr rfl) (by first | exact z_n (fun z => c_5 z.1) | exact z_n (fun z => z.2.1.elim c_13 c_21) | exact z_n (fun z => z.2.2.1.elim c_29 c_37) | exact z_n (fun z => Int32.not_le.mpr c_46 z.2.2.2) | exact z_p ⟨c_5, Or.inl c_13, Or.inl c_29, Int32.not_lt.mp c_46⟩ | exact z_p ⟨c_5, Or.inl c_13, Or.inr c_37, Int32.not_lt.mp c_46⟩ | exact z_p ⟨c_5, Or.inr c_21, Or.inl c_29, Int32.not_lt.mp c_46⟩ | exact z_p ⟨c_5, Or.inr c_21, Or.inr c_37, Int32.not_lt.mp c_46⟩) (Nat.le_of_ble_eq_true rfl) (Nat.le_of_ble_eq_true rfl) d_WV_covers_54
set_option maxHeartbeats 4000000 in
set_option maxRecDepth 100000 in
theorem k_NS_clear (l : Launch) (G : gP) (ad : Nat → Nat) (σ : Nat → Nat → Int32) (τ : Nat → Nat → Int64) (i : Nat) (hi : i < 4) : gim l y_NS_clear c_NS_clear 1 none { frames := 0, cells := 0, slots := 0, locals := 0 } G ad σ τ [.ref (ad (63 + i))] 0 0 (fun v σ1 τ1 => v = none ∧ σ1 = σ ∧ τ1 = up2L (up2L τ (63 + i) 0 0) (63 + i) 1 0) (fun _ => False) := by
  refine gs_of (fun _ h => h) (by decide) (Nat.le_of_ble_eq_true rfl) ?_
  intro p e s m args below meth c ls S hk hr hx hl hO
  have hl : lv_has ls 1 [(0, .ref (ad (63 + i)))] := hl
  refine lv_aload_n S.1 S.2.1 d_NS_clear_0 rfl (lv_at hl 0 rfl) ?_
  refine lv_lconst (v := 0) S.1 S.2.1 d_NS_clear_1 (by decide) ?_
  obtain ⟨t_1, ht_1⟩ : ∃ z : Nat → Nat → Int64, z = up2L τ (63 + i) 0 0 := ⟨_, rfl⟩
  refine g_put S hO (fun _ h => h) fp_NS_7 (by omega) (sh_NS G ad _ _ (by omega)) (v := .long 0) rfl rfl (Nat.le_of_ble_eq_true rfl) (E2 := enc G ad σ t_1) (by rw [ht_1]; exact enc_l (sh_NS G ad _ _ (by omega))) d_NS_clear_2 (fun H locs hO => ?_)
  refine lv_aload_n S.1 S.2.1 d_NS_clear_5 rfl (lv_at hl 0 rfl) ?_
  refine lv_lconst (v := 0) S.1 S.2.1 d_NS_clear_6 (by decide) ?_
  obtain ⟨t_2, ht_2⟩ : ∃ z : Nat → Nat → Int64, z = up2L t_1 (63 + i) 1 0 := ⟨_, rfl⟩
  refine g_put S hO (fun _ h => h) fp_NS_13 (by omega) (sh_NS G ad _ _ (by omega)) (v := .long 0) rfl rfl (Nat.le_of_ble_eq_true rfl) (E2 := enc G ad σ t_2) (by rw [ht_2]; exact enc_l (sh_NS G ad _ _ (by omega))) d_NS_clear_7 (fun H locs hO => ?_)
  subst ht_2
  subst ht_1
  exact im_v S hk hr hO ⟨rfl, rfl, rfl⟩ (Nat.le_of_ble_eq_true rfl) (Nat.le_of_ble_eq_true rfl) d_NS_clear_10
def nsa (τ : Nat → Nat → Int64) (k : Nat) (a : Int32) : Nat → Nat → Int64 := if 64 ≤ a then up2L τ k 1 (τ k 1 ||| 1 <<< ((a - 64).toInt64 &&& 63)) else up2L τ k 0 (τ k 0 ||| 1 <<< (a.toInt64 &&& 63))
set_option maxHeartbeats 4000000 in
set_option maxRecDepth 100000 in
theorem k_NS_add (l : Launch) (G : gP) (ad : Nat → Nat) (σ : Nat → Nat → Int32) (τ : Nat → Nat → Int64) (i : Nat) (hi : i < 4) (a : Int32) : gim l y_NS_add c_NS_add 2 none { frames := 0, cells := 0, slots := 0, locals := 0 } G ad σ τ [.ref (ad (63 + i)), .int a] 0 0 (fun v σ1 τ1 => v = none ∧ σ1 = σ ∧ τ1 = nsa τ (63 + i) a) (fun _ => False) := by
  refine gs_of (fun _ h => h) (by decide) (Nat.le_of_ble_eq_true rfl) ?_
  intro p e s m args below meth c ls S hk hr hx hl hO
  have hl : lv_has ls 2 [(0, .ref (ad (63 + i))), (1, .int a)] := hl
  refine lv_iload_n S.1 S.2.1 d_NS_add_0 rfl (lv_at hl 1 rfl) ?_
  refine lv_bipush (v := 64) S.1 S.2.1 d_NS_add_1 (by decide) ?_
  refine lv_icmp_ge (tgt := 21) S.1 S.2.1 d_NS_add_3 (by decide) (fun c_3 => ?_) (fun c_3 => ?_)
  · skip
    refine lv_aload_n S.1 S.2.1 d_NS_add_21 rfl (lv_at hl 0 rfl) ?_
    refine lv_dup S.1 S.2.1 d_NS_add_22 rfl ?_
    refine g_get S hO fl_NS_13 (by omega) (sh_NS G ad _ _ (by omega)) (v := .long (τ (63 + i) 1)) rfl d_NS_add_23 ?_
    refine lv_lconst (v := 1) S.1 S.2.1 d_NS_add_26 (by decide) ?_
    refine lv_iload_n S.1 S.2.1 d_NS_add_27 rfl (lv_at hl 1 rfl) ?_
    refine lv_bipush (v := 64) S.1 S.2.1 d_NS_add_28 (by decide) ?_
    refine lv_isub S.1 S.2.1 d_NS_add_30 ?_
    refine lv_lshl (v := 1 <<< ((a - 64).toInt64 &&& 63)) S.1 S.2.1 d_NS_add_31 rfl ?_
    refine lv_lor S.1 S.2.1 d_NS_add_32 ?_
    obtain ⟨t_1, ht_1⟩ : ∃ z : Nat → Nat → Int64, z = up2L τ (63 + i) 1 ((τ (63 + i) 1) ||| (1 <<< ((a - 64).toInt64 &&& 63))) := ⟨_, rfl⟩
    refine g_put S hO (fun _ h => h) fp_NS_13 (by omega) (sh_NS G ad _ _ (by omega)) (v := .long ((τ (63 + i) 1) ||| (1 <<< ((a - 64).toInt64 &&& 63)))) rfl rfl (Nat.le_of_ble_eq_true rfl) (E2 := enc G ad σ t_1) (by rw [ht_1]; exact enc_l (sh_NS G ad _ _ (by omega))) d_NS_add_33 (fun H locs hO => ?_)
    subst ht_1
    exact im_v S hk hr hO ⟨rfl, rfl, by first | rw [nsa, if_pos c_3] | rw [nsa, if_neg c_3]⟩ (Nat.le_of_ble_eq_true rfl) (Nat.le_of_ble_eq_true rfl) d_NS_add_36
  · skip
    refine lv_aload_n S.1 S.2.1 d_NS_add_6 rfl (lv_at hl 0 rfl) ?_
    refine lv_dup S.1 S.2.1 d_NS_add_7 rfl ?_
    refine g_get S hO fl_NS_7 (by omega) (sh_NS G ad _ _ (by omega)) (v := .long (τ (63 + i) 0)) rfl d_NS_add_8 ?_
    refine lv_lconst (v := 1) S.1 S.2.1 d_NS_add_11 (by decide) ?_
    refine lv_iload_n S.1 S.2.1 d_NS_add_12 rfl (lv_at hl 1 rfl) ?_
    refine lv_lshl (v := 1 <<< (a.toInt64 &&& 63)) S.1 S.2.1 d_NS_add_13 rfl ?_
    refine lv_lor S.1 S.2.1 d_NS_add_14 ?_
    obtain ⟨t_2, ht_2⟩ : ∃ z : Nat → Nat → Int64, z = up2L τ (63 + i) 0 ((τ (63 + i) 0) ||| (1 <<< (a.toInt64 &&& 63))) := ⟨_, rfl⟩
    refine g_put S hO (fun _ h => h) fp_NS_7 (by omega) (sh_NS G ad _ _ (by omega)) (v := .long ((τ (63 + i) 0) ||| (1 <<< (a.toInt64 &&& 63)))) rfl rfl (Nat.le_of_ble_eq_true rfl) (E2 := enc G ad σ t_2) (by rw [ht_2]; exact enc_l (sh_NS G ad _ _ (by omega))) d_NS_add_15 (fun H locs hO => ?_)
    refine lv_goto (tgt := 36) S.1 S.2.1 d_NS_add_18 (by decide) ?_
    subst ht_2
    exact im_v S hk hr hO ⟨rfl, rfl, by first | rw [nsa, if_pos c_3] | rw [nsa, if_neg c_3]⟩ (Nat.le_of_ble_eq_true rfl) (Nat.le_of_ble_eq_true rfl) d_NS_add_36
set_option maxHeartbeats 4000000 in
set_option maxRecDepth 100000 in
theorem k_NS_holdOnly (l : Launch) (G : gP) (ad : Nat → Nat) (σ : Nat → Nat → Int32) (τ : Nat → Nat → Int64) (i : Nat) (hi : i < 4) (a : Int32) : gim l y_NS_holdOnly c_NS_holdOnly 2 none { frames := 1, cells := 0, slots := 0, locals := 21 } G ad σ τ [.ref (ad (63 + i)), .int a] 0 0 (fun v σ1 τ1 => v = none ∧ σ1 = σ ∧ τ1 = nsa (up2L (up2L τ (63 + i) 0 0) (63 + i) 1 0) (63 + i) a) (fun _ => False) := by
  refine gs_of (fun _ h => h) (by decide) (Nat.le_of_ble_eq_true rfl) ?_
  intro p e s m args below meth c ls S hk hr hx hl hO
  have hl : lv_has ls 2 [(0, .ref (ad (63 + i))), (1, .int a)] := hl
  refine lv_aload_n S.1 S.2.1 d_NS_holdOnly_0 rfl (lv_at hl 0 rfl) ?_
  refine g_VI (As := []) (rest := []) S hO (fun _ h => h) (k_NS_clear l G ad σ τ i (by omega)) cw_NS_16 (by omega) (sh_NS G ad _ _ (by omega)) rfl rfl hl.1 (Nat.le_of_ble_eq_true rfl) ⟨(Nat.le_of_ble_eq_true rfl), (Nat.le_of_ble_eq_true rfl)⟩ ⟨(Nat.le_of_ble_eq_true rfl), (Nat.le_of_ble_eq_true rfl)⟩ d_NS_holdOnly_1 (fun q x ce H locs h9 => h9.elim) (fun v E1 H locs v_1 hO => ?_)
  obtain ⟨s_2, t_3, rfl, rfl, hs_2, ht_3⟩ := v_1
  rw [hs_2] at hO
  refine W.eq (g2 := F0 m 4 ls []) rfl ?_
  refine lv_aload_n S.1 S.2.1 d_NS_holdOnly_4 rfl (lv_at hl 0 rfl) ?_
  refine lv_iload_n S.1 S.2.1 d_NS_holdOnly_5 rfl (lv_at hl 1 rfl) ?_
  refine g_VI (As := [.int a]) (rest := []) S hO (fun _ h => h) (k_NS_add l G ad σ t_3 i (by omega) a) cw_NS_19 (by omega) (sh_NS G ad _ _ (by omega)) rfl rfl hl.1 (Nat.le_of_ble_eq_true rfl) ⟨(Nat.le_of_ble_eq_true rfl), (Nat.le_of_ble_eq_true rfl)⟩ ⟨(Nat.le_of_ble_eq_true rfl), (Nat.le_of_ble_eq_true rfl)⟩ d_NS_holdOnly_6 (fun q x ce H locs h9 => h9.elim) (fun v E1 H locs v_4 hO => ?_)
  obtain ⟨s_5, t_6, rfl, rfl, hs_5, ht_6⟩ := v_4
  rw [hs_5] at hO
  refine W.eq (g2 := F0 m 9 ls []) rfl ?_
  subst ht_6
  subst ht_3
  exact im_v S hk hr hO ⟨rfl, rfl, rfl⟩ (Nat.le_of_ble_eq_true rfl) (Nat.le_of_ble_eq_true rfl) d_NS_holdOnly_9
abbrev nsh (τ : Nat → Nat → Int64) (k : Nat) (a : Int32) : Prop := ¬ ((if 64 ≤ a then ((τ k 1).toUInt64 >>> ((a - 64).toInt64.toUInt64 &&& Int64.toUInt64 63)).toInt64 else ((τ k 0).toUInt64 >>> (a.toInt64.toUInt64 &&& Int64.toUInt64 63)).toInt64) &&& 1) = 0
theorem lg0 {x y : Int64} : lg_cmp x y = 0 ↔ x = y := by
  unfold lg_cmp
  by_cases h1 : x > y
  · rw [if_pos h1]
    refine ⟨fun z => absurd z (by decide), fun z => ?_⟩
    subst z
    exact (Int64.lt_irrefl h1).elim
  · rw [if_neg h1]
    by_cases h2 : x = y
    · rw [if_pos h2]
      exact ⟨fun _ => h2, fun _ => rfl⟩
    · rw [if_neg h2]
      exact ⟨fun z => absurd z (by decide), fun z => absurd z h2⟩
set_option maxHeartbeats 4000000 in
set_option maxRecDepth 100000 in
theorem k_NS_has (l : Launch) (G : gP) (ad : Nat → Nat) (σ : Nat → Nat → Int32) (τ : Nat → Nat → Int64) (i : Nat) (hi : i < 4) (a : Int32) : gpu l y_NS_has c_NS_has 4 (some .boolean) { frames := 0, cells := 0, slots := 0, locals := 0 } G ad σ τ [.ref (ad (63 + i)), .int a] 0 0 (fun v => v = some (.int (if nsh τ (63 + i) a then 1 else 0))) (fun _ => False) := by
  refine gs_of (fun _ h => h.elim) (by decide) (Nat.le_of_ble_eq_true rfl) ?_
  intro p e s m args below meth c ls S hk hr hx hl hO
  have hl : lv_has ls 4 [(0, .ref (ad (63 + i))), (1, .int a)] := hl
  refine lv_iload_n S.1 S.2.1 d_NS_has_0 rfl (lv_at hl 1 rfl) ?_
  refine lv_bipush (v := 64) S.1 S.2.1 d_NS_has_1 (by decide) ?_
  refine lv_icmp_ge (tgt := 15) S.1 S.2.1 d_NS_has_3 (by decide) (fun c_3 => ?_) (fun c_3 => ?_)
  · skip
    refine lv_aload_n S.1 S.2.1 d_NS_has_15 rfl (lv_at hl 0 rfl) ?_
    refine g_get S hO fl_NS_13 (by omega) (sh_NS G ad _ _ (by omega)) (v := .long (τ (63 + i) 1)) rfl d_NS_has_16 ?_
    refine lv_iload_n S.1 S.2.1 d_NS_has_19 rfl (lv_at hl 1 rfl) ?_
    refine lv_bipush (v := 64) S.1 S.2.1 d_NS_has_20 (by decide) ?_
    refine lv_isub S.1 S.2.1 d_NS_has_22 ?_
    refine lv_lushr (v := ((τ (63 + i) 1).toUInt64 >>> ((a - 64).toInt64.toUInt64 &&& Int64.toUInt64 63)).toInt64) S.1 S.2.1 d_NS_has_23 rfl ?_
    refine lv_lstore_n (lv' := [(2, .long (((τ (63 + i) 1).toUInt64 >>> ((a - 64).toInt64.toUInt64 &&& Int64.toUInt64 63)).toInt64)), (0, .ref (ad (63 + i))), (1, .int a)]) S.1 S.2.1 d_NS_has_24 rfl hl (by decide) rfl (fun ls hl => ?_)
    refine lv_lload_n S.1 S.2.1 d_NS_has_25 rfl (lv_at hl 0 rfl) ?_
    refine lv_lconst (v := 1) S.1 S.2.1 d_NS_has_26 (by decide) ?_
    refine lv_land S.1 S.2.1 d_NS_has_27 ?_
    refine lv_lconst (v := 0) S.1 S.2.1 d_NS_has_28 (by decide) ?_
    refine W.lcmp S.1 S.2.1 d_NS_has_29 ?_
    refine lv_if_eq (tgt := 37) S.1 S.2.1 d_NS_has_30 (by decide) (fun c_30 => ?_) (fun c_30 => ?_)
    · skip
      refine lv_iconst (v := 0) S.1 S.2.1 d_NS_has_37 (by decide) ?_
      exact pu_z S hk hr hO (by first | exact Or.inl rfl | exact Or.inr rfl) (by first | (refine z_n (fun z => z ?_); first | (rw [if_pos c_3]; exact lg0.mp c_30) | (rw [if_neg c_3]; exact lg0.mp c_30)) | (refine z_p (fun z => c_30 (lg0.mpr ?_)); first | (rw [if_pos c_3] at z; exact z) | (rw [if_neg c_3] at z; exact z))) (Nat.le_of_ble_eq_true rfl) (Nat.le_of_ble_eq_true rfl) d_NS_has_38
    · skip
      refine lv_iconst (v := 1) S.1 S.2.1 d_NS_has_33 (by decide) ?_
      refine lv_goto (tgt := 38) S.1 S.2.1 d_NS_has_34 (by decide) ?_
      exact pu_z S hk hr hO (by first | exact Or.inl rfl | exact Or.inr rfl) (by first | (refine z_n (fun z => z ?_); first | (rw [if_pos c_3]; exact lg0.mp c_30) | (rw [if_neg c_3]; exact lg0.mp c_30)) | (refine z_p (fun z => c_30 (lg0.mpr ?_)); first | (rw [if_pos c_3] at z; exact z) | (rw [if_neg c_3] at z; exact z))) (Nat.le_of_ble_eq_true rfl) (Nat.le_of_ble_eq_true rfl) d_NS_has_38
  · skip
    refine lv_aload_n S.1 S.2.1 d_NS_has_6 rfl (lv_at hl 0 rfl) ?_
    refine g_get S hO fl_NS_7 (by omega) (sh_NS G ad _ _ (by omega)) (v := .long (τ (63 + i) 0)) rfl d_NS_has_7 ?_
    refine lv_iload_n S.1 S.2.1 d_NS_has_10 rfl (lv_at hl 1 rfl) ?_
    refine lv_lushr (v := ((τ (63 + i) 0).toUInt64 >>> (a.toInt64.toUInt64 &&& Int64.toUInt64 63)).toInt64) S.1 S.2.1 d_NS_has_11 rfl ?_
    refine lv_goto (tgt := 24) S.1 S.2.1 d_NS_has_12 (by decide) ?_
    refine lv_lstore_n (lv' := [(2, .long (((τ (63 + i) 0).toUInt64 >>> (a.toInt64.toUInt64 &&& Int64.toUInt64 63)).toInt64)), (0, .ref (ad (63 + i))), (1, .int a)]) S.1 S.2.1 d_NS_has_24 rfl hl (by decide) rfl (fun ls hl => ?_)
    refine lv_lload_n S.1 S.2.1 d_NS_has_25 rfl (lv_at hl 0 rfl) ?_
    refine lv_lconst (v := 1) S.1 S.2.1 d_NS_has_26 (by decide) ?_
    refine lv_land S.1 S.2.1 d_NS_has_27 ?_
    refine lv_lconst (v := 0) S.1 S.2.1 d_NS_has_28 (by decide) ?_
    refine W.lcmp S.1 S.2.1 d_NS_has_29 ?_
    refine lv_if_eq (tgt := 37) S.1 S.2.1 d_NS_has_30 (by decide) (fun c_30 => ?_) (fun c_30 => ?_)
    · skip
      refine lv_iconst (v := 0) S.1 S.2.1 d_NS_has_37 (by decide) ?_
      exact pu_z S hk hr hO (by first | exact Or.inl rfl | exact Or.inr rfl) (by first | (refine z_n (fun z => z ?_); first | (rw [if_pos c_3]; exact lg0.mp c_30) | (rw [if_neg c_3]; exact lg0.mp c_30)) | (refine z_p (fun z => c_30 (lg0.mpr ?_)); first | (rw [if_pos c_3] at z; exact z) | (rw [if_neg c_3] at z; exact z))) (Nat.le_of_ble_eq_true rfl) (Nat.le_of_ble_eq_true rfl) d_NS_has_38
    · skip
      refine lv_iconst (v := 1) S.1 S.2.1 d_NS_has_33 (by decide) ?_
      refine lv_goto (tgt := 38) S.1 S.2.1 d_NS_has_34 (by decide) ?_
      exact pu_z S hk hr hO (by first | exact Or.inl rfl | exact Or.inr rfl) (by first | (refine z_n (fun z => z ?_); first | (rw [if_pos c_3]; exact lg0.mp c_30) | (rw [if_neg c_3]; exact lg0.mp c_30)) | (refine z_p (fun z => c_30 (lg0.mpr ?_)); first | (rw [if_pos c_3] at z; exact z) | (rw [if_neg c_3] at z; exact z))) (Nat.le_of_ble_eq_true rfl) (Nat.le_of_ble_eq_true rfl) d_NS_has_38
