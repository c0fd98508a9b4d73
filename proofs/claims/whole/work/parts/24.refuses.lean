/-! A rule refuses. Written by wip/tools/m24.py. -/
abbrev rf0 (σ : Nat → Nat → Int32) (τ : Nat → Nat → Int64) (r : Nat) : Prop := (σ (9 + r) 2 = 0 ∧ σ 62 0 = 0) ∨ (¬ σ (9 + r) 2 = 0 ∧ σ 62 1 = 0)
abbrev rf1 (σ : Nat → Nat → Int32) (τ : Nat → Nat → Int64) (r : Nat) : Prop := σ 62 3 - σ (9 + r) 2 < σ 62 6 + σ 62 11
abbrev rf2 (σ : Nat → Nat → Int32) (τ : Nat → Nat → Int64) (r : Nat) : Prop := σ (9 + r) 2 < bcF (τ 63 0) + bcF (τ 63 1)
abbrev rf3 (σ : Nat → Nat → Int32) (τ : Nat → Nat → Int64) (r : Nat) : Prop := σ (9 + r) 2 < bcF (τ 64 0) + bcF (τ 64 1)
abbrev rf4 (σ : Nat → Nat → Int32) (τ : Nat → Nat → Int64) (r : Nat) : Prop := σ (9 + r) 2 < bcF (τ 65 0) + bcF (τ 65 1)
abbrev rf5 (σ : Nat → Nat → Int32) (τ : Nat → Nat → Int64) (r : Nat) : Prop := (σ 62 7 = σ (9 + r) 2 ∧ nsh τ 66 (σ (9 + r) 3)) ∨ (σ 62 7 = σ (9 + r) 3 ∧ nsh τ 66 (σ (9 + r) 2))
abbrev rf6 (σ : Nat → Nat → Int32) (τ : Nat → Nat → Int64) (r : Nat) : Prop := σ 62 8 = σ (9 + r) 2 ∧ ¬ σ 62 4 = σ (9 + r) 3
abbrev rf7 (σ : Nat → Nat → Int32) (τ : Nat → Nat → Int64) (r : Nat) : Prop := σ (9 + r) 2 < σ 62 10
abbrev rf8 (σ : Nat → Nat → Int32) (τ : Nat → Nat → Int64) (r : Nat) : Prop := σ (9 + r) 2 < σ 62 13 - σ 62 12
abbrev rf9 (σ : Nat → Nat → Int32) (τ : Nat → Nat → Int64) (r : Nat) : Prop := σ 62 9 - σ 62 2 < σ (9 + r) 2
abbrev rf10 (σ : Nat → Nat → Int32) (τ : Nat → Nat → Int64) (r : Nat) : Prop := owR σ (σ (9 + r) 2).toNatClampNeg
abbrev rfP (σ : Nat → Nat → Int32) (τ : Nat → Nat → Int64) (r k : Nat) : Prop := (k = 0 ∧ rf0 σ τ r) ∨ (k = 1 ∧ rf1 σ τ r) ∨ (k = 2 ∧ rf2 σ τ r) ∨ (k = 3 ∧ rf3 σ τ r) ∨ (k = 4 ∧ rf4 σ τ r) ∨ (k = 5 ∧ rf5 σ τ r) ∨ (k = 6 ∧ rf6 σ τ r) ∨ (k = 7 ∧ rf7 σ τ r) ∨ (k = 8 ∧ rf8 σ τ r) ∨ (k = 9 ∧ rf9 σ τ r) ∨ (k = 10 ∧ rf10 σ τ r)
theorem rfP_0 {σ : Nat → Nat → Int32} {τ : Nat → Nat → Int64} {r : Nat} : rfP σ τ r 0 ↔ rf0 σ τ r := by
  refine ⟨fun h => ?_, fun h => Or.inl ⟨rfl, h⟩⟩
  rcases h with ⟨h, q⟩ | ⟨h, q⟩ | ⟨h, q⟩ | ⟨h, q⟩ | ⟨h, q⟩ | ⟨h, q⟩ | ⟨h, q⟩ | ⟨h, q⟩ | ⟨h, q⟩ | ⟨h, q⟩ | ⟨h, q⟩
  · exact q
  · exact absurd h (by decide)
  · exact absurd h (by decide)
  · exact absurd h (by decide)
  · exact absurd h (by decide)
  · exact absurd h (by decide)
  · exact absurd h (by decide)
  · exact absurd h (by decide)
  · exact absurd h (by decide)
  · exact absurd h (by decide)
  · exact absurd h (by decide)
theorem rfP_1 {σ : Nat → Nat → Int32} {τ : Nat → Nat → Int64} {r : Nat} : rfP σ τ r 1 ↔ rf1 σ τ r := by
  refine ⟨fun h => ?_, fun h => Or.inr (Or.inl ⟨rfl, h⟩)⟩
  rcases h with ⟨h, q⟩ | ⟨h, q⟩ | ⟨h, q⟩ | ⟨h, q⟩ | ⟨h, q⟩ | ⟨h, q⟩ | ⟨h, q⟩ | ⟨h, q⟩ | ⟨h, q⟩ | ⟨h, q⟩ | ⟨h, q⟩
  · exact absurd h (by decide)
  · exact q
  · exact absurd h (by decide)
  · exact absurd h (by decide)
  · exact absurd h (by decide)
  · exact absurd h (by decide)
  · exact absurd h (by decide)
  · exact absurd h (by decide)
  · exact absurd h (by decide)
  · exact absurd h (by decide)
  · exact absurd h (by decide)
theorem rfP_2 {σ : Nat → Nat → Int32} {τ : Nat → Nat → Int64} {r : Nat} : rfP σ τ r 2 ↔ rf2 σ τ r := by
  refine ⟨fun h => ?_, fun h => Or.inr (Or.inr (Or.inl ⟨rfl, h⟩))⟩
  rcases h with ⟨h, q⟩ | ⟨h, q⟩ | ⟨h, q⟩ | ⟨h, q⟩ | ⟨h, q⟩ | ⟨h, q⟩ | ⟨h, q⟩ | ⟨h, q⟩ | ⟨h, q⟩ | ⟨h, q⟩ | ⟨h, q⟩
  · exact absurd h (by decide)
  · exact absurd h (by decide)
  · exact q
  · exact absurd h (by decide)
  · exact absurd h (by decide)
  · exact absurd h (by decide)
  · exact absurd h (by decide)
  · exact absurd h (by decide)
  · exact absurd h (by decide)
  · exact absurd h (by decide)
  · exact absurd h (by decide)
theorem rfP_3 {σ : Nat → Nat → Int32} {τ : Nat → Nat → Int64} {r : Nat} : rfP σ τ r 3 ↔ rf3 σ τ r := by
  refine ⟨fun h => ?_, fun h => Or.inr (Or.inr (Or.inr (Or.inl ⟨rfl, h⟩)))⟩
  rcases h with ⟨h, q⟩ | ⟨h, q⟩ | ⟨h, q⟩ | ⟨h, q⟩ | ⟨h, q⟩ | ⟨h, q⟩ | ⟨h, q⟩ | ⟨h, q⟩ | ⟨h, q⟩ | ⟨h, q⟩ | ⟨h, q⟩
  · exact absurd h (by decide)
  · exact absurd h (by decide)
  · exact absurd h (by decide)
  · exact q
  · exact absurd h (by decide)
  · exact absurd h (by decide)
  · exact absurd h (by decide)
  · exact absurd h (by decide)
  · exact absurd h (by decide)
  · exact absurd h (by decide)
  · exact absurd h (by decide)
theorem rfP_4 {σ : Nat → Nat → Int32} {τ : Nat → Nat → Int64} {r : Nat} : rfP σ τ r 4 ↔ rf4 σ τ r := by
  refine ⟨fun h => ?_, fun h => Or.inr (Or.inr (Or.inr (Or.inr (Or.inl ⟨rfl, h⟩))))⟩
  rcases h with ⟨h, q⟩ | ⟨h, q⟩ | ⟨h, q⟩ | ⟨h, q⟩ | ⟨h, q⟩ | ⟨h, q⟩ | ⟨h, q⟩ | ⟨h, q⟩ | ⟨h, q⟩ | ⟨h, q⟩ | ⟨h, q⟩
  · exact absurd h (by decide)
  · exact absurd h (by decide)
  · exact absurd h (by decide)
  · exact absurd h (by decide)
  · exact q
  · exact absurd h (by decide)
  · exact absurd h (by decide)
  · exact absurd h (by decide)
  · exact absurd h (by decide)
  · exact absurd h (by decide)
  · exact absurd h (by decide)
theorem rfP_5 {σ : Nat → Nat → Int32} {τ : Nat → Nat → Int64} {r : Nat} : rfP σ τ r 5 ↔ rf5 σ τ r := by
  refine ⟨fun h => ?_, fun h => Or.inr (Or.inr (Or.inr (Or.inr (Or.inr (Or.inl ⟨rfl, h⟩)))))⟩
  rcases h with ⟨h, q⟩ | ⟨h, q⟩ | ⟨h, q⟩ | ⟨h, q⟩ | ⟨h, q⟩ | ⟨h, q⟩ | ⟨h, q⟩ | ⟨h, q⟩ | ⟨h, q⟩ | ⟨h, q⟩ | ⟨h, q⟩
  · exact absurd h (by decide)
  · exact absurd h (by decide)
  · exact absurd h (by decide)
  · exact absurd h (by decide)
  · exact absurd h (by decide)
  · exact q
  · exact absurd h (by decide)
  · exact absurd h (by decide)
  · exact absurd h (by decide)
  · exact absurd h (by decide)
  · exact absurd h (by decide)
theorem rfP_6 {σ : Nat → Nat → Int32} {τ : Nat → Nat → Int64} {r : Nat} : rfP σ τ r 6 ↔ rf6 σ τ r := by
  refine ⟨fun h => ?_, fun h => Or.inr (Or.inr (Or.inr (Or.inr (Or.inr (Or.inr (Or.inl ⟨rfl, h⟩))))))⟩
  rcases h with ⟨h, q⟩ | ⟨h, q⟩ | ⟨h, q⟩ | ⟨h, q⟩ | ⟨h, q⟩ | ⟨h, q⟩ | ⟨h, q⟩ | ⟨h, q⟩ | ⟨h, q⟩ | ⟨h, q⟩ | ⟨h, q⟩
  · exact absurd h (by decide)
  · exact absurd h (by decide)
  · exact absurd h (by decide)
  · exact absurd h (by decide)
  · exact absurd h (by decide)
  · exact absurd h (by decide)
  · exact q
  · exact absurd h (by decide)
  · exact absurd h (by decide)
  · exact absurd h (by decide)
  · exact absurd h (by decide)
theorem rfP_7 {σ : Nat → Nat → Int32} {τ : Nat → Nat → Int64} {r : Nat} : rfP σ τ r 7 ↔ rf7 σ τ r := by
  refine ⟨fun h => ?_, fun h => Or.inr (Or.inr (Or.inr (Or.inr (Or.inr (Or.inr (Or.inr (Or.inl ⟨rfl, h⟩)))))))⟩
  rcases h with ⟨h, q⟩ | ⟨h, q⟩ | ⟨h, q⟩ | ⟨h, q⟩ | ⟨h, q⟩ | ⟨h, q⟩ | ⟨h, q⟩ | ⟨h, q⟩ | ⟨h, q⟩ | ⟨h, q⟩ | ⟨h, q⟩
  · exact absurd h (by decide)
  · exact absurd h (by decide)
  · exact absurd h (by decide)
  · exact absurd h (by decide)
  · exact absurd h (by decide)
  · exact absurd h (by decide)
  · exact absurd h (by decide)
  · exact q
  · exact absurd h (by decide)
  · exact absurd h (by decide)
  · exact absurd h (by decide)
theorem rfP_8 {σ : Nat → Nat → Int32} {τ : Nat → Nat → Int64} {r : Nat} : rfP σ τ r 8 ↔ rf8 σ τ r := by
  refine ⟨fun h => ?_, fun h => Or.inr (Or.inr (Or.inr (Or.inr (Or.inr (Or.inr (Or.inr (Or.inr (Or.inl ⟨rfl, h⟩))))))))⟩
  rcases h with ⟨h, q⟩ | ⟨h, q⟩ | ⟨h, q⟩ | ⟨h, q⟩ | ⟨h, q⟩ | ⟨h, q⟩ | ⟨h, q⟩ | ⟨h, q⟩ | ⟨h, q⟩ | ⟨h, q⟩ | ⟨h, q⟩
  · exact absurd h (by decide)
  · exact absurd h (by decide)
  · exact absurd h (by decide)
  · exact absurd h (by decide)
  · exact absurd h (by decide)
  · exact absurd h (by decide)
  · exact absurd h (by decide)
  · exact absurd h (by decide)
  · exact q
  · exact absurd h (by decide)
  · exact absurd h (by decide)
theorem rfP_9 {σ : Nat → Nat → Int32} {τ : Nat → Nat → Int64} {r : Nat} : rfP σ τ r 9 ↔ rf9 σ τ r := by
  refine ⟨fun h => ?_, fun h => Or.inr (Or.inr (Or.inr (Or.inr (Or.inr (Or.inr (Or.inr (Or.inr (Or.inr (Or.inl ⟨rfl, h⟩)))))))))⟩
  rcases h with ⟨h, q⟩ | ⟨h, q⟩ | ⟨h, q⟩ | ⟨h, q⟩ | ⟨h, q⟩ | ⟨h, q⟩ | ⟨h, q⟩ | ⟨h, q⟩ | ⟨h, q⟩ | ⟨h, q⟩ | ⟨h, q⟩
  · exact absurd h (by decide)
  · exact absurd h (by decide)
  · exact absurd h (by decide)
  · exact absurd h (by decide)
  · exact absurd h (by decide)
  · exact absurd h (by decide)
  · exact absurd h (by decide)
  · exact absurd h (by decide)
  · exact absurd h (by decide)
  · exact q
  · exact absurd h (by decide)
theorem rfP_10 {σ : Nat → Nat → Int32} {τ : Nat → Nat → Int64} {r : Nat} : rfP σ τ r 10 ↔ rf10 σ τ r := by
  refine ⟨fun h => ?_, fun h => Or.inr (Or.inr (Or.inr (Or.inr (Or.inr (Or.inr (Or.inr (Or.inr (Or.inr (Or.inr (⟨rfl, h⟩))))))))))⟩
  rcases h with ⟨h, q⟩ | ⟨h, q⟩ | ⟨h, q⟩ | ⟨h, q⟩ | ⟨h, q⟩ | ⟨h, q⟩ | ⟨h, q⟩ | ⟨h, q⟩ | ⟨h, q⟩ | ⟨h, q⟩ | ⟨h, q⟩
  · exact absurd h (by decide)
  · exact absurd h (by decide)
  · exact absurd h (by decide)
  · exact absurd h (by decide)
  · exact absurd h (by decide)
  · exact absurd h (by decide)
  · exact absurd h (by decide)
  · exact absurd h (by decide)
  · exact absurd h (by decide)
  · exact absurd h (by decide)
  · exact q
def rfS (σ : Nat → Nat → Int32) (r k : Nat) : Nat → Nat → Int32 := if k = 10 then owS σ (σ (9 + r) 2).toNatClampNeg else σ
theorem rf10_c {σ : Nat → Nat → Int32} {τ : Nat → Nat → Int64} {r j : Nat} (hj : σ (9 + r) 2 = nI j) (h4 : j < 4) : some (Value.int (if owR σ j then 1 else 0)) = some (Value.int (if rfP σ τ r 10 then 1 else 0)) := by
  have e9 : (σ (9 + r) 2).toNatClampNeg = j := by rw [hj]; exact nI_clamp (by omega)
  have e8 : rf10 σ τ r ↔ owR σ j := by rw [rf10, e9]
  by_cases z9 : owR σ j
  · rw [if_pos z9]
    exact z_p (rfP_10.mpr (e8.mpr z9))
  · rw [if_neg z9]
    exact z_n (fun z => z9 (e8.mp (rfP_10.mp z)))
theorem sw11 {k : Nat} (h : k < 11) (w0 : ¬ nI (k + 1) = 1) (w1 : ¬ nI (k + 1) = 2) (w2 : ¬ nI (k + 1) = 3) (w3 : ¬ nI (k + 1) = 4) (w4 : ¬ nI (k + 1) = 5) (w5 : ¬ nI (k + 1) = 6) (w6 : ¬ nI (k + 1) = 7) (w7 : ¬ nI (k + 1) = 8) (w8 : ¬ nI (k + 1) = 9) (w9 : ¬ nI (k + 1) = 10) (w10 : ¬ nI (k + 1) = 11) : False := by
  rcases (show k = 0 ∨ k = 1 ∨ k = 2 ∨ k = 3 ∨ k = 4 ∨ k = 5 ∨ k = 6 ∨ k = 7 ∨ k = 8 ∨ k = 9 ∨ k = 10 by omega) with rfl | rfl | rfl | rfl | rfl | rfl | rfl | rfl | rfl | rfl | rfl
  · exact w0 rfl
  · exact w1 rfl
  · exact w2 rfl
  · exact w3 rfl
  · exact w4 rfl
  · exact w5 rfl
  · exact w6 rfl
  · exact w7 rfl
  · exact w8 rfl
  · exact w9 rfl
  · exact w10 rfl
set_option maxHeartbeats 4000000 in
set_option maxRecDepth 100000 in
theorem k_RU_refuses (l : Launch) (G : gP) (ad : Nat → Nat) (σ : Nat → Nat → Int32) (τ : Nat → Nat → Int64) (r : Nat) (hr24 : r < 24) (k : Nat) (hk11 : k < 11) (hk9 : σ (9 + r) 1 = nI k) (hown10 : k = 10 → ∃ j : Nat, j < 4 ∧ σ (9 + r) 2 = nI j) : gim l y_RU_refuses c_RU_refuses 3 (some .boolean) { frames := 2, cells := 0, slots := 0, locals := 45 } G ad σ τ [.ref (ad (9 + r)), .ref (ad 62), .ref (ad 33)] 0 0 (fun v σ1 τ1 => v = some (.int (if rfP σ τ r k then 1 else 0)) ∧ σ1 = rfS σ r k ∧ τ1 = τ) (fun _ => False) := by
  refine gs_of (fun _ h => h) (by decide) (Nat.le_of_ble_eq_true rfl) ?_
  intro p e s m args below meth c ls S hk hr hx hl hO
  have hl : lv_has ls 3 [(0, .ref (ad (9 + r))), (1, .ref (ad 62)), (2, .ref (ad 33))] := hl
  refine va_gets S.1 S.2.1 hO.2.2.2.2.2.2.2.2.2.2.2.2.1 hO.SG S.2.2.2.1 (S.2.2.2.2 _ kf_RU_18) (fun _ h => h) d_RU_refuses_0 ?_
  refine lv_aload_n S.1 S.2.1 d_RU_refuses_3 rfl (lv_at hl 0 rfl) ?_
  refine g_get S hO fl_RU_13 (by omega) (sh_RU G ad _ _ (by omega)) (v := .ref (ga G ((σ (9 + r) 1).toNatClampNeg))) rfl d_RU_refuses_4 ?_
  refine W.eq (g2 := F0 m 7 ls [.ref (ga G k), .ref (ga G 12)]) (by rw [hk9, nI_clamp (by omega)]) ?_
  refine g_ord (rest := [.ref (ga G 12)]) S hO (i := k) (by omega) hl.1 (Nat.le_of_ble_eq_true rfl) ⟨(Nat.le_of_ble_eq_true rfl), (Nat.le_of_ble_eq_true rfl)⟩ ⟨(Nat.le_of_ble_eq_true rfl), (Nat.le_of_ble_eq_true rfl)⟩ d_RU_refuses_7 (fun H hO => ?_)
  refine va_ti S.1 S.2.1 hO.2.2.2.2.2.2.2.2.2.2.2.2.2.1 hO.SG (vp_in_nI hk11 (by decide)) (v := .int (nI (k + 1))) (by rw [nI_clamp (by omega)]) d_RU_refuses_10 ?_
  by_cases w_11_0 : nI (k + 1) = 1
  · refine W.eq (g2 := F0 m 11 ls [.int 1]) (by rw [w_11_0]) ?_
    refine lv_tableIn (tgt := 68) S.1 S.2.1 d_RU_refuses_11 (by decide) (by decide) rfl (by decide) ?_
    obtain rfl : k = 0 := by
      have h9 : nI (k + 1) = nI 1 := w_11_0
      have h8 := (nI_eq (by omega) (by decide)).mp h9
      omega
    refine lv_aload_n S.1 S.2.1 d_RU_refuses_68 rfl (lv_at hl 0 rfl) ?_
    refine g_get S hO fl_RU_28 (by omega) (sh_RU G ad _ _ (by omega)) (v := .int (σ (9 + r) 2)) rfl d_RU_refuses_69 ?_
    refine lv_if_ne (tgt := 90) S.1 S.2.1 d_RU_refuses_72 (by decide) (fun c_72 => ?_) (fun c_72 => ?_)
    · skip
      refine lv_aload_n S.1 S.2.1 d_RU_refuses_90 rfl (lv_at hl 1 rfl) ?_
      refine g_get S hO fl_RU_38 (by decide) (sh_62 G ad _ _) (v := .int (σ 62 1)) rfl d_RU_refuses_91 ?_
      refine lv_if_ne (tgt := 101) S.1 S.2.1 d_RU_refuses_94 (by decide) (fun c_94 => ?_) (fun c_94 => ?_)
      · skip
        refine lv_iconst (v := 0) S.1 S.2.1 d_RU_refuses_101 (by decide) ?_
        exact im_z S hk hr hO (by first | exact Or.inl rfl | exact Or.inr rfl) ⟨(by exact z_n (fun z => (fun z => z.elim (fun q => c_72 q.1) (fun q => c_94 q.2)) (rfP_0.mp z))), by rw [rfS, if_neg (by decide)], rfl⟩ (Nat.le_of_ble_eq_true rfl) (Nat.le_of_ble_eq_true rfl) d_RU_refuses_102
      · skip
        refine lv_iconst (v := 1) S.1 S.2.1 d_RU_refuses_97 (by decide) ?_
        refine lv_goto (tgt := 102) S.1 S.2.1 d_RU_refuses_98 (by decide) ?_
        exact im_z S hk hr hO (by first | exact Or.inl rfl | exact Or.inr rfl) ⟨(by exact z_p (rfP_0.mpr (Or.inr ⟨c_72, c_94⟩))), by rw [rfS, if_neg (by decide)], rfl⟩ (Nat.le_of_ble_eq_true rfl) (Nat.le_of_ble_eq_true rfl) d_RU_refuses_102
    · skip
      refine lv_aload_n S.1 S.2.1 d_RU_refuses_75 rfl (lv_at hl 1 rfl) ?_
      refine g_get S hO fl_RU_32 (by decide) (sh_62 G ad _ _) (v := .int (σ 62 0)) rfl d_RU_refuses_76 ?_
      refine lv_if_ne (tgt := 86) S.1 S.2.1 d_RU_refuses_79 (by decide) (fun c_79 => ?_) (fun c_79 => ?_)
      · skip
        refine lv_iconst (v := 0) S.1 S.2.1 d_RU_refuses_86 (by decide) ?_
        refine lv_goto (tgt := 102) S.1 S.2.1 d_RU_refuses_87 (by decide) ?_
        exact im_z S hk hr hO (by first | exact Or.inl rfl | exact Or.inr rfl) ⟨(by exact z_n (fun z => (fun z => z.elim (fun q => c_79 q.2) (fun q => q.1 c_72)) (rfP_0.mp z))), by rw [rfS, if_neg (by decide)], rfl⟩ (Nat.le_of_ble_eq_true rfl) (Nat.le_of_ble_eq_true rfl) d_RU_refuses_102
      · skip
        refine lv_iconst (v := 1) S.1 S.2.1 d_RU_refuses_82 (by decide) ?_
        refine lv_goto (tgt := 102) S.1 S.2.1 d_RU_refuses_83 (by decide) ?_
        exact im_z S hk hr hO (by first | exact Or.inl rfl | exact Or.inr rfl) ⟨(by exact z_p (rfP_0.mpr (Or.inl ⟨c_72, c_79⟩))), by rw [rfS, if_neg (by decide)], rfl⟩ (Nat.le_of_ble_eq_true rfl) (Nat.le_of_ble_eq_true rfl) d_RU_refuses_102
  by_cases w_11_1 : nI (k + 1) = 2
  · refine W.eq (g2 := F0 m 11 ls [.int 2]) (by rw [w_11_1]) ?_
    refine lv_tableIn (tgt := 103) S.1 S.2.1 d_RU_refuses_11 (by decide) (by decide) rfl (by decide) ?_
    obtain rfl : k = 1 := by
      have h9 : nI (k + 1) = nI 2 := w_11_1
      have h8 := (nI_eq (by omega) (by decide)).mp h9
      omega
    refine lv_aload_n S.1 S.2.1 d_RU_refuses_103 rfl (lv_at hl 1 rfl) ?_
    refine g_get S hO fl_RU_41 (by decide) (sh_62 G ad _ _) (v := .int (σ 62 6)) rfl d_RU_refuses_104 ?_
    refine lv_aload_n S.1 S.2.1 d_RU_refuses_107 rfl (lv_at hl 1 rfl) ?_
    refine g_get S hO fl_RU_44 (by decide) (sh_62 G ad _ _) (v := .int (σ 62 11)) rfl d_RU_refuses_108 ?_
    refine lv_iadd S.1 S.2.1 d_RU_refuses_111 ?_
    refine lv_aload_n S.1 S.2.1 d_RU_refuses_112 rfl (lv_at hl 1 rfl) ?_
    refine g_get S hO fl_RU_47 (by decide) (sh_62 G ad _ _) (v := .int (σ 62 3)) rfl d_RU_refuses_113 ?_
    refine lv_aload_n S.1 S.2.1 d_RU_refuses_116 rfl (lv_at hl 0 rfl) ?_
    refine g_get S hO fl_RU_28 (by omega) (sh_RU G ad _ _ (by omega)) (v := .int (σ (9 + r) 2)) rfl d_RU_refuses_117 ?_
    refine lv_isub S.1 S.2.1 d_RU_refuses_120 ?_
    refine lv_icmp_le (tgt := 128) S.1 S.2.1 d_RU_refuses_121 (by decide) (fun c_121 => ?_) (fun c_121 => ?_)
    · skip
      refine lv_iconst (v := 0) S.1 S.2.1 d_RU_refuses_128 (by decide) ?_
      exact im_z S hk hr hO (by first | exact Or.inl rfl | exact Or.inr rfl) ⟨(by first | exact z_n (fun z => (Int32.not_lt.mpr c_121) (rfP_1.mp z)) | exact z_p (rfP_1.mpr (Int32.not_le.mp c_121))), by rw [rfS, if_neg (by decide)], rfl⟩ (Nat.le_of_ble_eq_true rfl) (Nat.le_of_ble_eq_true rfl) d_RU_refuses_129
    · skip
      refine lv_iconst (v := 1) S.1 S.2.1 d_RU_refuses_124 (by decide) ?_
      refine lv_goto (tgt := 129) S.1 S.2.1 d_RU_refuses_125 (by decide) ?_
      exact im_z S hk hr hO (by first | exact Or.inl rfl | exact Or.inr rfl) ⟨(by first | exact z_n (fun z => (Int32.not_lt.mpr c_121) (rfP_1.mp z)) | exact z_p (rfP_1.mpr (Int32.not_le.mp c_121))), by rw [rfS, if_neg (by decide)], rfl⟩ (Nat.le_of_ble_eq_true rfl) (Nat.le_of_ble_eq_true rfl) d_RU_refuses_129
  by_cases w_11_2 : nI (k + 1) = 3
  · refine W.eq (g2 := F0 m 11 ls [.int 3]) (by rw [w_11_2]) ?_
    refine lv_tableIn (tgt := 130) S.1 S.2.1 d_RU_refuses_11 (by decide) (by decide) rfl (by decide) ?_
    obtain rfl : k = 2 := by
      have h9 : nI (k + 1) = nI 3 := w_11_2
      have h8 := (nI_eq (by omega) (by decide)).mp h9
      omega
    refine lv_aload_n S.1 S.2.1 d_RU_refuses_130 rfl (lv_at hl 1 rfl) ?_
    refine g_get S hO fl_RU_50 (by decide) (sh_62 G ad _ _) (v := .ref (ad 63)) rfl d_RU_refuses_131 ?_
    refine g_VP (As := []) (rest := []) S hO (k_NS_howMany l G ad σ τ 0 (by omega)) cw_RU_54 (by decide) (sh_NS G ad _ _ (j := 0) (by decide)) rfl rfl hl.1 (Nat.le_of_ble_eq_true rfl) ⟨(Nat.le_of_ble_eq_true rfl), (Nat.le_of_ble_eq_true rfl)⟩ ⟨(Nat.le_of_ble_eq_true rfl), (Nat.le_of_ble_eq_true rfl)⟩ d_RU_refuses_134 (fun q x ce H h9 => h9.elim) (fun v H v_1 hO => ?_)
    subst v_1
    refine W.eq (g2 := F0 m 137 ls [.int (bcF (τ 63 0) + bcF (τ 63 1))]) rfl ?_
    refine lv_aload_n S.1 S.2.1 d_RU_refuses_137 rfl (lv_at hl 0 rfl) ?_
    refine g_get S hO fl_RU_28 (by omega) (sh_RU G ad _ _ (by omega)) (v := .int (σ (9 + r) 2)) rfl d_RU_refuses_138 ?_
    refine lv_icmp_le (tgt := 148) S.1 S.2.1 d_RU_refuses_141 (by decide) (fun c_141 => ?_) (fun c_141 => ?_)
    · skip
      refine lv_iconst (v := 0) S.1 S.2.1 d_RU_refuses_148 (by decide) ?_
      exact im_z S hk hr hO (by first | exact Or.inl rfl | exact Or.inr rfl) ⟨(by first | exact z_n (fun z => (Int32.not_lt.mpr c_141) (rfP_2.mp z)) | exact z_p (rfP_2.mpr (Int32.not_le.mp c_141))), by rw [rfS, if_neg (by decide)], rfl⟩ (Nat.le_of_ble_eq_true rfl) (Nat.le_of_ble_eq_true rfl) d_RU_refuses_149
    · skip
      refine lv_iconst (v := 1) S.1 S.2.1 d_RU_refuses_144 (by decide) ?_
      refine lv_goto (tgt := 149) S.1 S.2.1 d_RU_refuses_145 (by decide) ?_
      exact im_z S hk hr hO (by first | exact Or.inl rfl | exact Or.inr rfl) ⟨(by first | exact z_n (fun z => (Int32.not_lt.mpr c_141) (rfP_2.mp z)) | exact z_p (rfP_2.mpr (Int32.not_le.mp c_141))), by rw [rfS, if_neg (by decide)], rfl⟩ (Nat.le_of_ble_eq_true rfl) (Nat.le_of_ble_eq_true rfl) d_RU_refuses_149
  by_cases w_11_3 : nI (k + 1) = 4
  · refine W.eq (g2 := F0 m 11 ls [.int 4]) (by rw [w_11_3]) ?_
    refine lv_tableIn (tgt := 150) S.1 S.2.1 d_RU_refuses_11 (by decide) (by decide) rfl (by decide) ?_
    obtain rfl : k = 3 := by
      have h9 : nI (k + 1) = nI 4 := w_11_3
      have h8 := (nI_eq (by omega) (by decide)).mp h9
      omega
    refine lv_aload_n S.1 S.2.1 d_RU_refuses_150 rfl (lv_at hl 1 rfl) ?_
    refine g_get S hO fl_RU_59 (by decide) (sh_62 G ad _ _) (v := .ref (ad 64)) rfl d_RU_refuses_151 ?_
    refine g_VP (As := []) (rest := []) S hO (k_NS_howMany l G ad σ τ 1 (by omega)) cw_RU_54 (by decide) (sh_NS G ad _ _ (j := 1) (by decide)) rfl rfl hl.1 (Nat.le_of_ble_eq_true rfl) ⟨(Nat.le_of_ble_eq_true rfl), (Nat.le_of_ble_eq_true rfl)⟩ ⟨(Nat.le_of_ble_eq_true rfl), (Nat.le_of_ble_eq_true rfl)⟩ d_RU_refuses_154 (fun q x ce H h9 => h9.elim) (fun v H v_2 hO => ?_)
    subst v_2
    refine W.eq (g2 := F0 m 157 ls [.int (bcF (τ 64 0) + bcF (τ 64 1))]) rfl ?_
    refine lv_aload_n S.1 S.2.1 d_RU_refuses_157 rfl (lv_at hl 0 rfl) ?_
    refine g_get S hO fl_RU_28 (by omega) (sh_RU G ad _ _ (by omega)) (v := .int (σ (9 + r) 2)) rfl d_RU_refuses_158 ?_
    refine lv_icmp_le (tgt := 168) S.1 S.2.1 d_RU_refuses_161 (by decide) (fun c_161 => ?_) (fun c_161 => ?_)
    · skip
      refine lv_iconst (v := 0) S.1 S.2.1 d_RU_refuses_168 (by decide) ?_
      exact im_z S hk hr hO (by first | exact Or.inl rfl | exact Or.inr rfl) ⟨(by first | exact z_n (fun z => (Int32.not_lt.mpr c_161) (rfP_3.mp z)) | exact z_p (rfP_3.mpr (Int32.not_le.mp c_161))), by rw [rfS, if_neg (by decide)], rfl⟩ (Nat.le_of_ble_eq_true rfl) (Nat.le_of_ble_eq_true rfl) d_RU_refuses_169
    · skip
      refine lv_iconst (v := 1) S.1 S.2.1 d_RU_refuses_164 (by decide) ?_
      refine lv_goto (tgt := 169) S.1 S.2.1 d_RU_refuses_165 (by decide) ?_
      exact im_z S hk hr hO (by first | exact Or.inl rfl | exact Or.inr rfl) ⟨(by first | exact z_n (fun z => (Int32.not_lt.mpr c_161) (rfP_3.mp z)) | exact z_p (rfP_3.mpr (Int32.not_le.mp c_161))), by rw [rfS, if_neg (by decide)], rfl⟩ (Nat.le_of_ble_eq_true rfl) (Nat.le_of_ble_eq_true rfl) d_RU_refuses_169
  by_cases w_11_4 : nI (k + 1) = 5
  · refine W.eq (g2 := F0 m 11 ls [.int 5]) (by rw [w_11_4]) ?_
    refine lv_tableIn (tgt := 170) S.1 S.2.1 d_RU_refuses_11 (by decide) (by decide) rfl (by decide) ?_
    obtain rfl : k = 4 := by
      have h9 : nI (k + 1) = nI 5 := w_11_4
      have h8 := (nI_eq (by omega) (by decide)).mp h9
      omega
    refine lv_aload_n S.1 S.2.1 d_RU_refuses_170 rfl (lv_at hl 1 rfl) ?_
    refine g_get S hO fl_RU_62 (by decide) (sh_62 G ad _ _) (v := .ref (ad 65)) rfl d_RU_refuses_171 ?_
    refine g_VP (As := []) (rest := []) S hO (k_NS_howMany l G ad σ τ 2 (by omega)) cw_RU_54 (by decide) (sh_NS G ad _ _ (j := 2) (by decide)) rfl rfl hl.1 (Nat.le_of_ble_eq_true rfl) ⟨(Nat.le_of_ble_eq_true rfl), (Nat.le_of_ble_eq_true rfl)⟩ ⟨(Nat.le_of_ble_eq_true rfl), (Nat.le_of_ble_eq_true rfl)⟩ d_RU_refuses_174 (fun q x ce H h9 => h9.elim) (fun v H v_3 hO => ?_)
    subst v_3
    refine W.eq (g2 := F0 m 177 ls [.int (bcF (τ 65 0) + bcF (τ 65 1))]) rfl ?_
    refine lv_aload_n S.1 S.2.1 d_RU_refuses_177 rfl (lv_at hl 0 rfl) ?_
    refine g_get S hO fl_RU_28 (by omega) (sh_RU G ad _ _ (by omega)) (v := .int (σ (9 + r) 2)) rfl d_RU_refuses_178 ?_
    refine lv_icmp_le (tgt := 188) S.1 S.2.1 d_RU_refuses_181 (by decide) (fun c_181 => ?_) (fun c_181 => ?_)
    · skip
      refine lv_iconst (v := 0) S.1 S.2.1 d_RU_refuses_188 (by decide) ?_
      exact im_z S hk hr hO (by first | exact Or.inl rfl | exact Or.inr rfl) ⟨(by first | exact z_n (fun z => (Int32.not_lt.mpr c_181) (rfP_4.mp z)) | exact z_p (rfP_4.mpr (Int32.not_le.mp c_181))), by rw [rfS, if_neg (by decide)], rfl⟩ (Nat.le_of_ble_eq_true rfl) (Nat.le_of_ble_eq_true rfl) d_RU_refuses_189
    · skip
      refine lv_iconst (v := 1) S.1 S.2.1 d_RU_refuses_184 (by decide) ?_
      refine lv_goto (tgt := 189) S.1 S.2.1 d_RU_refuses_185 (by decide) ?_
      exact im_z S hk hr hO (by first | exact Or.inl rfl | exact Or.inr rfl) ⟨(by first | exact z_n (fun z => (Int32.not_lt.mpr c_181) (rfP_4.mp z)) | exact z_p (rfP_4.mpr (Int32.not_le.mp c_181))), by rw [rfS, if_neg (by decide)], rfl⟩ (Nat.le_of_ble_eq_true rfl) (Nat.le_of_ble_eq_true rfl) d_RU_refuses_189
  by_cases w_11_5 : nI (k + 1) = 6
  · refine W.eq (g2 := F0 m 11 ls [.int 6]) (by rw [w_11_5]) ?_
    refine lv_tableIn (tgt := 190) S.1 S.2.1 d_RU_refuses_11 (by decide) (by decide) rfl (by decide) ?_
    obtain rfl : k = 5 := by
      have h9 : nI (k + 1) = nI 6 := w_11_5
      have h8 := (nI_eq (by omega) (by decide)).mp h9
      omega
    refine lv_aload_n S.1 S.2.1 d_RU_refuses_190 rfl (lv_at hl 1 rfl) ?_
    refine lv_aload_n S.1 S.2.1 d_RU_refuses_191 rfl (lv_at hl 0 rfl) ?_
    refine g_get S hO fl_RU_28 (by omega) (sh_RU G ad _ _ (by omega)) (v := .int (σ (9 + r) 2)) rfl d_RU_refuses_192 ?_
    refine lv_aload_n S.1 S.2.1 d_RU_refuses_195 rfl (lv_at hl 0 rfl) ?_
    refine g_get S hO fl_RU_65 (by omega) (sh_RU G ad _ _ (by omega)) (v := .int (σ (9 + r) 3)) rfl d_RU_refuses_196 ?_
    refine g_VP (As := [.int (σ (9 + r) 2), .int (σ (9 + r) 3)]) (rest := []) S hO (k_QU_meetsHazards l G ad σ τ (σ (9 + r) 2) (σ (9 + r) 3)) cw_RU_68 (by decide) (sh_62 G ad _ _) rfl rfl hl.1 (Nat.le_of_ble_eq_true rfl) ⟨(Nat.le_of_ble_eq_true rfl), (Nat.le_of_ble_eq_true rfl)⟩ ⟨(Nat.le_of_ble_eq_true rfl), (Nat.le_of_ble_eq_true rfl)⟩ d_RU_refuses_199 (fun q x ce H h9 => h9.elim) (fun v H v_4 hO => ?_)
    subst v_4
    refine W.eq (g2 := F0 m 202 ls [.int (if σ 62 7 = σ (9 + r) 2 ∧ nsh τ 66 (σ (9 + r) 3) then 1 else 0)]) rfl ?_
    refine lv_if_ne (tgt := 220) S.1 S.2.1 d_RU_refuses_202 (by decide) (fun c_202 => ?_) (fun c_202 => ?_)
    · skip
      refine lv_iconst (v := 1) S.1 S.2.1 d_RU_refuses_220 (by decide) ?_
      refine lv_goto (tgt := 225) S.1 S.2.1 d_RU_refuses_221 (by decide) ?_
      exact im_z S hk hr hO (by first | exact Or.inl rfl | exact Or.inr rfl) ⟨(by first | exact z_p (rfP_5.mpr (Or.inl (z_1.mp c_202))) | exact z_n (fun z => (fun z => z.elim (z_0.mp c_202) (z_0.mp c_217)) (rfP_5.mp z)) | exact z_p (rfP_5.mpr (Or.inr (z_1.mp c_217)))), by rw [rfS, if_neg (by decide)], rfl⟩ (Nat.le_of_ble_eq_true rfl) (Nat.le_of_ble_eq_true rfl) d_RU_refuses_225
    · skip
      refine lv_aload_n S.1 S.2.1 d_RU_refuses_205 rfl (lv_at hl 1 rfl) ?_
      refine lv_aload_n S.1 S.2.1 d_RU_refuses_206 rfl (lv_at hl 0 rfl) ?_
      refine g_get S hO fl_RU_65 (by omega) (sh_RU G ad _ _ (by omega)) (v := .int (σ (9 + r) 3)) rfl d_RU_refuses_207 ?_
      refine lv_aload_n S.1 S.2.1 d_RU_refuses_210 rfl (lv_at hl 0 rfl) ?_
      refine g_get S hO fl_RU_28 (by omega) (sh_RU G ad _ _ (by omega)) (v := .int (σ (9 + r) 2)) rfl d_RU_refuses_211 ?_
      refine g_VP (As := [.int (σ (9 + r) 3), .int (σ (9 + r) 2)]) (rest := []) S hO (k_QU_meetsHazards l G ad σ τ (σ (9 + r) 3) (σ (9 + r) 2)) cw_RU_68 (by decide) (sh_62 G ad _ _) rfl rfl hl.1 (Nat.le_of_ble_eq_true rfl) ⟨(Nat.le_of_ble_eq_true rfl), (Nat.le_of_ble_eq_true rfl)⟩ ⟨(Nat.le_of_ble_eq_true rfl), (Nat.le_of_ble_eq_true rfl)⟩ d_RU_refuses_214 (fun q x ce H h9 => h9.elim) (fun v H v_5 hO => ?_)
      subst v_5
      refine W.eq (g2 := F0 m 217 ls [.int (if σ 62 7 = σ (9 + r) 3 ∧ nsh τ 66 (σ (9 + r) 2) then 1 else 0)]) rfl ?_
      refine lv_if_eq (tgt := 224) S.1 S.2.1 d_RU_refuses_217 (by decide) (fun c_217 => ?_) (fun c_217 => ?_)
      · skip
        refine lv_iconst (v := 0) S.1 S.2.1 d_RU_refuses_224 (by decide) ?_
        exact im_z S hk hr hO (by first | exact Or.inl rfl | exact Or.inr rfl) ⟨(by first | exact z_p (rfP_5.mpr (Or.inl (z_1.mp c_202))) | exact z_n (fun z => (fun z => z.elim (z_0.mp c_202) (z_0.mp c_217)) (rfP_5.mp z)) | exact z_p (rfP_5.mpr (Or.inr (z_1.mp c_217)))), by rw [rfS, if_neg (by decide)], rfl⟩ (Nat.le_of_ble_eq_true rfl) (Nat.le_of_ble_eq_true rfl) d_RU_refuses_225
      · skip
        refine lv_iconst (v := 1) S.1 S.2.1 d_RU_refuses_220 (by decide) ?_
        refine lv_goto (tgt := 225) S.1 S.2.1 d_RU_refuses_221 (by decide) ?_
        exact im_z S hk hr hO (by first | exact Or.inl rfl | exact Or.inr rfl) ⟨(by first | exact z_p (rfP_5.mpr (Or.inl (z_1.mp c_202))) | exact z_n (fun z => (fun z => z.elim (z_0.mp c_202) (z_0.mp c_217)) (rfP_5.mp z)) | exact z_p (rfP_5.mpr (Or.inr (z_1.mp c_217)))), by rw [rfS, if_neg (by decide)], rfl⟩ (Nat.le_of_ble_eq_true rfl) (Nat.le_of_ble_eq_true rfl) d_RU_refuses_225
  by_cases w_11_6 : nI (k + 1) = 7
  · refine W.eq (g2 := F0 m 11 ls [.int 7]) (by rw [w_11_6]) ?_
    refine lv_tableIn (tgt := 226) S.1 S.2.1 d_RU_refuses_11 (by decide) (by decide) rfl (by decide) ?_
    obtain rfl : k = 6 := by
      have h9 : nI (k + 1) = nI 7 := w_11_6
      have h8 := (nI_eq (by omega) (by decide)).mp h9
      omega
    refine lv_aload_n S.1 S.2.1 d_RU_refuses_226 rfl (lv_at hl 1 rfl) ?_
    refine g_get S hO fl_RU_72 (by decide) (sh_62 G ad _ _) (v := .int (σ 62 8)) rfl d_RU_refuses_227 ?_
    refine lv_aload_n S.1 S.2.1 d_RU_refuses_230 rfl (lv_at hl 0 rfl) ?_
    refine g_get S hO fl_RU_28 (by omega) (sh_RU G ad _ _ (by omega)) (v := .int (σ (9 + r) 2)) rfl d_RU_refuses_231 ?_
    refine lv_icmp_ne (tgt := 252) S.1 S.2.1 d_RU_refuses_234 (by decide) (fun c_234 => ?_) (fun c_234 => ?_)
    · skip
      refine lv_iconst (v := 0) S.1 S.2.1 d_RU_refuses_252 (by decide) ?_
      exact im_z S hk hr hO (by first | exact Or.inl rfl | exact Or.inr rfl) ⟨(by first | exact z_n (fun z => (fun z => c_234 z.1) (rfP_6.mp z)) | exact z_n (fun z => (fun z => z.2 c_245) (rfP_6.mp z)) | exact z_p (rfP_6.mpr ⟨c_234, c_245⟩)), by rw [rfS, if_neg (by decide)], rfl⟩ (Nat.le_of_ble_eq_true rfl) (Nat.le_of_ble_eq_true rfl) d_RU_refuses_253
    · skip
      refine lv_aload_n S.1 S.2.1 d_RU_refuses_237 rfl (lv_at hl 1 rfl) ?_
      refine g_get S hO fl_RU_75 (by decide) (sh_62 G ad _ _) (v := .int (σ 62 4)) rfl d_RU_refuses_238 ?_
      refine lv_aload_n S.1 S.2.1 d_RU_refuses_241 rfl (lv_at hl 0 rfl) ?_
      refine g_get S hO fl_RU_65 (by omega) (sh_RU G ad _ _ (by omega)) (v := .int (σ (9 + r) 3)) rfl d_RU_refuses_242 ?_
      refine lv_icmp_eq (tgt := 252) S.1 S.2.1 d_RU_refuses_245 (by decide) (fun c_245 => ?_) (fun c_245 => ?_)
      · skip
        refine lv_iconst (v := 0) S.1 S.2.1 d_RU_refuses_252 (by decide) ?_
        exact im_z S hk hr hO (by first | exact Or.inl rfl | exact Or.inr rfl) ⟨(by first | exact z_n (fun z => (fun z => c_234 z.1) (rfP_6.mp z)) | exact z_n (fun z => (fun z => z.2 c_245) (rfP_6.mp z)) | exact z_p (rfP_6.mpr ⟨c_234, c_245⟩)), by rw [rfS, if_neg (by decide)], rfl⟩ (Nat.le_of_ble_eq_true rfl) (Nat.le_of_ble_eq_true rfl) d_RU_refuses_253
      · skip
        refine lv_iconst (v := 1) S.1 S.2.1 d_RU_refuses_248 (by decide) ?_
        refine lv_goto (tgt := 253) S.1 S.2.1 d_RU_refuses_249 (by decide) ?_
        exact im_z S hk hr hO (by first | exact Or.inl rfl | exact Or.inr rfl) ⟨(by first | exact z_n (fun z => (fun z => c_234 z.1) (rfP_6.mp z)) | exact z_n (fun z => (fun z => z.2 c_245) (rfP_6.mp z)) | exact z_p (rfP_6.mpr ⟨c_234, c_245⟩)), by rw [rfS, if_neg (by decide)], rfl⟩ (Nat.le_of_ble_eq_true rfl) (Nat.le_of_ble_eq_true rfl) d_RU_refuses_253
  by_cases w_11_7 : nI (k + 1) = 8
  · refine W.eq (g2 := F0 m 11 ls [.int 8]) (by rw [w_11_7]) ?_
    refine lv_tableIn (tgt := 254) S.1 S.2.1 d_RU_refuses_11 (by decide) (by decide) rfl (by decide) ?_
    obtain rfl : k = 7 := by
      have h9 : nI (k + 1) = nI 8 := w_11_7
      have h8 := (nI_eq (by omega) (by decide)).mp h9
      omega
    refine lv_aload_n S.1 S.2.1 d_RU_refuses_254 rfl (lv_at hl 1 rfl) ?_
    refine g_get S hO fl_RU_78 (by decide) (sh_62 G ad _ _) (v := .int (σ 62 10)) rfl d_RU_refuses_255 ?_
    refine lv_aload_n S.1 S.2.1 d_RU_refuses_258 rfl (lv_at hl 0 rfl) ?_
    refine g_get S hO fl_RU_28 (by omega) (sh_RU G ad _ _ (by omega)) (v := .int (σ (9 + r) 2)) rfl d_RU_refuses_259 ?_
    refine lv_icmp_le (tgt := 269) S.1 S.2.1 d_RU_refuses_262 (by decide) (fun c_262 => ?_) (fun c_262 => ?_)
    · skip
      refine lv_iconst (v := 0) S.1 S.2.1 d_RU_refuses_269 (by decide) ?_
      exact im_z S hk hr hO (by first | exact Or.inl rfl | exact Or.inr rfl) ⟨(by first | exact z_n (fun z => (Int32.not_lt.mpr c_262) (rfP_7.mp z)) | exact z_p (rfP_7.mpr (Int32.not_le.mp c_262))), by rw [rfS, if_neg (by decide)], rfl⟩ (Nat.le_of_ble_eq_true rfl) (Nat.le_of_ble_eq_true rfl) d_RU_refuses_270
    · skip
      refine lv_iconst (v := 1) S.1 S.2.1 d_RU_refuses_265 (by decide) ?_
      refine lv_goto (tgt := 270) S.1 S.2.1 d_RU_refuses_266 (by decide) ?_
      exact im_z S hk hr hO (by first | exact Or.inl rfl | exact Or.inr rfl) ⟨(by first | exact z_n (fun z => (Int32.not_lt.mpr c_262) (rfP_7.mp z)) | exact z_p (rfP_7.mpr (Int32.not_le.mp c_262))), by rw [rfS, if_neg (by decide)], rfl⟩ (Nat.le_of_ble_eq_true rfl) (Nat.le_of_ble_eq_true rfl) d_RU_refuses_270
  by_cases w_11_8 : nI (k + 1) = 9
  · refine W.eq (g2 := F0 m 11 ls [.int 9]) (by rw [w_11_8]) ?_
    refine lv_tableIn (tgt := 271) S.1 S.2.1 d_RU_refuses_11 (by decide) (by decide) rfl (by decide) ?_
    obtain rfl : k = 8 := by
      have h9 : nI (k + 1) = nI 9 := w_11_8
      have h8 := (nI_eq (by omega) (by decide)).mp h9
      omega
    refine lv_aload_n S.1 S.2.1 d_RU_refuses_271 rfl (lv_at hl 1 rfl) ?_
    refine g_get S hO fl_RU_81 (by decide) (sh_62 G ad _ _) (v := .int (σ 62 13)) rfl d_RU_refuses_272 ?_
    refine lv_aload_n S.1 S.2.1 d_RU_refuses_275 rfl (lv_at hl 1 rfl) ?_
    refine g_get S hO fl_RU_84 (by decide) (sh_62 G ad _ _) (v := .int (σ 62 12)) rfl d_RU_refuses_276 ?_
    refine lv_isub S.1 S.2.1 d_RU_refuses_279 ?_
    refine lv_aload_n S.1 S.2.1 d_RU_refuses_280 rfl (lv_at hl 0 rfl) ?_
    refine g_get S hO fl_RU_28 (by omega) (sh_RU G ad _ _ (by omega)) (v := .int (σ (9 + r) 2)) rfl d_RU_refuses_281 ?_
    refine lv_icmp_le (tgt := 291) S.1 S.2.1 d_RU_refuses_284 (by decide) (fun c_284 => ?_) (fun c_284 => ?_)
    · skip
      refine lv_iconst (v := 0) S.1 S.2.1 d_RU_refuses_291 (by decide) ?_
      exact im_z S hk hr hO (by first | exact Or.inl rfl | exact Or.inr rfl) ⟨(by first | exact z_n (fun z => (Int32.not_lt.mpr c_284) (rfP_8.mp z)) | exact z_p (rfP_8.mpr (Int32.not_le.mp c_284))), by rw [rfS, if_neg (by decide)], rfl⟩ (Nat.le_of_ble_eq_true rfl) (Nat.le_of_ble_eq_true rfl) d_RU_refuses_292
    · skip
      refine lv_iconst (v := 1) S.1 S.2.1 d_RU_refuses_287 (by decide) ?_
      refine lv_goto (tgt := 292) S.1 S.2.1 d_RU_refuses_288 (by decide) ?_
      exact im_z S hk hr hO (by first | exact Or.inl rfl | exact Or.inr rfl) ⟨(by first | exact z_n (fun z => (Int32.not_lt.mpr c_284) (rfP_8.mp z)) | exact z_p (rfP_8.mpr (Int32.not_le.mp c_284))), by rw [rfS, if_neg (by decide)], rfl⟩ (Nat.le_of_ble_eq_true rfl) (Nat.le_of_ble_eq_true rfl) d_RU_refuses_292
  by_cases w_11_9 : nI (k + 1) = 10
  · refine W.eq (g2 := F0 m 11 ls [.int 10]) (by rw [w_11_9]) ?_
    refine lv_tableIn (tgt := 293) S.1 S.2.1 d_RU_refuses_11 (by decide) (by decide) rfl (by decide) ?_
    obtain rfl : k = 9 := by
      have h9 : nI (k + 1) = nI 10 := w_11_9
      have h8 := (nI_eq (by omega) (by decide)).mp h9
      omega
    refine lv_aload_n S.1 S.2.1 d_RU_refuses_293 rfl (lv_at hl 1 rfl) ?_
    refine g_get S hO fl_RU_87 (by decide) (sh_62 G ad _ _) (v := .int (σ 62 9)) rfl d_RU_refuses_294 ?_
    refine lv_aload_n S.1 S.2.1 d_RU_refuses_297 rfl (lv_at hl 1 rfl) ?_
    refine g_get S hO fl_RU_90 (by decide) (sh_62 G ad _ _) (v := .int (σ 62 2)) rfl d_RU_refuses_298 ?_
    refine lv_isub S.1 S.2.1 d_RU_refuses_301 ?_
    refine lv_aload_n S.1 S.2.1 d_RU_refuses_302 rfl (lv_at hl 0 rfl) ?_
    refine g_get S hO fl_RU_28 (by omega) (sh_RU G ad _ _ (by omega)) (v := .int (σ (9 + r) 2)) rfl d_RU_refuses_303 ?_
    refine lv_icmp_ge (tgt := 313) S.1 S.2.1 d_RU_refuses_306 (by decide) (fun c_306 => ?_) (fun c_306 => ?_)
    · skip
      refine lv_iconst (v := 0) S.1 S.2.1 d_RU_refuses_313 (by decide) ?_
      exact im_z S hk hr hO (by first | exact Or.inl rfl | exact Or.inr rfl) ⟨(by first | exact z_n (fun z => (Int32.not_lt.mpr c_306) (rfP_9.mp z)) | exact z_p (rfP_9.mpr (Int32.not_le.mp c_306))), by rw [rfS, if_neg (by decide)], rfl⟩ (Nat.le_of_ble_eq_true rfl) (Nat.le_of_ble_eq_true rfl) d_RU_refuses_314
    · skip
      refine lv_iconst (v := 1) S.1 S.2.1 d_RU_refuses_309 (by decide) ?_
      refine lv_goto (tgt := 314) S.1 S.2.1 d_RU_refuses_310 (by decide) ?_
      exact im_z S hk hr hO (by first | exact Or.inl rfl | exact Or.inr rfl) ⟨(by first | exact z_n (fun z => (Int32.not_lt.mpr c_306) (rfP_9.mp z)) | exact z_p (rfP_9.mpr (Int32.not_le.mp c_306))), by rw [rfS, if_neg (by decide)], rfl⟩ (Nat.le_of_ble_eq_true rfl) (Nat.le_of_ble_eq_true rfl) d_RU_refuses_314
  by_cases w_11_10 : nI (k + 1) = 11
  · refine W.eq (g2 := F0 m 11 ls [.int 11]) (by rw [w_11_10]) ?_
    refine lv_tableIn (tgt := 315) S.1 S.2.1 d_RU_refuses_11 (by decide) (by decide) rfl (by decide) ?_
    obtain rfl : k = 10 := by
      have h9 : nI (k + 1) = nI 11 := w_11_10
      have h8 := (nI_eq (by omega) (by decide)).mp h9
      omega
    refine lv_aload_n S.1 S.2.1 d_RU_refuses_315 rfl (lv_at hl 2 rfl) ?_
    refine lv_aload_n S.1 S.2.1 d_RU_refuses_316 rfl (lv_at hl 0 rfl) ?_
    refine g_get S hO fl_RU_28 (by omega) (sh_RU G ad _ _ (by omega)) (v := .int (σ (9 + r) 2)) rfl d_RU_refuses_317 ?_
    refine lv_aload_n S.1 S.2.1 d_RU_refuses_320 rfl (lv_at hl 1 rfl) ?_
    obtain ⟨j, hj4, hj⟩ := hown10 rfl
    refine W.eq (g2 := F0 m 321 ls [.ref (ad 62), .int (nI j), .ref (ad 33)]) (by rw [hj]) ?_
    refine g_VI (As := [.int (nI j), .ref (ad 62)]) (rest := []) S hO (fun _ h => h) (k_OW_refuse l G ad σ τ j (by omega)) cw_RU_93 (by decide) (sh_33 G ad _ _) rfl rfl hl.1 (Nat.le_of_ble_eq_true rfl) ⟨(Nat.le_of_ble_eq_true rfl), (Nat.le_of_ble_eq_true rfl)⟩ ⟨(Nat.le_of_ble_eq_true rfl), (Nat.le_of_ble_eq_true rfl)⟩ d_RU_refuses_321 (fun q x ce H locs h9 => h9.elim) (fun v E1 H locs v_6 hO => ?_)
    obtain ⟨s_7, t_8, rfl, rfl, hs_7, ht_8⟩ := v_6
    rw [ht_8] at hO
    refine W.eq (g2 := F0 m 324 ls [.int (if owR σ j then 1 else 0)]) rfl ?_
    subst hs_7
    exact im_z S hk hr hO z_01 ⟨rf10_c hj hj4, (by rw [rfS, if_pos rfl, hj, nI_clamp (by omega)]), rfl⟩ (Nat.le_of_ble_eq_true rfl) (Nat.le_of_ble_eq_true rfl) d_RU_refuses_324
  exact (sw11 hk11 w_11_0 w_11_1 w_11_2 w_11_3 w_11_4 w_11_5 w_11_6 w_11_7 w_11_8 w_11_9 w_11_10).elim
