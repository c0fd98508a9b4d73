/-! The reference reads: signs, digits, names. Written by wip/tools/m38.py. -/
set_option maxHeartbeats 4000000 in
set_option maxRecDepth 100000 in
theorem k_MD_now (l : Launch) (G : gP) (ad : Nat → Nat) (σ : Nat → Nat → Int32) (τ : Nat → Nat → Int64) (N : Nat) (hN : σ 140 22 = nI N) (hN4 : N ≤ 400) (pp : Nat) (hp : σ 140 24 = nI pp) (hp2 : pp < 4000) : gpu l y_MD_now c_MD_now 1 (some .int) { frames := 0, cells := 0, slots := 0, locals := 0 } G ad σ τ [.ref (ad 140)] 0 0 (fun v => v = some (.int (nxS (σ 156) N pp))) (fun _ => False) := by
  refine gs_of (fun _ h => h.elim) (by decide) (Nat.le_of_ble_eq_true rfl) ?_
  intro p e s m args below meth c ls S hk hr hx hl hO
  have hl : lv_has ls 1 [(0, .ref (ad 140))] := hl
  have J_24 : ∀ (z : Int32), z = (nxS (σ 156) N pp) → ∀ (H : Heap) (locs : List Loc), gO G (fun _ => False) 159 ad (enc G ad σ τ) s H locs → ∀ ls : Array Slot, lv_has ls 1 [(0, .ref (ad 140))] → W p l e { frames := 0, cells := 0, slots := 0, locals := 0 } s m args below meth c H locs 0 0 (gM below (fun _ => False) 0 0 (fun v _ => (fun v => v = some (.int (nxS (σ 156) N pp))) v) (fun x _ => (fun _ => False) x) args s) (F0 m 24 ls (.int z :: [])) := by
    intro z ez H locs hO ls hl
    subst ez
    exact pu_i S hk hr hO (by rfl) (Nat.le_of_ble_eq_true rfl) (Nat.le_of_ble_eq_true rfl) d_MD_now_24
  refine lv_aload_n S.1 S.2.1 d_MD_now_0 rfl (lv_at hl 0 rfl) ?_
  refine g_get S hO fl_MD_114 (by decide) (sh_140 G ad _ _) (v := .int (σ 140 24)) rfl d_MD_now_1 ?_
  refine W.eq (g2 := F0 m 4 ls [.int (nI pp)]) (by rw [show σ 140 24 = nI pp from hp]) ?_
  refine lv_aload_n S.1 S.2.1 d_MD_now_4 rfl (lv_at hl 0 rfl) ?_
  refine g_get S hO fl_MD_111 (by decide) (sh_140 G ad _ _) (v := .int (σ 140 22)) rfl d_MD_now_5 ?_
  refine W.eq (g2 := F0 m 8 ls [.int (nI N), .int (nI pp)]) (by rw [show σ 140 22 = nI N from hN]) ?_
  refine lv_icmp_ge (tgt := 23) S.1 S.2.1 d_MD_now_8 (by decide) (fun c_8 => ?_) (fun c_8 => ?_)
  · skip
    have hge : N ≤ pp := ge_nI (x := nI N) rfl rfl (by omega) (by omega) c_8
    refine lv_iconst (v := (-1)) S.1 S.2.1 d_MD_now_23 (by decide) ?_
    exact J_24 _ (by rw [nxS, if_neg (by omega)]) _ _ hO ls (lv_sub hl [0] rfl)
  · skip
    have hlt : pp < N := ngt_nI (x := nI N) rfl rfl (by omega) (by omega) c_8
    refine lv_aload_n S.1 S.2.1 d_MD_now_11 rfl (lv_at hl 0 rfl) ?_
    refine g_get S hO fl_MD_56 (by decide) (sh_140 G ad _ _) (v := .ref (ad 156)) rfl d_MD_now_12 ?_
    refine lv_aload_n S.1 S.2.1 d_MD_now_15 rfl (lv_at hl 0 rfl) ?_
    refine g_get S hO fl_MD_114 (by decide) (sh_140 G ad _ _) (v := .int (σ 140 24)) rfl d_MD_now_16 ?_
    refine W.eq (g2 := F0 m 19 ls [.int (nI pp), .ref (ad 156)]) (by rw [show σ 140 24 = nI pp from hp]) ?_
    refine g_ial S hO (by decide) (sh_156 G ad _ _) (vp_in_nI (show pp < 400 by omega) (by decide)) d_MD_now_19 ?_
    refine W.eq (g2 := F0 m 20 ls [.int (σ 156 pp)]) (by rw [nI_clamp (show pp < 2 ^ 31 by omega)]) ?_
    refine lv_goto (tgt := 24) S.1 S.2.1 d_MD_now_20 (by decide) ?_
    exact J_24 _ (by rw [nxS, if_pos hlt]) _ _ hO ls (lv_sub hl [0] rfl)
set_option maxHeartbeats 4000000 in
set_option maxRecDepth 100000 in
theorem k_MD_fault (l : Launch) (G : gP) (ad : Nat → Nat) (σ : Nat → Nat → Int32) (τ : Nat → Nat → Int64) (a : Int32) (hw : σ 140 25 = (-1)) : gim l y_MD_fault c_MD_fault 2 none { frames := 0, cells := 0, slots := 0, locals := 0 } G ad σ τ [.ref (ad 140), .int a] 0 0 (fun v σ1 τ1 => v = none ∧ σ1 = up2 σ 140 25 a ∧ τ1 = τ) (fun _ => False) := by
  refine gs_of (fun _ h => h) (by decide) (Nat.le_of_ble_eq_true rfl) ?_
  intro p e s m args below meth c ls S hk hr hx hl hO
  have hl : lv_has ls 2 [(0, .ref (ad 140)), (1, .int a)] := hl
  refine lv_aload_n S.1 S.2.1 d_MD_fault_0 rfl (lv_at hl 0 rfl) ?_
  refine lv_aload_n S.1 S.2.1 d_MD_fault_1 rfl (lv_at hl 0 rfl) ?_
  refine g_get S hO fl_MD_117 (by decide) (sh_140 G ad _ _) (v := .int (σ 140 25)) rfl d_MD_fault_2 ?_
  refine W.eq (g2 := F0 m 5 ls [.int (-1), .ref (ad 140)]) (by rw [show σ 140 25 = (-1) from hw]) ?_
  refine lv_if_ge (tgt := 12) S.1 S.2.1 d_MD_fault_5 (by decide) (fun c_5 => ?_) (fun c_5 => ?_)
  · skip
    exact absurd c_5 (by decide)
  · skip
    refine lv_iload_n S.1 S.2.1 d_MD_fault_8 rfl (lv_at hl 1 rfl) ?_
    refine lv_goto (tgt := 16) S.1 S.2.1 d_MD_fault_9 (by decide) ?_
    obtain ⟨s_1, hs_1⟩ : ∃ z : Nat → Nat → Int32, z = up2 σ 140 25 a := ⟨_, rfl⟩
    refine g_put S hO (fun _ h => h) fp_MD_117 (by decide) (sh_140 G ad _ _) (v := .int a) rfl rfl (Nat.le_of_ble_eq_true rfl) (E2 := enc G ad s_1 τ) (by rw [hs_1]; exact enc_i (sh_140 G ad _ _)) d_MD_fault_16 (fun H locs hO => ?_)
    subst hs_1
    exact im_v S hk hr hO ⟨rfl, rfl, rfl⟩ (Nat.le_of_ble_eq_true rfl) (Nat.le_of_ble_eq_true rfl) d_MD_fault_19
def psS (σ : Nat → Nat → Int32) (a : Int32) (N pp : Nat) : Nat → Nat → Int32 := if nxS (σ 156) N pp = a then up2 σ 140 24 (nI (pp + 1)) else up2 (up2 σ 140 25 (nI pp)) 140 24 (nI (pp + 1))
set_option maxHeartbeats 4000000 in
set_option maxRecDepth 100000 in
theorem k_MD_pass (l : Launch) (G : gP) (ad : Nat → Nat) (σ : Nat → Nat → Int32) (τ : Nat → Nat → Int64) (a : Int32) (N : Nat) (hN : σ 140 22 = nI N) (hN4 : N ≤ 400) (pp : Nat) (hp : σ 140 24 = nI pp) (hp2 : pp < 4000) (hw : σ 140 25 = (-1)) : gim l y_MD_pass c_MD_pass 2 none { frames := 1, cells := 0, slots := 0, locals := 21 } G ad σ τ [.ref (ad 140), .int a] 0 0 (fun v σ1 τ1 => v = none ∧ σ1 = psS σ a N pp ∧ τ1 = τ) (fun _ => False) := by
  refine gs_of (fun _ h => h) (by decide) (Nat.le_of_ble_eq_true rfl) ?_
  intro p e s m args below meth c ls S hk hr hx hl hO
  have hl : lv_has ls 2 [(0, .ref (ad 140)), (1, .int a)] := hl
  refine lv_aload_n S.1 S.2.1 d_MD_pass_0 rfl (lv_at hl 0 rfl) ?_
  refine g_VP (As := []) (rest := []) S hO (k_MD_now l G ad σ τ N hN hN4 pp hp (by omega)) cw_MD_120 (by decide) (sh_140 G ad _ _) rfl rfl hl.1 (Nat.le_of_ble_eq_true rfl) ⟨(Nat.le_of_ble_eq_true rfl), (Nat.le_of_ble_eq_true rfl)⟩ ⟨(Nat.le_of_ble_eq_true rfl), (Nat.le_of_ble_eq_true rfl)⟩ d_MD_pass_1 (fun q x ce H h9 => h9.elim) (fun v H v_1 hO => ?_)
  subst v_1
  refine W.eq (g2 := F0 m 4 ls [.int (nxS (σ 156) N pp)]) rfl ?_
  refine lv_iload_n S.1 S.2.1 d_MD_pass_4 rfl (lv_at hl 1 rfl) ?_
  refine lv_icmp_eq (tgt := 16) S.1 S.2.1 d_MD_pass_5 (by decide) (fun c_5 => ?_) (fun c_5 => ?_)
  · skip
    refine lv_aload_n S.1 S.2.1 d_MD_pass_16 rfl (lv_at hl 0 rfl) ?_
    refine lv_dup S.1 S.2.1 d_MD_pass_17 rfl ?_
    refine g_get S hO fl_MD_114 (by decide) (sh_140 G ad _ _) (v := .int (σ 140 24)) rfl d_MD_pass_18 ?_
    refine W.eq (g2 := F0 m 21 ls [.int (nI pp), .ref (ad 140)]) (by rw [show σ 140 24 = nI pp from hp]) ?_
    refine lv_iconst (v := 1) S.1 S.2.1 d_MD_pass_21 (by decide) ?_
    refine lv_iadd S.1 S.2.1 d_MD_pass_22 ?_
    refine W.eq (g2 := F0 m 23 ls [.int (nI (pp + 1)), .ref (ad 140)]) (by rw [show (nI pp) + (1 : Int32) = nI (pp + 1) from nI_add pp 1]) ?_
    obtain ⟨s_2, hs_2⟩ : ∃ z : Nat → Nat → Int32, z = up2 σ 140 24 (nI (pp + 1)) := ⟨_, rfl⟩
    refine g_put S hO (fun _ h => h) fp_MD_114 (by decide) (sh_140 G ad _ _) (v := .int (nI (pp + 1))) rfl rfl (Nat.le_of_ble_eq_true rfl) (E2 := enc G ad s_2 τ) (by rw [hs_2]; exact enc_i (sh_140 G ad _ _)) d_MD_pass_23 (fun H locs hO => ?_)
    subst hs_2
    exact im_v S hk hr hO ⟨rfl, by rw [psS, if_pos c_5], rfl⟩ (Nat.le_of_ble_eq_true rfl) (Nat.le_of_ble_eq_true rfl) d_MD_pass_26
  · skip
    refine lv_aload_n S.1 S.2.1 d_MD_pass_8 rfl (lv_at hl 0 rfl) ?_
    refine lv_aload_n S.1 S.2.1 d_MD_pass_9 rfl (lv_at hl 0 rfl) ?_
    refine g_get S hO fl_MD_114 (by decide) (sh_140 G ad _ _) (v := .int (σ 140 24)) rfl d_MD_pass_10 ?_
    refine W.eq (g2 := F0 m 13 ls [.int (nI pp), .ref (ad 140)]) (by rw [show σ 140 24 = nI pp from hp]) ?_
    refine g_VI (As := [.int (nI pp)]) (rest := []) S hO (fun _ h => h) (k_MD_fault l G ad σ τ (nI pp) hw) cw_MD_124 (by decide) (sh_140 G ad _ _) rfl rfl hl.1 (Nat.le_of_ble_eq_true rfl) ⟨(Nat.le_of_ble_eq_true rfl), (Nat.le_of_ble_eq_true rfl)⟩ ⟨(Nat.le_of_ble_eq_true rfl), (Nat.le_of_ble_eq_true rfl)⟩ d_MD_pass_13 (fun q x ce H locs h9 => h9.elim) (fun v E1 H locs v_3 hO => ?_)
    obtain ⟨s_4, t_5, rfl, rfl, hs_4, ht_5⟩ := v_3
    rw [ht_5] at hO
    refine W.eq (g2 := F0 m 16 ls []) rfl ?_
    refine lv_aload_n S.1 S.2.1 d_MD_pass_16 rfl (lv_at hl 0 rfl) ?_
    refine lv_dup S.1 S.2.1 d_MD_pass_17 rfl ?_
    refine g_get S hO fl_MD_114 (by decide) (sh_140 G ad _ _) (v := .int (s_4 140 24)) rfl d_MD_pass_18 ?_
    refine W.eq (g2 := F0 m 21 ls [.int (nI pp), .ref (ad 140)]) (by rw [show s_4 140 24 = nI pp from (by simp [hs_4, up2_at, hp])]) ?_
    refine lv_iconst (v := 1) S.1 S.2.1 d_MD_pass_21 (by decide) ?_
    refine lv_iadd S.1 S.2.1 d_MD_pass_22 ?_
    refine W.eq (g2 := F0 m 23 ls [.int (nI (pp + 1)), .ref (ad 140)]) (by rw [show (nI pp) + (1 : Int32) = nI (pp + 1) from nI_add pp 1]) ?_
    obtain ⟨s_6, hs_6⟩ : ∃ z : Nat → Nat → Int32, z = up2 s_4 140 24 (nI (pp + 1)) := ⟨_, rfl⟩
    refine g_put S hO (fun _ h => h) fp_MD_114 (by decide) (sh_140 G ad _ _) (v := .int (nI (pp + 1))) rfl rfl (Nat.le_of_ble_eq_true rfl) (E2 := enc G ad s_6 τ) (by rw [hs_6]; exact enc_i (sh_140 G ad _ _)) d_MD_pass_23 (fun H locs hO => ?_)
    subst hs_6
    subst hs_4
    exact im_v S hk hr hO ⟨rfl, by rw [psS, if_neg c_5], rfl⟩ (Nat.le_of_ble_eq_true rfl) (Nat.le_of_ble_eq_true rfl) d_MD_pass_26
set_option maxHeartbeats 4000000 in
set_option maxRecDepth 100000 in
theorem k_MD_isDigit (l : Launch) (G : gP) (ad : Nat → Nat) (σ : Nat → Nat → Int32) (τ : Nat → Nat → Int64) (N : Nat) (hN : σ 140 22 = nI N) (hN4 : N ≤ 400) (pp : Nat) (hp : σ 140 24 = nI pp) (hp2 : pp < 4000) : gpu l y_MD_isDigit c_MD_isDigit 1 (some .boolean) { frames := 1, cells := 0, slots := 0, locals := 22 } G ad σ τ [.ref (ad 140)] 0 0 (fun v => v = some (.int (bI (dgB (nxS (σ 156) N pp))))) (fun _ => False) := by
  refine gs_of (fun _ h => h.elim) (by decide) (Nat.le_of_ble_eq_true rfl) ?_
  intro p e s m args below meth c ls S hk hr hx hl hO
  have hl : lv_has ls 1 [(0, .ref (ad 140))] := hl
  refine lv_aload_n S.1 S.2.1 d_MD_isDigit_0 rfl (lv_at hl 0 rfl) ?_
  refine g_VP (As := []) (rest := []) S hO (k_MD_now l G ad σ τ N hN hN4 pp hp (by omega)) cw_MD_120 (by decide) (sh_140 G ad _ _) rfl rfl hl.1 (Nat.le_of_ble_eq_true rfl) ⟨(Nat.le_of_ble_eq_true rfl), (Nat.le_of_ble_eq_true rfl)⟩ ⟨(Nat.le_of_ble_eq_true rfl), (Nat.le_of_ble_eq_true rfl)⟩ d_MD_isDigit_1 (fun q x ce H h9 => h9.elim) (fun v H v_1 hO => ?_)
  subst v_1
  refine W.eq (g2 := F0 m 4 ls [.int (nxS (σ 156) N pp)]) rfl ?_
  refine lv_bipush (v := 48) S.1 S.2.1 d_MD_isDigit_4 (by decide) ?_
  refine lv_bipush (v := 57) S.1 S.2.1 d_MD_isDigit_6 (by decide) ?_
  refine g_SP (As := [.int (nxS (σ 156) N pp), .int 48, .int 57]) (rest := []) S hO (k_MD_in l G ad σ τ (nxS (σ 156) N pp) 48 57) cw_MD_67 g_cfC hl.1 (Nat.le_of_ble_eq_true rfl) ⟨(Nat.le_of_ble_eq_true rfl), (Nat.le_of_ble_eq_true rfl)⟩ ⟨(Nat.le_of_ble_eq_true rfl), (Nat.le_of_ble_eq_true rfl)⟩ d_MD_isDigit_8 (fun q x ce H h9 => h9.elim) (fun v H v_2 hO => ?_)
  subst v_2
  refine W.eq (g2 := F0 m 11 ls [.int (bI (inB (nxS (σ 156) N pp) 48 57))]) rfl ?_
  exact pu_z S hk hr hO (by first | exact Or.inl rfl | exact Or.inr rfl | exact b_01) (by rfl) (Nat.le_of_ble_eq_true rfl) (Nat.le_of_ble_eq_true rfl) d_MD_isDigit_11
def MXF (s σ : Nat → Nat → Int32) : Prop := ∀ k j, ¬ (k = 140 ∧ (j = 24 ∨ j = 25 ∨ j = 26)) → s k j = σ k j
theorem MXF.refl (σ : Nat → Nat → Int32) : MXF σ σ := fun _ _ _ => rfl
theorem MXF.up {s σ : Nat → Nat → Int32} (h : MXF s σ) {j : Nat} {v : Int32} (hj : j = 24 ∨ j = 25 ∨ j = 26) : MXF (up2 s 140 j v) σ := fun k i hi => by
  rw [up2_at, if_neg (fun z => hi ⟨z.1, by omega⟩)]
  exact h k i hi
theorem MXF.T {s σ : Nat → Nat → Int32} (h : MXF s σ) : s 156 = σ 156 := funext (fun j => h 156 j (by omega))
theorem MXF.trans {s t σ : Nat → Nat → Int32} (h : MXF s σ) (h2 : MXF t s) : MXF t σ := fun k i z => (h2 k i z).trans (h k i z)
def dgP (r : Except Nat (Int32 × Nat)) (s : Nat → Nat → Int32) : Prop := match r with
  | .error e => s 140 25 = nI e
  | .ok (x, q) => s 140 25 = (-1) ∧ s 140 24 = nI q ∧ s 140 26 = x
theorem dgP_e {r : Except Nat (Int32 × Nat)} {e : Nat} {s : Nat → Nat → Int32} (h : r = .error e) (h2 : s 140 25 = nI e) : dgP r s := by
  subst h
  exact h2
theorem dgP_o {r : Except Nat (Int32 × Nat)} {x : Int32} {q : Nat} {s : Nat → Nat → Int32} (h : r = .ok (x, q)) (h1 : s 140 25 = (-1)) (h2 : s 140 24 = nI q) (h3 : s 140 26 = x) : dgP r s := by
  subst h
  exact ⟨h1, h2, h3⟩
theorem pnm_e {T : Nat → Int32} {N p e : Nat} (h : pdl T N p 7 0 0 = .error e) : pnm T N p = .error e := by simp only [pnm, h]
theorem pnm_0 {T : Nat → Int32} {N p : Nat} {v : Int32} (h : pdl T N p 7 0 0 = .ok (v, 0)) : pnm T N p = .error p := by simp [pnm, h]
theorem pnm_y {T : Nat → Int32} {N p d : Nat} {v : Int32} (h : pdl T N p 7 0 0 = .ok (v, d)) (hd : d ≠ 0) : pnm T N p = .ok (v, p + d) := by simp [pnm, h, hd]
set_option maxHeartbeats 4000000 in
set_option maxRecDepth 100000 in
theorem k_MD_digits (l : Launch) (G : gP) (ad : Nat → Nat) (σ : Nat → Nat → Int32) (τ : Nat → Nat → Int64) (N : Nat) (hN : σ 140 22 = nI N) (hN4 : N ≤ 400) (pp : Nat) (hp : σ 140 24 = nI pp) (hp2 : pp < 2000) (hw : σ 140 25 = (-1)) : gim l y_MD_digits c_MD_digits 2 (some .int) { frames := 2, cells := 0, slots := 0, locals := 42 } G ad σ τ [.ref (ad 140)] 0 0 (fun v σ1 τ1 => v = some (.int (nI pp)) ∧ MXF σ1 σ ∧ τ1 = τ ∧ dgP (pnm (σ 156) N pp) σ1) (fun _ => False) := by
  refine gs_of (fun _ h => h) (by decide) (Nat.le_of_ble_eq_true rfl) ?_
  intro p e s m args below meth c ls S hk hr hx hl hO
  have hl : lv_has ls 2 [(0, .ref (ad 140))] := hl
  refine lv_aload_n S.1 S.2.1 d_MD_digits_0 rfl (lv_at hl 0 rfl) ?_
  refine g_get S hO fl_MD_114 (by decide) (sh_140 G ad _ _) (v := .int (σ 140 24)) rfl d_MD_digits_1 ?_
  refine W.eq (g2 := F0 m 4 ls [.int (nI pp)]) (by rw [show σ 140 24 = nI pp from hp]) ?_
  refine lv_istore_n (lv' := [(1, .int (nI pp)), (0, .ref (ad 140))]) S.1 S.2.1 d_MD_digits_4 rfl hl (by decide) rfl (fun ls hl => ?_)
  refine lv_aload_n S.1 S.2.1 d_MD_digits_5 rfl (lv_at hl 1 rfl) ?_
  refine lv_iconst (v := 0) S.1 S.2.1 d_MD_digits_6 (by decide) ?_
  obtain ⟨sz, hsz⟩ : ∃ z : Nat → Nat → Int32, z = up2 σ 140 26 0 := ⟨_, rfl⟩
  refine g_put S hO (fun _ h => h) fp_MD_128 (by decide) (sh_140 G ad _ _) (v := .int 0) rfl rfl (Nat.le_of_ble_eq_true rfl) (E2 := enc G ad sz τ) (by rw [hsz]; exact enc_i (sh_140 G ad _ _)) d_MD_digits_7 (fun H locs hO => ?_)
  refine lv_aload_n S.1 S.2.1 d_MD_digits_10 rfl (lv_at hl 1 rfl) ?_
  refine g_VP (As := []) (rest := []) S hO (k_MD_isDigit l G ad sz τ N (by simp [hsz, up2_at, hN]) hN4 pp (by simp [hsz, up2_at, hp]) (by omega)) cw_MD_131 (by decide) (sh_140 G ad _ _) rfl rfl hl.1 (Nat.le_of_ble_eq_true rfl) ⟨(Nat.le_of_ble_eq_true rfl), (Nat.le_of_ble_eq_true rfl)⟩ ⟨(Nat.le_of_ble_eq_true rfl), (Nat.le_of_ble_eq_true rfl)⟩ d_MD_digits_11 (fun q x ce H h9 => h9.elim) (fun v H v_1 hO => ?_)
  subst v_1
  refine W.eq (g2 := F0 m 14 ls [.int (bI (dgB (nxS (sz 156) N pp)))]) rfl ?_
  refine lv_if_ne (tgt := 25) S.1 S.2.1 d_MD_digits_14 (by decide) (fun c_14 => ?_) (fun c_14 => ?_)
  · skip
    have q_14 : (dgB (nxS (sz 156) N pp)) = true := b_1 c_14
    have q9 : dgB (nxS (σ 156) N pp) = true := by rw [show sz 156 = σ 156 by rw [hsz]; exact up2_c (by decide)] at q_14; exact q_14
    have K_25 : ∀ (n9 : Nat) (d : Nat) (x : Int32) (s9 : Nat → Nat → Int32), 7 - d < n9 → (d ≤ 6) → (pdl (σ 156) N pp 7 0 0 = pdl (σ 156) N pp (7 - d) d x) → (MXF s9 σ) → (s9 140 24 = nI (pp + d)) → (s9 140 25 = (-1)) → (s9 140 26 = x) → (d = 0 → dgB (nxS (σ 156) N pp) = true) → ∀ (H : Heap) (locs : List Loc), gO G (gA G) 159 ad (enc G ad s9 τ) s H locs → ∀ ls : Array Slot, lv_has ls 2 [(1, .int (nI pp)), (0, .ref (ad 140))] → W p l e { frames := 2, cells := 0, slots := 0, locals := 42 } s m args below meth c H locs 0 0 (gM below (gA G) 0 0 (fun v t => ∃ E1, (∃ σ1 τ1, E1 = enc G ad σ1 τ1 ∧ (fun v σ1 τ1 => v = some (.int (nI pp)) ∧ MXF σ1 σ ∧ τ1 = τ ∧ dgP (pnm (σ 156) N pp) σ1) v σ1 τ1) ∧ va_P G.1 gcl (gw 159 ad E1) t.heap) (fun x t => (fun _ => False) x ∧ va_P G.1 gcl (gw 159 ad (enc G ad σ τ)) t.heap) args s) (F0 m 25 ls []) := by
      intro n9
      induction n9 with
      | zero =>
        intro d x s9 hn9 hd hq hF h24 h25 h26 h0 H locs hO ls hl
        exact absurd hn9 (Nat.not_lt_zero _)
      | succ n9 ih_25 =>
        intro d x s9 hn9 hd hq hF h24 h25 h26 h0 H locs hO ls hl
        have hN9 : s9 140 22 = nI N := by rw [hF 140 22 (by omega)]; exact hN
        have hT : s9 156 = σ 156 := hF.T
        refine lv_aload_n S.1 S.2.1 d_MD_digits_25 rfl (lv_at hl 1 rfl) ?_
        refine g_VP (As := []) (rest := []) S hO (k_MD_isDigit l G ad s9 τ N hN9 hN4 (pp + d) h24 (by omega)) cw_MD_131 (by decide) (sh_140 G ad _ _) rfl rfl hl.1 (Nat.le_of_ble_eq_true rfl) ⟨(Nat.le_of_ble_eq_true rfl), (Nat.le_of_ble_eq_true rfl)⟩ ⟨(Nat.le_of_ble_eq_true rfl), (Nat.le_of_ble_eq_true rfl)⟩ d_MD_digits_26 (fun q x ce H h9 => h9.elim) (fun v H v_2 hO => ?_)
        subst v_2
        refine W.eq (g2 := F0 m 29 ls [.int (bI (dgB (nxS (s9 156) N (pp + d))))]) rfl ?_
        refine lv_if_eq (tgt := 105) S.1 S.2.1 d_MD_digits_29 (by decide) (fun c_29 => ?_) (fun c_29 => ?_)
        · skip
          have q_29 : (dgB (nxS (s9 156) N (pp + d))) = false := b_0 c_29
          rw [hT] at q_29
          have hd0 : d ≠ 0 := fun z => absurd (h0 z) (by subst z; rw [show pp = pp + 0 from rfl, q_29]; decide)
          have e7 : 7 - d = (7 - (d + 1)) + 1 := by omega
          refine lv_iload_n S.1 S.2.1 d_MD_digits_105 rfl (lv_at hl 0 rfl) ?_
          exact im_i S hk hr hO ⟨rfl, hF, rfl, dgP_o (pnm_y (by rw [hq, e7, pdl_0 q_29]) hd0) h25 h24 h26⟩ (Nat.le_of_ble_eq_true rfl) (Nat.le_of_ble_eq_true rfl) d_MD_digits_106
        · skip
          have q_29 : (dgB (nxS (s9 156) N (pp + d))) = true := b_1 c_29
          rw [hT] at q_29
          have qd := q_29
          have e7 : 7 - d = (7 - (d + 1)) + 1 := by omega
          refine lv_aload_n S.1 S.2.1 d_MD_digits_32 rfl (lv_at hl 1 rfl) ?_
          refine g_get S hO fl_MD_117 (by decide) (sh_140 G ad _ _) (v := .int (s9 140 25)) rfl d_MD_digits_33 ?_
          refine W.eq (g2 := F0 m 36 ls [.int (-1)]) (by rw [show s9 140 25 = (-1) from h25]) ?_
          refine lv_if_ge (tgt := 105) S.1 S.2.1 d_MD_digits_36 (by decide) (fun c_36 => ?_) (fun c_36 => ?_)
          · skip
            exact absurd c_36 (by decide)
          · skip
            refine lv_aload_n S.1 S.2.1 d_MD_digits_39 rfl (lv_at hl 1 rfl) ?_
            refine g_get S hO fl_MD_114 (by decide) (sh_140 G ad _ _) (v := .int (s9 140 24)) rfl d_MD_digits_40 ?_
            refine W.eq (g2 := F0 m 43 ls [.int (nI (pp + d))]) (by rw [show s9 140 24 = nI (pp + d) from h24]) ?_
            refine lv_iload_n S.1 S.2.1 d_MD_digits_43 rfl (lv_at hl 0 rfl) ?_
            refine lv_icmp_le (tgt := 54) S.1 S.2.1 d_MD_digits_44 (by decide) (fun c_44 => ?_) (fun c_44 => ?_)
            · skip
              have h44 : d = 0 := by have h9 := ge_nI (n := pp + d) (N := pp) rfl rfl (by omega) (by omega) c_44; omega
              refine lv_aload_n S.1 S.2.1 d_MD_digits_54 rfl (lv_at hl 1 rfl) ?_
              refine g_get S hO fl_MD_114 (by decide) (sh_140 G ad _ _) (v := .int (s9 140 24)) rfl d_MD_digits_55 ?_
              refine W.eq (g2 := F0 m 58 ls [.int (nI (pp + d))]) (by rw [show s9 140 24 = nI (pp + d) from h24]) ?_
              refine lv_iload_n S.1 S.2.1 d_MD_digits_58 rfl (lv_at hl 0 rfl) ?_
              refine lv_bipush (v := 6) S.1 S.2.1 d_MD_digits_59 (by decide) ?_
              refine lv_iadd S.1 S.2.1 d_MD_digits_61 ?_
              refine W.eq (g2 := F0 m 62 ls [.int (nI (pp + 6)), .int (nI (pp + d))]) (by rw [show (nI pp) + (6 : Int32) = nI (pp + 6) from nI_add pp 6]) ?_
              refine lv_icmp_ne (tgt := 73) S.1 S.2.1 d_MD_digits_62 (by decide) (fun c_62 => ?_) (fun c_62 => ?_)
              · skip
                have hd6 : d ≠ 6 := fun z => c_62 (by rw [z])
                have hno : ¬ ((0 < d ∧ x = 0) ∨ d = 6) := fun z => z.elim (fun z => by omega) hd6
                refine lv_aload_n S.1 S.2.1 d_MD_digits_73 rfl (lv_at hl 1 rfl) ?_
                refine lv_bipush (v := 10) S.1 S.2.1 d_MD_digits_74 (by decide) ?_
                refine lv_aload_n S.1 S.2.1 d_MD_digits_76 rfl (lv_at hl 1 rfl) ?_
                refine g_get S hO fl_MD_128 (by decide) (sh_140 G ad _ _) (v := .int (s9 140 26)) rfl d_MD_digits_77 ?_
                refine W.eq (g2 := F0 m 80 ls [.int x, .int 10, .ref (ad 140)]) (by rw [show s9 140 26 = x from h26]) ?_
                refine lv_imul S.1 S.2.1 d_MD_digits_80 ?_
                refine lv_aload_n S.1 S.2.1 d_MD_digits_81 rfl (lv_at hl 1 rfl) ?_
                refine g_VP (As := []) (rest := [.int (10 * x), .ref (ad 140)]) S hO (k_MD_now l G ad s9 τ N hN9 hN4 (pp + d) h24 (by omega)) cw_MD_120 (by decide) (sh_140 G ad _ _) rfl rfl hl.1 (Nat.le_of_ble_eq_true rfl) ⟨(Nat.le_of_ble_eq_true rfl), (Nat.le_of_ble_eq_true rfl)⟩ ⟨(Nat.le_of_ble_eq_true rfl), (Nat.le_of_ble_eq_true rfl)⟩ d_MD_digits_82 (fun q x ce H h9 => h9.elim) (fun v H v_3 hO => ?_)
                subst v_3
                refine W.eq (g2 := F0 m 85 ls [.int (nxS (s9 156) N (pp + d)), .int (10 * x), .ref (ad 140)]) rfl ?_
                refine lv_iadd S.1 S.2.1 d_MD_digits_85 ?_
                refine lv_bipush (v := 48) S.1 S.2.1 d_MD_digits_86 (by decide) ?_
                refine lv_isub S.1 S.2.1 d_MD_digits_88 ?_
                obtain ⟨sn, hsn⟩ : ∃ z : Nat → Nat → Int32, z = up2 s9 140 26 (((10 * x) + (nxS (s9 156) N (pp + d))) - 48) := ⟨_, rfl⟩
                refine g_put S hO (fun _ h => h) fp_MD_128 (by decide) (sh_140 G ad _ _) (v := .int (((10 * x) + (nxS (s9 156) N (pp + d))) - 48)) rfl rfl (Nat.le_of_ble_eq_true rfl) (E2 := enc G ad sn τ) (by rw [hsn]; exact enc_i (sh_140 G ad _ _)) d_MD_digits_89 (fun H locs hO => ?_)
                refine lv_aload_n S.1 S.2.1 d_MD_digits_92 rfl (lv_at hl 1 rfl) ?_
                refine lv_dup S.1 S.2.1 d_MD_digits_93 rfl ?_
                refine g_get S hO fl_MD_114 (by decide) (sh_140 G ad _ _) (v := .int (sn 140 24)) rfl d_MD_digits_94 ?_
                refine W.eq (g2 := F0 m 97 ls [.int (nI (pp + d)), .ref (ad 140)]) (by rw [show sn 140 24 = nI (pp + d) from (by simp [hsn, up2_at, h24])]) ?_
                refine lv_iconst (v := 1) S.1 S.2.1 d_MD_digits_97 (by decide) ?_
                refine lv_iadd S.1 S.2.1 d_MD_digits_98 ?_
                refine W.eq (g2 := F0 m 99 ls [.int (nI (pp + d + 1)), .ref (ad 140)]) (by rw [show (nI (pp + d)) + (1 : Int32) = nI (pp + d + 1) from nI_add (pp + d) 1]) ?_
                obtain ⟨sa, hsa⟩ : ∃ z : Nat → Nat → Int32, z = up2 sn 140 24 (nI (pp + d + 1)) := ⟨_, rfl⟩
                refine g_put S hO (fun _ h => h) fp_MD_114 (by decide) (sh_140 G ad _ _) (v := .int (nI (pp + d + 1))) rfl rfl (Nat.le_of_ble_eq_true rfl) (E2 := enc G ad sa τ) (by rw [hsa]; exact enc_i (sh_140 G ad _ _)) d_MD_digits_99 (fun H locs hO => ?_)
                refine lv_goto (tgt := 25) S.1 S.2.1 d_MD_digits_102 (by decide) ?_
                exact ih_25 (d + 1) (x * 10 + nxS (σ 156) N (pp + d) - 48) sa (by omega) (by omega) (by rw [hq, e7, pdl_s qd hno]) (by rw [hsa, hsn]; exact (hF.up (by omega)).up (by omega)) (by rw [hsa, up2_s]; rfl) (by rw [hsa, up2_j (by decide), hsn, up2_j (by decide)]; exact h25) (by rw [hsa, up2_j (by decide), hsn, up2_s, hT, Int32.mul_comm]) (fun z => absurd z (by omega)) _ _ hO ls (lv_sub hl [0, 1] rfl)
              · skip
                have h62 : d = 6 := by have h9 := (nI_eq (a := pp + d) (b := pp + 6) (by omega) (by omega)).mp c_62; omega
                refine lv_aload_n S.1 S.2.1 d_MD_digits_65 rfl (lv_at hl 1 rfl) ?_
                refine lv_aload_n S.1 S.2.1 d_MD_digits_66 rfl (lv_at hl 1 rfl) ?_
                refine g_get S hO fl_MD_114 (by decide) (sh_140 G ad _ _) (v := .int (s9 140 24)) rfl d_MD_digits_67 ?_
                refine W.eq (g2 := F0 m 70 ls [.int (nI (pp + d)), .ref (ad 140)]) (by rw [show s9 140 24 = nI (pp + d) from h24]) ?_
                refine g_VI (As := [.int (nI (pp + d))]) (rest := []) S hO (fun _ h => h) (k_MD_fault l G ad s9 τ (nI (pp + d)) h25) cw_MD_124 (by decide) (sh_140 G ad _ _) rfl rfl hl.1 (Nat.le_of_ble_eq_true rfl) ⟨(Nat.le_of_ble_eq_true rfl), (Nat.le_of_ble_eq_true rfl)⟩ ⟨(Nat.le_of_ble_eq_true rfl), (Nat.le_of_ble_eq_true rfl)⟩ d_MD_digits_70 (fun q x ce H locs h9 => h9.elim) (fun v E1 H locs v_4 hO => ?_)
                obtain ⟨sf, t_5, rfl, rfl, hsf, ht_5⟩ := v_4
                rw [ht_5] at hO
                refine W.eq (g2 := F0 m 73 ls []) rfl ?_
                refine lv_aload_n S.1 S.2.1 d_MD_digits_73 rfl (lv_at hl 1 rfl) ?_
                refine lv_bipush (v := 10) S.1 S.2.1 d_MD_digits_74 (by decide) ?_
                refine lv_aload_n S.1 S.2.1 d_MD_digits_76 rfl (lv_at hl 1 rfl) ?_
                refine g_get S hO fl_MD_128 (by decide) (sh_140 G ad _ _) (v := .int (sf 140 26)) rfl d_MD_digits_77 ?_
                refine W.eq (g2 := F0 m 80 ls [.int x, .int 10, .ref (ad 140)]) (by rw [show sf 140 26 = x from (by simp [hsf, up2_at, h26])]) ?_
                refine lv_imul S.1 S.2.1 d_MD_digits_80 ?_
                refine lv_aload_n S.1 S.2.1 d_MD_digits_81 rfl (lv_at hl 1 rfl) ?_
                refine g_VP (As := []) (rest := [.int (10 * x), .ref (ad 140)]) S hO (k_MD_now l G ad sf τ N (by simp [hsf, up2_at, hN9]) hN4 (pp + d) (by simp [hsf, up2_at, h24]) (by omega)) cw_MD_120 (by decide) (sh_140 G ad _ _) rfl rfl hl.1 (Nat.le_of_ble_eq_true rfl) ⟨(Nat.le_of_ble_eq_true rfl), (Nat.le_of_ble_eq_true rfl)⟩ ⟨(Nat.le_of_ble_eq_true rfl), (Nat.le_of_ble_eq_true rfl)⟩ d_MD_digits_82 (fun q x ce H h9 => h9.elim) (fun v H v_6 hO => ?_)
                subst v_6
                refine W.eq (g2 := F0 m 85 ls [.int (nxS (sf 156) N (pp + d)), .int (10 * x), .ref (ad 140)]) rfl ?_
                refine lv_iadd S.1 S.2.1 d_MD_digits_85 ?_
                refine lv_bipush (v := 48) S.1 S.2.1 d_MD_digits_86 (by decide) ?_
                refine lv_isub S.1 S.2.1 d_MD_digits_88 ?_
                obtain ⟨sn, hsn⟩ : ∃ z : Nat → Nat → Int32, z = up2 sf 140 26 (((10 * x) + (nxS (sf 156) N (pp + d))) - 48) := ⟨_, rfl⟩
                refine g_put S hO (fun _ h => h) fp_MD_128 (by decide) (sh_140 G ad _ _) (v := .int (((10 * x) + (nxS (sf 156) N (pp + d))) - 48)) rfl rfl (Nat.le_of_ble_eq_true rfl) (E2 := enc G ad sn τ) (by rw [hsn]; exact enc_i (sh_140 G ad _ _)) d_MD_digits_89 (fun H locs hO => ?_)
                refine lv_aload_n S.1 S.2.1 d_MD_digits_92 rfl (lv_at hl 1 rfl) ?_
                refine lv_dup S.1 S.2.1 d_MD_digits_93 rfl ?_
                refine g_get S hO fl_MD_114 (by decide) (sh_140 G ad _ _) (v := .int (sn 140 24)) rfl d_MD_digits_94 ?_
                refine W.eq (g2 := F0 m 97 ls [.int (nI (pp + d)), .ref (ad 140)]) (by rw [show sn 140 24 = nI (pp + d) from (by simp [hsn, hsf, up2_at, h24])]) ?_
                refine lv_iconst (v := 1) S.1 S.2.1 d_MD_digits_97 (by decide) ?_
                refine lv_iadd S.1 S.2.1 d_MD_digits_98 ?_
                refine W.eq (g2 := F0 m 99 ls [.int (nI (pp + d + 1)), .ref (ad 140)]) (by rw [show (nI (pp + d)) + (1 : Int32) = nI (pp + d + 1) from nI_add (pp + d) 1]) ?_
                obtain ⟨sa, hsa⟩ : ∃ z : Nat → Nat → Int32, z = up2 sn 140 24 (nI (pp + d + 1)) := ⟨_, rfl⟩
                refine g_put S hO (fun _ h => h) fp_MD_114 (by decide) (sh_140 G ad _ _) (v := .int (nI (pp + d + 1))) rfl rfl (Nat.le_of_ble_eq_true rfl) (E2 := enc G ad sa τ) (by rw [hsa]; exact enc_i (sh_140 G ad _ _)) d_MD_digits_99 (fun H locs hO => ?_)
                refine lv_goto (tgt := 25) S.1 S.2.1 d_MD_digits_102 (by decide) ?_
                refine lv_aload_n S.1 S.2.1 d_MD_digits_25 rfl (lv_at hl 1 rfl) ?_
                refine g_VP (As := []) (rest := []) S hO (k_MD_isDigit l G ad sa τ N (by simp [hsa, hsn, hsf, up2_at, hN9]) hN4 (pp + d + 1) (by simp [hsa, hsn, hsf, up2_at]) (by omega)) cw_MD_131 (by decide) (sh_140 G ad _ _) rfl rfl hl.1 (Nat.le_of_ble_eq_true rfl) ⟨(Nat.le_of_ble_eq_true rfl), (Nat.le_of_ble_eq_true rfl)⟩ ⟨(Nat.le_of_ble_eq_true rfl), (Nat.le_of_ble_eq_true rfl)⟩ d_MD_digits_26 (fun q x ce H h9 => h9.elim) (fun v H v_7 hO => ?_)
                subst v_7
                refine W.eq (g2 := F0 m 29 ls [.int (bI (dgB (nxS (sa 156) N (pp + d + 1))))]) rfl ?_
                refine lv_if_eq (tgt := 105) S.1 S.2.1 d_MD_digits_29 (by decide) (fun c_29 => ?_) (fun c_29 => ?_)
                · skip
                  have q_29 : (dgB (nxS (sa 156) N (pp + d + 1))) = false := b_0 c_29
                  refine lv_iload_n S.1 S.2.1 d_MD_digits_105 rfl (lv_at hl 0 rfl) ?_
                  exact im_i S hk hr hO ⟨rfl, by rw [hsa, hsn, hsf]; exact ((hF.up (by omega)).up (by omega)).up (by omega), rfl, dgP_e (pnm_e (by rw [hq, e7, pdl_e qd (Or.inr (by omega))])) (by rw [hsa, up2_j (by decide), hsn, up2_j (by decide), hsf, up2_s])⟩ (Nat.le_of_ble_eq_true rfl) (Nat.le_of_ble_eq_true rfl) d_MD_digits_106
                · skip
                  have q_29 : (dgB (nxS (sa 156) N (pp + d + 1))) = true := b_1 c_29
                  refine lv_aload_n S.1 S.2.1 d_MD_digits_32 rfl (lv_at hl 1 rfl) ?_
                  refine g_get S hO fl_MD_117 (by decide) (sh_140 G ad _ _) (v := .int (sa 140 25)) rfl d_MD_digits_33 ?_
                  refine W.eq (g2 := F0 m 36 ls [.int (nI (pp + d))]) (by rw [show sa 140 25 = nI (pp + d) from (by simp [hsa, hsn, hsf, up2_at])]) ?_
                  refine lv_if_ge (tgt := 105) S.1 S.2.1 d_MD_digits_36 (by decide) (fun c_36 => ?_) (fun c_36 => ?_)
                  · skip
                    refine lv_iload_n S.1 S.2.1 d_MD_digits_105 rfl (lv_at hl 0 rfl) ?_
                    exact im_i S hk hr hO ⟨rfl, by rw [hsa, hsn, hsf]; exact ((hF.up (by omega)).up (by omega)).up (by omega), rfl, dgP_e (pnm_e (by rw [hq, e7, pdl_e qd (Or.inr (by omega))])) (by rw [hsa, up2_j (by decide), hsn, up2_j (by decide), hsf, up2_s])⟩ (Nat.le_of_ble_eq_true rfl) (Nat.le_of_ble_eq_true rfl) d_MD_digits_106
                  · skip
                    exact absurd (nI_pos' (by omega)) c_36
            · skip
              have h44 : 0 < d := by have h9 := ngt_nI (x := nI (pp + d)) (n := pp + d) (N := pp) rfl rfl (by omega) (by omega) c_44; omega
              refine lv_aload_n S.1 S.2.1 d_MD_digits_47 rfl (lv_at hl 1 rfl) ?_
              refine g_get S hO fl_MD_128 (by decide) (sh_140 G ad _ _) (v := .int (s9 140 26)) rfl d_MD_digits_48 ?_
              refine W.eq (g2 := F0 m 51 ls [.int x]) (by rw [show s9 140 26 = x from h26]) ?_
              refine lv_if_eq (tgt := 65) S.1 S.2.1 d_MD_digits_51 (by decide) (fun c_51 => ?_) (fun c_51 => ?_)
              · skip
                refine lv_aload_n S.1 S.2.1 d_MD_digits_65 rfl (lv_at hl 1 rfl) ?_
                refine lv_aload_n S.1 S.2.1 d_MD_digits_66 rfl (lv_at hl 1 rfl) ?_
                refine g_get S hO fl_MD_114 (by decide) (sh_140 G ad _ _) (v := .int (s9 140 24)) rfl d_MD_digits_67 ?_
                refine W.eq (g2 := F0 m 70 ls [.int (nI (pp + d)), .ref (ad 140)]) (by rw [show s9 140 24 = nI (pp + d) from h24]) ?_
                refine g_VI (As := [.int (nI (pp + d))]) (rest := []) S hO (fun _ h => h) (k_MD_fault l G ad s9 τ (nI (pp + d)) h25) cw_MD_124 (by decide) (sh_140 G ad _ _) rfl rfl hl.1 (Nat.le_of_ble_eq_true rfl) ⟨(Nat.le_of_ble_eq_true rfl), (Nat.le_of_ble_eq_true rfl)⟩ ⟨(Nat.le_of_ble_eq_true rfl), (Nat.le_of_ble_eq_true rfl)⟩ d_MD_digits_70 (fun q x ce H locs h9 => h9.elim) (fun v E1 H locs v_8 hO => ?_)
                obtain ⟨sf, t_9, rfl, rfl, hsf, ht_9⟩ := v_8
                rw [ht_9] at hO
                refine W.eq (g2 := F0 m 73 ls []) rfl ?_
                refine lv_aload_n S.1 S.2.1 d_MD_digits_73 rfl (lv_at hl 1 rfl) ?_
                refine lv_bipush (v := 10) S.1 S.2.1 d_MD_digits_74 (by decide) ?_
                refine lv_aload_n S.1 S.2.1 d_MD_digits_76 rfl (lv_at hl 1 rfl) ?_
                refine g_get S hO fl_MD_128 (by decide) (sh_140 G ad _ _) (v := .int (sf 140 26)) rfl d_MD_digits_77 ?_
                refine W.eq (g2 := F0 m 80 ls [.int x, .int 10, .ref (ad 140)]) (by rw [show sf 140 26 = x from (by simp [hsf, up2_at, h26])]) ?_
                refine lv_imul S.1 S.2.1 d_MD_digits_80 ?_
                refine lv_aload_n S.1 S.2.1 d_MD_digits_81 rfl (lv_at hl 1 rfl) ?_
                refine g_VP (As := []) (rest := [.int (10 * x), .ref (ad 140)]) S hO (k_MD_now l G ad sf τ N (by simp [hsf, up2_at, hN9]) hN4 (pp + d) (by simp [hsf, up2_at, h24]) (by omega)) cw_MD_120 (by decide) (sh_140 G ad _ _) rfl rfl hl.1 (Nat.le_of_ble_eq_true rfl) ⟨(Nat.le_of_ble_eq_true rfl), (Nat.le_of_ble_eq_true rfl)⟩ ⟨(Nat.le_of_ble_eq_true rfl), (Nat.le_of_ble_eq_true rfl)⟩ d_MD_digits_82 (fun q x ce H h9 => h9.elim) (fun v H v_10 hO => ?_)
                subst v_10
                refine W.eq (g2 := F0 m 85 ls [.int (nxS (sf 156) N (pp + d)), .int (10 * x), .ref (ad 140)]) rfl ?_
                refine lv_iadd S.1 S.2.1 d_MD_digits_85 ?_
                refine lv_bipush (v := 48) S.1 S.2.1 d_MD_digits_86 (by decide) ?_
                refine lv_isub S.1 S.2.1 d_MD_digits_88 ?_
                obtain ⟨sn, hsn⟩ : ∃ z : Nat → Nat → Int32, z = up2 sf 140 26 (((10 * x) + (nxS (sf 156) N (pp + d))) - 48) := ⟨_, rfl⟩
                refine g_put S hO (fun _ h => h) fp_MD_128 (by decide) (sh_140 G ad _ _) (v := .int (((10 * x) + (nxS (sf 156) N (pp + d))) - 48)) rfl rfl (Nat.le_of_ble_eq_true rfl) (E2 := enc G ad sn τ) (by rw [hsn]; exact enc_i (sh_140 G ad _ _)) d_MD_digits_89 (fun H locs hO => ?_)
                refine lv_aload_n S.1 S.2.1 d_MD_digits_92 rfl (lv_at hl 1 rfl) ?_
                refine lv_dup S.1 S.2.1 d_MD_digits_93 rfl ?_
                refine g_get S hO fl_MD_114 (by decide) (sh_140 G ad _ _) (v := .int (sn 140 24)) rfl d_MD_digits_94 ?_
                refine W.eq (g2 := F0 m 97 ls [.int (nI (pp + d)), .ref (ad 140)]) (by rw [show sn 140 24 = nI (pp + d) from (by simp [hsn, hsf, up2_at, h24])]) ?_
                refine lv_iconst (v := 1) S.1 S.2.1 d_MD_digits_97 (by decide) ?_
                refine lv_iadd S.1 S.2.1 d_MD_digits_98 ?_
                refine W.eq (g2 := F0 m 99 ls [.int (nI (pp + d + 1)), .ref (ad 140)]) (by rw [show (nI (pp + d)) + (1 : Int32) = nI (pp + d + 1) from nI_add (pp + d) 1]) ?_
                obtain ⟨sa, hsa⟩ : ∃ z : Nat → Nat → Int32, z = up2 sn 140 24 (nI (pp + d + 1)) := ⟨_, rfl⟩
                refine g_put S hO (fun _ h => h) fp_MD_114 (by decide) (sh_140 G ad _ _) (v := .int (nI (pp + d + 1))) rfl rfl (Nat.le_of_ble_eq_true rfl) (E2 := enc G ad sa τ) (by rw [hsa]; exact enc_i (sh_140 G ad _ _)) d_MD_digits_99 (fun H locs hO => ?_)
                refine lv_goto (tgt := 25) S.1 S.2.1 d_MD_digits_102 (by decide) ?_
                refine lv_aload_n S.1 S.2.1 d_MD_digits_25 rfl (lv_at hl 1 rfl) ?_
                refine g_VP (As := []) (rest := []) S hO (k_MD_isDigit l G ad sa τ N (by simp [hsa, hsn, hsf, up2_at, hN9]) hN4 (pp + d + 1) (by simp [hsa, hsn, hsf, up2_at]) (by omega)) cw_MD_131 (by decide) (sh_140 G ad _ _) rfl rfl hl.1 (Nat.le_of_ble_eq_true rfl) ⟨(Nat.le_of_ble_eq_true rfl), (Nat.le_of_ble_eq_true rfl)⟩ ⟨(Nat.le_of_ble_eq_true rfl), (Nat.le_of_ble_eq_true rfl)⟩ d_MD_digits_26 (fun q x ce H h9 => h9.elim) (fun v H v_11 hO => ?_)
                subst v_11
                refine W.eq (g2 := F0 m 29 ls [.int (bI (dgB (nxS (sa 156) N (pp + d + 1))))]) rfl ?_
                refine lv_if_eq (tgt := 105) S.1 S.2.1 d_MD_digits_29 (by decide) (fun c_29 => ?_) (fun c_29 => ?_)
                · skip
                  have q_29 : (dgB (nxS (sa 156) N (pp + d + 1))) = false := b_0 c_29
                  refine lv_iload_n S.1 S.2.1 d_MD_digits_105 rfl (lv_at hl 0 rfl) ?_
                  exact im_i S hk hr hO ⟨rfl, by rw [hsa, hsn, hsf]; exact ((hF.up (by omega)).up (by omega)).up (by omega), rfl, dgP_e (pnm_e (by rw [hq, e7, pdl_e qd (Or.inl ⟨by omega, c_51⟩)])) (by rw [hsa, up2_j (by decide), hsn, up2_j (by decide), hsf, up2_s])⟩ (Nat.le_of_ble_eq_true rfl) (Nat.le_of_ble_eq_true rfl) d_MD_digits_106
                · skip
                  have q_29 : (dgB (nxS (sa 156) N (pp + d + 1))) = true := b_1 c_29
                  refine lv_aload_n S.1 S.2.1 d_MD_digits_32 rfl (lv_at hl 1 rfl) ?_
                  refine g_get S hO fl_MD_117 (by decide) (sh_140 G ad _ _) (v := .int (sa 140 25)) rfl d_MD_digits_33 ?_
                  refine W.eq (g2 := F0 m 36 ls [.int (nI (pp + d))]) (by rw [show sa 140 25 = nI (pp + d) from (by simp [hsa, hsn, hsf, up2_at])]) ?_
                  refine lv_if_ge (tgt := 105) S.1 S.2.1 d_MD_digits_36 (by decide) (fun c_36 => ?_) (fun c_36 => ?_)
                  · skip
                    refine lv_iload_n S.1 S.2.1 d_MD_digits_105 rfl (lv_at hl 0 rfl) ?_
                    exact im_i S hk hr hO ⟨rfl, by rw [hsa, hsn, hsf]; exact ((hF.up (by omega)).up (by omega)).up (by omega), rfl, dgP_e (pnm_e (by rw [hq, e7, pdl_e qd (Or.inl ⟨by omega, c_51⟩)])) (by rw [hsa, up2_j (by decide), hsn, up2_j (by decide), hsf, up2_s])⟩ (Nat.le_of_ble_eq_true rfl) (Nat.le_of_ble_eq_true rfl) d_MD_digits_106
                  · skip
                    exact absurd (nI_pos' (by omega)) c_36
              · skip
                refine lv_aload_n S.1 S.2.1 d_MD_digits_54 rfl (lv_at hl 1 rfl) ?_
                refine g_get S hO fl_MD_114 (by decide) (sh_140 G ad _ _) (v := .int (s9 140 24)) rfl d_MD_digits_55 ?_
                refine W.eq (g2 := F0 m 58 ls [.int (nI (pp + d))]) (by rw [show s9 140 24 = nI (pp + d) from h24]) ?_
                refine lv_iload_n S.1 S.2.1 d_MD_digits_58 rfl (lv_at hl 0 rfl) ?_
                refine lv_bipush (v := 6) S.1 S.2.1 d_MD_digits_59 (by decide) ?_
                refine lv_iadd S.1 S.2.1 d_MD_digits_61 ?_
                refine W.eq (g2 := F0 m 62 ls [.int (nI (pp + 6)), .int (nI (pp + d))]) (by rw [show (nI pp) + (6 : Int32) = nI (pp + 6) from nI_add pp 6]) ?_
                refine lv_icmp_ne (tgt := 73) S.1 S.2.1 d_MD_digits_62 (by decide) (fun c_62 => ?_) (fun c_62 => ?_)
                · skip
                  have hd6 : d ≠ 6 := fun z => c_62 (by rw [z])
                  have hno : ¬ ((0 < d ∧ x = 0) ∨ d = 6) := fun z => z.elim (fun z => c_51 z.2) hd6
                  refine lv_aload_n S.1 S.2.1 d_MD_digits_73 rfl (lv_at hl 1 rfl) ?_
                  refine lv_bipush (v := 10) S.1 S.2.1 d_MD_digits_74 (by decide) ?_
                  refine lv_aload_n S.1 S.2.1 d_MD_digits_76 rfl (lv_at hl 1 rfl) ?_
                  refine g_get S hO fl_MD_128 (by decide) (sh_140 G ad _ _) (v := .int (s9 140 26)) rfl d_MD_digits_77 ?_
                  refine W.eq (g2 := F0 m 80 ls [.int x, .int 10, .ref (ad 140)]) (by rw [show s9 140 26 = x from h26]) ?_
                  refine lv_imul S.1 S.2.1 d_MD_digits_80 ?_
                  refine lv_aload_n S.1 S.2.1 d_MD_digits_81 rfl (lv_at hl 1 rfl) ?_
                  refine g_VP (As := []) (rest := [.int (10 * x), .ref (ad 140)]) S hO (k_MD_now l G ad s9 τ N hN9 hN4 (pp + d) h24 (by omega)) cw_MD_120 (by decide) (sh_140 G ad _ _) rfl rfl hl.1 (Nat.le_of_ble_eq_true rfl) ⟨(Nat.le_of_ble_eq_true rfl), (Nat.le_of_ble_eq_true rfl)⟩ ⟨(Nat.le_of_ble_eq_true rfl), (Nat.le_of_ble_eq_true rfl)⟩ d_MD_digits_82 (fun q x ce H h9 => h9.elim) (fun v H v_12 hO => ?_)
                  subst v_12
                  refine W.eq (g2 := F0 m 85 ls [.int (nxS (s9 156) N (pp + d)), .int (10 * x), .ref (ad 140)]) rfl ?_
                  refine lv_iadd S.1 S.2.1 d_MD_digits_85 ?_
                  refine lv_bipush (v := 48) S.1 S.2.1 d_MD_digits_86 (by decide) ?_
                  refine lv_isub S.1 S.2.1 d_MD_digits_88 ?_
                  obtain ⟨sn, hsn⟩ : ∃ z : Nat → Nat → Int32, z = up2 s9 140 26 (((10 * x) + (nxS (s9 156) N (pp + d))) - 48) := ⟨_, rfl⟩
                  refine g_put S hO (fun _ h => h) fp_MD_128 (by decide) (sh_140 G ad _ _) (v := .int (((10 * x) + (nxS (s9 156) N (pp + d))) - 48)) rfl rfl (Nat.le_of_ble_eq_true rfl) (E2 := enc G ad sn τ) (by rw [hsn]; exact enc_i (sh_140 G ad _ _)) d_MD_digits_89 (fun H locs hO => ?_)
                  refine lv_aload_n S.1 S.2.1 d_MD_digits_92 rfl (lv_at hl 1 rfl) ?_
                  refine lv_dup S.1 S.2.1 d_MD_digits_93 rfl ?_
                  refine g_get S hO fl_MD_114 (by decide) (sh_140 G ad _ _) (v := .int (sn 140 24)) rfl d_MD_digits_94 ?_
                  refine W.eq (g2 := F0 m 97 ls [.int (nI (pp + d)), .ref (ad 140)]) (by rw [show sn 140 24 = nI (pp + d) from (by simp [hsn, up2_at, h24])]) ?_
                  refine lv_iconst (v := 1) S.1 S.2.1 d_MD_digits_97 (by decide) ?_
                  refine lv_iadd S.1 S.2.1 d_MD_digits_98 ?_
                  refine W.eq (g2 := F0 m 99 ls [.int (nI (pp + d + 1)), .ref (ad 140)]) (by rw [show (nI (pp + d)) + (1 : Int32) = nI (pp + d + 1) from nI_add (pp + d) 1]) ?_
                  obtain ⟨sa, hsa⟩ : ∃ z : Nat → Nat → Int32, z = up2 sn 140 24 (nI (pp + d + 1)) := ⟨_, rfl⟩
                  refine g_put S hO (fun _ h => h) fp_MD_114 (by decide) (sh_140 G ad _ _) (v := .int (nI (pp + d + 1))) rfl rfl (Nat.le_of_ble_eq_true rfl) (E2 := enc G ad sa τ) (by rw [hsa]; exact enc_i (sh_140 G ad _ _)) d_MD_digits_99 (fun H locs hO => ?_)
                  refine lv_goto (tgt := 25) S.1 S.2.1 d_MD_digits_102 (by decide) ?_
                  exact ih_25 (d + 1) (x * 10 + nxS (σ 156) N (pp + d) - 48) sa (by omega) (by omega) (by rw [hq, e7, pdl_s qd hno]) (by rw [hsa, hsn]; exact (hF.up (by omega)).up (by omega)) (by rw [hsa, up2_s]; rfl) (by rw [hsa, up2_j (by decide), hsn, up2_j (by decide)]; exact h25) (by rw [hsa, up2_j (by decide), hsn, up2_s, hT, Int32.mul_comm]) (fun z => absurd z (by omega)) _ _ hO ls (lv_sub hl [0, 1] rfl)
                · skip
                  have h62 : d = 6 := by have h9 := (nI_eq (a := pp + d) (b := pp + 6) (by omega) (by omega)).mp c_62; omega
                  refine lv_aload_n S.1 S.2.1 d_MD_digits_65 rfl (lv_at hl 1 rfl) ?_
                  refine lv_aload_n S.1 S.2.1 d_MD_digits_66 rfl (lv_at hl 1 rfl) ?_
                  refine g_get S hO fl_MD_114 (by decide) (sh_140 G ad _ _) (v := .int (s9 140 24)) rfl d_MD_digits_67 ?_
                  refine W.eq (g2 := F0 m 70 ls [.int (nI (pp + d)), .ref (ad 140)]) (by rw [show s9 140 24 = nI (pp + d) from h24]) ?_
                  refine g_VI (As := [.int (nI (pp + d))]) (rest := []) S hO (fun _ h => h) (k_MD_fault l G ad s9 τ (nI (pp + d)) h25) cw_MD_124 (by decide) (sh_140 G ad _ _) rfl rfl hl.1 (Nat.le_of_ble_eq_true rfl) ⟨(Nat.le_of_ble_eq_true rfl), (Nat.le_of_ble_eq_true rfl)⟩ ⟨(Nat.le_of_ble_eq_true rfl), (Nat.le_of_ble_eq_true rfl)⟩ d_MD_digits_70 (fun q x ce H locs h9 => h9.elim) (fun v E1 H locs v_13 hO => ?_)
                  obtain ⟨sf, t_14, rfl, rfl, hsf, ht_14⟩ := v_13
                  rw [ht_14] at hO
                  refine W.eq (g2 := F0 m 73 ls []) rfl ?_
                  refine lv_aload_n S.1 S.2.1 d_MD_digits_73 rfl (lv_at hl 1 rfl) ?_
                  refine lv_bipush (v := 10) S.1 S.2.1 d_MD_digits_74 (by decide) ?_
                  refine lv_aload_n S.1 S.2.1 d_MD_digits_76 rfl (lv_at hl 1 rfl) ?_
                  refine g_get S hO fl_MD_128 (by decide) (sh_140 G ad _ _) (v := .int (sf 140 26)) rfl d_MD_digits_77 ?_
                  refine W.eq (g2 := F0 m 80 ls [.int x, .int 10, .ref (ad 140)]) (by rw [show sf 140 26 = x from (by simp [hsf, up2_at, h26])]) ?_
                  refine lv_imul S.1 S.2.1 d_MD_digits_80 ?_
                  refine lv_aload_n S.1 S.2.1 d_MD_digits_81 rfl (lv_at hl 1 rfl) ?_
                  refine g_VP (As := []) (rest := [.int (10 * x), .ref (ad 140)]) S hO (k_MD_now l G ad sf τ N (by simp [hsf, up2_at, hN9]) hN4 (pp + d) (by simp [hsf, up2_at, h24]) (by omega)) cw_MD_120 (by decide) (sh_140 G ad _ _) rfl rfl hl.1 (Nat.le_of_ble_eq_true rfl) ⟨(Nat.le_of_ble_eq_true rfl), (Nat.le_of_ble_eq_true rfl)⟩ ⟨(Nat.le_of_ble_eq_true rfl), (Nat.le_of_ble_eq_true rfl)⟩ d_MD_digits_82 (fun q x ce H h9 => h9.elim) (fun v H v_15 hO => ?_)
                  subst v_15
                  refine W.eq (g2 := F0 m 85 ls [.int (nxS (sf 156) N (pp + d)), .int (10 * x), .ref (ad 140)]) rfl ?_
                  refine lv_iadd S.1 S.2.1 d_MD_digits_85 ?_
                  refine lv_bipush (v := 48) S.1 S.2.1 d_MD_digits_86 (by decide) ?_
                  refine lv_isub S.1 S.2.1 d_MD_digits_88 ?_
                  obtain ⟨sn, hsn⟩ : ∃ z : Nat → Nat → Int32, z = up2 sf 140 26 (((10 * x) + (nxS (sf 156) N (pp + d))) - 48) := ⟨_, rfl⟩
                  refine g_put S hO (fun _ h => h) fp_MD_128 (by decide) (sh_140 G ad _ _) (v := .int (((10 * x) + (nxS (sf 156) N (pp + d))) - 48)) rfl rfl (Nat.le_of_ble_eq_true rfl) (E2 := enc G ad sn τ) (by rw [hsn]; exact enc_i (sh_140 G ad _ _)) d_MD_digits_89 (fun H locs hO => ?_)
                  refine lv_aload_n S.1 S.2.1 d_MD_digits_92 rfl (lv_at hl 1 rfl) ?_
                  refine lv_dup S.1 S.2.1 d_MD_digits_93 rfl ?_
                  refine g_get S hO fl_MD_114 (by decide) (sh_140 G ad _ _) (v := .int (sn 140 24)) rfl d_MD_digits_94 ?_
                  refine W.eq (g2 := F0 m 97 ls [.int (nI (pp + d)), .ref (ad 140)]) (by rw [show sn 140 24 = nI (pp + d) from (by simp [hsn, hsf, up2_at, h24])]) ?_
                  refine lv_iconst (v := 1) S.1 S.2.1 d_MD_digits_97 (by decide) ?_
                  refine lv_iadd S.1 S.2.1 d_MD_digits_98 ?_
                  refine W.eq (g2 := F0 m 99 ls [.int (nI (pp + d + 1)), .ref (ad 140)]) (by rw [show (nI (pp + d)) + (1 : Int32) = nI (pp + d + 1) from nI_add (pp + d) 1]) ?_
                  obtain ⟨sa, hsa⟩ : ∃ z : Nat → Nat → Int32, z = up2 sn 140 24 (nI (pp + d + 1)) := ⟨_, rfl⟩
                  refine g_put S hO (fun _ h => h) fp_MD_114 (by decide) (sh_140 G ad _ _) (v := .int (nI (pp + d + 1))) rfl rfl (Nat.le_of_ble_eq_true rfl) (E2 := enc G ad sa τ) (by rw [hsa]; exact enc_i (sh_140 G ad _ _)) d_MD_digits_99 (fun H locs hO => ?_)
                  refine lv_goto (tgt := 25) S.1 S.2.1 d_MD_digits_102 (by decide) ?_
                  refine lv_aload_n S.1 S.2.1 d_MD_digits_25 rfl (lv_at hl 1 rfl) ?_
                  refine g_VP (As := []) (rest := []) S hO (k_MD_isDigit l G ad sa τ N (by simp [hsa, hsn, hsf, up2_at, hN9]) hN4 (pp + d + 1) (by simp [hsa, hsn, hsf, up2_at]) (by omega)) cw_MD_131 (by decide) (sh_140 G ad _ _) rfl rfl hl.1 (Nat.le_of_ble_eq_true rfl) ⟨(Nat.le_of_ble_eq_true rfl), (Nat.le_of_ble_eq_true rfl)⟩ ⟨(Nat.le_of_ble_eq_true rfl), (Nat.le_of_ble_eq_true rfl)⟩ d_MD_digits_26 (fun q x ce H h9 => h9.elim) (fun v H v_16 hO => ?_)
                  subst v_16
                  refine W.eq (g2 := F0 m 29 ls [.int (bI (dgB (nxS (sa 156) N (pp + d + 1))))]) rfl ?_
                  refine lv_if_eq (tgt := 105) S.1 S.2.1 d_MD_digits_29 (by decide) (fun c_29 => ?_) (fun c_29 => ?_)
                  · skip
                    have q_29 : (dgB (nxS (sa 156) N (pp + d + 1))) = false := b_0 c_29
                    refine lv_iload_n S.1 S.2.1 d_MD_digits_105 rfl (lv_at hl 0 rfl) ?_
                    exact im_i S hk hr hO ⟨rfl, by rw [hsa, hsn, hsf]; exact ((hF.up (by omega)).up (by omega)).up (by omega), rfl, dgP_e (pnm_e (by rw [hq, e7, pdl_e qd (Or.inr (by omega))])) (by rw [hsa, up2_j (by decide), hsn, up2_j (by decide), hsf, up2_s])⟩ (Nat.le_of_ble_eq_true rfl) (Nat.le_of_ble_eq_true rfl) d_MD_digits_106
                  · skip
                    have q_29 : (dgB (nxS (sa 156) N (pp + d + 1))) = true := b_1 c_29
                    refine lv_aload_n S.1 S.2.1 d_MD_digits_32 rfl (lv_at hl 1 rfl) ?_
                    refine g_get S hO fl_MD_117 (by decide) (sh_140 G ad _ _) (v := .int (sa 140 25)) rfl d_MD_digits_33 ?_
                    refine W.eq (g2 := F0 m 36 ls [.int (nI (pp + d))]) (by rw [show sa 140 25 = nI (pp + d) from (by simp [hsa, hsn, hsf, up2_at])]) ?_
                    refine lv_if_ge (tgt := 105) S.1 S.2.1 d_MD_digits_36 (by decide) (fun c_36 => ?_) (fun c_36 => ?_)
                    · skip
                      refine lv_iload_n S.1 S.2.1 d_MD_digits_105 rfl (lv_at hl 0 rfl) ?_
                      exact im_i S hk hr hO ⟨rfl, by rw [hsa, hsn, hsf]; exact ((hF.up (by omega)).up (by omega)).up (by omega), rfl, dgP_e (pnm_e (by rw [hq, e7, pdl_e qd (Or.inr (by omega))])) (by rw [hsa, up2_j (by decide), hsn, up2_j (by decide), hsf, up2_s])⟩ (Nat.le_of_ble_eq_true rfl) (Nat.le_of_ble_eq_true rfl) d_MD_digits_106
                    · skip
                      exact absurd (nI_pos' (by omega)) c_36
    exact K_25 8 0 0 sz (by omega) (by omega) rfl (by rw [hsz]; exact (MXF.refl σ).up (by omega)) (by rw [hsz, up2_j (by decide)]; exact hp) (by rw [hsz, up2_j (by decide)]; exact hw) (by rw [hsz, up2_s]) (fun _ => q9) _ _ hO ls (lv_sub hl [0, 1] rfl)
  · skip
    have q_14 : (dgB (nxS (sz 156) N pp)) = false := b_0 c_14
    have q9 : dgB (nxS (σ 156) N (pp + 0)) = false := by rw [show sz 156 = σ 156 by rw [hsz]; exact up2_c (by decide)] at q_14; exact q_14
    refine lv_aload_n S.1 S.2.1 d_MD_digits_17 rfl (lv_at hl 1 rfl) ?_
    refine lv_aload_n S.1 S.2.1 d_MD_digits_18 rfl (lv_at hl 1 rfl) ?_
    refine g_get S hO fl_MD_114 (by decide) (sh_140 G ad _ _) (v := .int (sz 140 24)) rfl d_MD_digits_19 ?_
    refine W.eq (g2 := F0 m 22 ls [.int (nI pp), .ref (ad 140)]) (by rw [show sz 140 24 = nI pp from (by simp [hsz, up2_at, hp])]) ?_
    refine g_VI (As := [.int (nI pp)]) (rest := []) S hO (fun _ h => h) (k_MD_fault l G ad sz τ (nI pp) (by simp [hsz, up2_at, hw])) cw_MD_124 (by decide) (sh_140 G ad _ _) rfl rfl hl.1 (Nat.le_of_ble_eq_true rfl) ⟨(Nat.le_of_ble_eq_true rfl), (Nat.le_of_ble_eq_true rfl)⟩ ⟨(Nat.le_of_ble_eq_true rfl), (Nat.le_of_ble_eq_true rfl)⟩ d_MD_digits_22 (fun q x ce H locs h9 => h9.elim) (fun v E1 H locs v_17 hO => ?_)
    obtain ⟨sg, t_18, rfl, rfl, hsg, ht_18⟩ := v_17
    rw [ht_18] at hO
    refine W.eq (g2 := F0 m 25 ls []) rfl ?_
    refine lv_aload_n S.1 S.2.1 d_MD_digits_25 rfl (lv_at hl 1 rfl) ?_
    refine g_VP (As := []) (rest := []) S hO (k_MD_isDigit l G ad sg τ N (by simp [hsg, hsz, up2_at, hN]) hN4 pp (by simp [hsg, hsz, up2_at, hp]) (by omega)) cw_MD_131 (by decide) (sh_140 G ad _ _) rfl rfl hl.1 (Nat.le_of_ble_eq_true rfl) ⟨(Nat.le_of_ble_eq_true rfl), (Nat.le_of_ble_eq_true rfl)⟩ ⟨(Nat.le_of_ble_eq_true rfl), (Nat.le_of_ble_eq_true rfl)⟩ d_MD_digits_26 (fun q x ce H h9 => h9.elim) (fun v H v_19 hO => ?_)
    subst v_19
    refine W.eq (g2 := F0 m 29 ls [.int (bI (dgB (nxS (sg 156) N pp)))]) rfl ?_
    refine lv_if_eq (tgt := 105) S.1 S.2.1 d_MD_digits_29 (by decide) (fun c_29 => ?_) (fun c_29 => ?_)
    · skip
      have q_29 : (dgB (nxS (sg 156) N pp)) = false := b_0 c_29
      refine lv_iload_n S.1 S.2.1 d_MD_digits_105 rfl (lv_at hl 0 rfl) ?_
      exact im_i S hk hr hO ⟨rfl, by rw [hsg, hsz]; exact ((MXF.refl σ).up (by omega)).up (by omega), rfl, dgP_e (pnm_0 (v := 0) (pdl_0 (f := 6) q9)) (by rw [hsg, up2_s])⟩ (Nat.le_of_ble_eq_true rfl) (Nat.le_of_ble_eq_true rfl) d_MD_digits_106
    · skip
      have q_29 : (dgB (nxS (sg 156) N pp)) = true := b_1 c_29
      refine lv_aload_n S.1 S.2.1 d_MD_digits_32 rfl (lv_at hl 1 rfl) ?_
      refine g_get S hO fl_MD_117 (by decide) (sh_140 G ad _ _) (v := .int (sg 140 25)) rfl d_MD_digits_33 ?_
      refine W.eq (g2 := F0 m 36 ls [.int (nI pp)]) (by rw [show sg 140 25 = nI pp from (by simp [hsg, hsz, up2_at])]) ?_
      refine lv_if_ge (tgt := 105) S.1 S.2.1 d_MD_digits_36 (by decide) (fun c_36 => ?_) (fun c_36 => ?_)
      · skip
        refine lv_iload_n S.1 S.2.1 d_MD_digits_105 rfl (lv_at hl 0 rfl) ?_
        exact im_i S hk hr hO ⟨rfl, by rw [hsg, hsz]; exact ((MXF.refl σ).up (by omega)).up (by omega), rfl, dgP_e (pnm_0 (v := 0) (pdl_0 (f := 6) q9)) (by rw [hsg, up2_s])⟩ (Nat.le_of_ble_eq_true rfl) (Nat.le_of_ble_eq_true rfl) d_MD_digits_106
      · skip
        exact absurd (nI_pos' (by omega)) c_36
