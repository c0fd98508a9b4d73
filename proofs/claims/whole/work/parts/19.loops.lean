/-! Loops that only read. Written by wip/tools/m19.py. -/
/-- the first j from i on, of f, that b takes -/
def lpf (b : Nat → Bool) : Nat → Nat → Option Nat
  | 0, _ => none
  | f + 1, i => if b i = true then some i else lpf b f (i + 1)
theorem lpf_t {b : Nat → Bool} {f i : Nat} (h : b i = true) : lpf b (f + 1) i = some i := by rw [lpf, if_pos h]
theorem lpf_f {b : Nat → Bool} {f i : Nat} (h : ¬ b i = true) : lpf b (f + 1) i = lpf b f (i + 1) := by rw [lpf, if_neg h]
/-- the k-th of those -/
def nthx (b : Nat → Bool) : Nat → Nat → Nat → Option Nat
  | 0, _, _ => none
  | f + 1, j, k => if b j = true then (match k with
    | 0 => some j
    | q + 1 => nthx b f (j + 1) q) else nthx b f (j + 1) k
theorem nthx_0 {b : Nat → Bool} {f j : Nat} (h : b j = true) : nthx b (f + 1) j 0 = some j := by rw [nthx, if_pos h]
theorem nthx_s {b : Nat → Bool} {f j k : Nat} (h : b j = true) : nthx b (f + 1) j (k + 1) = nthx b f (j + 1) k := by rw [nthx, if_pos h]
theorem nthx_f {b : Nat → Bool} {f j k : Nat} (h : ¬ b j = true) : nthx b (f + 1) j k = nthx b f (j + 1) k := by
  cases k <;> simp [nthx, h]
theorem z_1 {P : Prop} {h : Decidable P} : (¬ @ite _ P h (1 : Int32) 0 = 0) ↔ P := by
  by_cases hp : P
  · rw [if_pos hp]; exact ⟨fun _ => hp, fun _ => by decide⟩
  · rw [if_neg hp]; exact ⟨fun z => absurd rfl z, fun z => absurd z hp⟩
def oI (o : Option Nat) : Int32 := match o with
  | none => (-1)
  | some j => nI j
theorem ge_nI {x M : Int32} {n N : Nat} (hx : x = nI n) (hM : M = nI N) (hn : n < 2 ^ 31) (hN : N < 2 ^ 31) (h : x ≤ M) : n ≤ N := by
  rw [hx, hM] at h
  exact (nI_leI hn hN).mp h
theorem ngt_nI {x M : Int32} {n N : Nat} (hx : x = nI n) (hM : M = nI N) (hn : n < 2 ^ 31) (hN : N < 2 ^ 31) (h : ¬ x ≤ M) : N < n := by
  rw [hx, hM] at h
  exact Nat.not_le.mp (fun z => h ((nI_leI hn hN).mpr z))
abbrev fwB (σ : Nat → Nat → Int32) (k u : Nat) : Nat → Bool := fun w => decide (fit6 σ k u (nI w))
set_option maxHeartbeats 4000000 in
set_option maxRecDepth 100000 in
theorem k_PL_firstWayFor (l : Launch) (G : gP) (ad : Nat → Nat) (σ : Nat → Nat → Int32) (τ : Nat → Nat → Int64) (i : Nat) (hi : i < 12) (u : Nat) (hu : u < 40) : gpu l y_PL_firstWayFor c_PL_firstWayFor 3 (some .int) { frames := 2, cells := 0, slots := 0, locals := 45 } G ad σ τ [.ref (ad (68 + i)), .ref (ad (80 + u))] 0 0 (fun v => v = some (.int (oI (lpf (fwB σ (68 + i) (80 + u)) 6 0)))) (fun _ => False) := by
  refine gs_of (fun _ h => h.elim) (by decide) (Nat.le_of_ble_eq_true rfl) ?_
  intro p e s m args below meth c ls S hk hr hx hl hO
  have hl : lv_has ls 3 [(0, .ref (ad (68 + i))), (1, .ref (ad (80 + u)))] := hl
  refine lv_iconst (v := 0) S.1 S.2.1 d_PL_firstWayFor_0 (by decide) ?_
  refine lv_istore_n (lv' := [(2, .int 0), (0, .ref (ad (68 + i))), (1, .ref (ad (80 + u)))]) S.1 S.2.1 d_PL_firstWayFor_1 rfl hl (by decide) rfl (fun ls hl => ?_)
  have K_2 : ∀ (n9 : Nat) (w : Nat), 6 - w < n9 → (w ≤ 6) → (lpf (fwB σ (68 + i) (80 + u)) 6 0 = lpf (fwB σ (68 + i) (80 + u)) (6 - w) w) → ∀ (H : Heap) (locs : List Loc), gO G (fun _ => False) 159 ad (enc G ad σ τ) s H locs → ∀ ls : Array Slot, lv_has ls 3 [(2, .int (nI w)), (0, .ref (ad (68 + i))), (1, .ref (ad (80 + u)))] → W p l e { frames := 2, cells := 0, slots := 0, locals := 45 } s m args below meth c H locs 0 0 (gM below (fun _ => False) 0 0 (fun v _ => (fun v => v = some (.int (oI (lpf (fwB σ (68 + i) (80 + u)) 6 0)))) v) (fun x _ => (fun _ => False) x) args s) (F0 m 2 ls []) := by
    intro n9
    induction n9 with
    | zero =>
      intro w hn9 hw6 hq H locs hO ls hl
      exact absurd hn9 (Nat.not_lt_zero _)
    | succ n9 ih_2 =>
      intro w hn9 hw6 hq H locs hO ls hl
      refine lv_iload_n S.1 S.2.1 d_PL_firstWayFor_2 rfl (lv_at hl 0 rfl) ?_
      refine lv_bipush (v := 6) S.1 S.2.1 d_PL_firstWayFor_3 (by decide) ?_
      refine lv_icmp_ge (tgt := 25) S.1 S.2.1 d_PL_firstWayFor_5 (by decide) (fun c_5 => ?_) (fun c_5 => ?_)
      · skip
        have hw : w = 6 := by have h9 := ge_nI (N := w) (n := 6) (by decide) rfl (by decide) (by omega) c_5; omega
        refine lv_iconst (v := (-1)) S.1 S.2.1 d_PL_firstWayFor_25 (by decide) ?_
        exact pu_i S hk hr hO (by rw [hq, hw]; rfl) (Nat.le_of_ble_eq_true rfl) (Nat.le_of_ble_eq_true rfl) d_PL_firstWayFor_26
      · skip
        have hw : w < 6 := ngt_nI (n := 6) (by decide) rfl (by decide) (by omega) c_5
        have e6 : 6 - w = (6 - (w + 1)) + 1 := by omega
        refine lv_aload_n S.1 S.2.1 d_PL_firstWayFor_8 rfl (lv_at hl 1 rfl) ?_
        refine lv_aload_n S.1 S.2.1 d_PL_firstWayFor_9 rfl (lv_at hl 2 rfl) ?_
        refine lv_iload_n S.1 S.2.1 d_PL_firstWayFor_10 rfl (lv_at hl 0 rfl) ?_
        refine g_VP (As := [.ref (ad (80 + u)), .int (nI w)]) (rest := []) S hO (k_PL_fits l G ad σ τ i (by omega) u (by omega) (nI w)) cw_PL_25 (by omega) (sh_PL G ad _ _ (by omega)) rfl rfl hl.1 (Nat.le_of_ble_eq_true rfl) ⟨(Nat.le_of_ble_eq_true rfl), (Nat.le_of_ble_eq_true rfl)⟩ ⟨(Nat.le_of_ble_eq_true rfl), (Nat.le_of_ble_eq_true rfl)⟩ d_PL_firstWayFor_11 (fun q x ce H h9 => h9.elim) (fun v H v_1 hO => ?_)
        subst v_1
        refine W.eq (g2 := F0 m 14 ls [.int (if fit6 σ (68 + i) (80 + u) (nI w) then 1 else 0)]) rfl ?_
        refine lv_if_eq (tgt := 19) S.1 S.2.1 d_PL_firstWayFor_14 (by decide) (fun c_14 => ?_) (fun c_14 => ?_)
        · skip
          obtain ⟨x_2, ex_2⟩ : ∃ z : Int32, z = (nI w) + 1 := ⟨_, rfl⟩
          refine lv_iinc (v := x_2) (lv' := [(2, .int x_2), (0, .ref (ad (68 + i))), (1, .ref (ad (80 + u)))]) S.1 S.2.1 d_PL_firstWayFor_19 hl (k := 0) rfl (by rw [ex_2]; rfl) (by decide) rfl (fun ls hl => ?_)
          refine lv_goto (tgt := 2) S.1 S.2.1 d_PL_firstWayFor_22 (by decide) ?_
          obtain rfl : x_2 = nI (w + 1) := by rw [ex_2]; exact nI_1 w
          exact ih_2 (w + 1) (by omega) (by omega) (by rw [hq, e6, lpf_f (by simpa using z_0.mp c_14)]) _ _ hO ls (lv_sub hl [0, 1, 2] rfl)
        · skip
          refine lv_iload_n S.1 S.2.1 d_PL_firstWayFor_17 rfl (lv_at hl 0 rfl) ?_
          exact pu_i S hk hr hO (by rw [hq, e6, lpf_t (by simpa using z_1.mp c_14)]; rfl) (Nat.le_of_ble_eq_true rfl) (Nat.le_of_ble_eq_true rfl) d_PL_firstWayFor_18
  exact K_2 7 0 (by omega) (by omega) rfl _ _ hO ls (lv_sub hl [0, 1, 2] rfl)
abbrev wvB (σ : Nat → Nat → Int32) (r p o d : Int32) : Nat → Bool := fun j => decide (cov σ (120 + j) r p o d)
set_option maxHeartbeats 4000000 in
set_option maxRecDepth 100000 in
theorem k_PR_isWaived (l : Launch) (G : gP) (ad : Nat → Nat) (σ : Nat → Nat → Int32) (τ : Nat → Nat → Int64) (r a b d : Int32) (nw : Nat) (hnw : σ 0 4 = nI nw) (hw2 : nw ≤ 20) : gpu l y_PR_isWaived c_PR_isWaived 6 (some .boolean) { frames := 1, cells := 0, slots := 0, locals := 24 } G ad σ τ [.ref (ad 0), .int r, .int a, .int b, .int d] 0 0 (fun v => v = some (.int (if (lpf (wvB σ r a b d) nw 0).isSome = true then 1 else 0))) (fun _ => False) := by
  refine gs_of (fun _ h => h.elim) (by decide) (Nat.le_of_ble_eq_true rfl) ?_
  intro p e s m args below meth c ls S hk hr hx hl hO
  have hl : lv_has ls 6 [(0, .ref (ad 0)), (1, .int r), (2, .int a), (3, .int b), (4, .int d)] := hl
  refine lv_iconst (v := 0) S.1 S.2.1 d_PR_isWaived_0 (by decide) ?_
  refine lv_istore (lv' := [(5, .int 0), (0, .ref (ad 0)), (1, .int r), (2, .int a), (3, .int b), (4, .int d)]) S.1 S.2.1 d_PR_isWaived_1 hl (by decide) rfl (fun ls hl => ?_)
  have K_3 : ∀ (n9 : Nat) (j : Nat), nw - j < n9 → (j ≤ nw) → (lpf (wvB σ r a b d) nw 0 = lpf (wvB σ r a b d) (nw - j) j) → ∀ (H : Heap) (locs : List Loc), gO G (fun _ => False) 159 ad (enc G ad σ τ) s H locs → ∀ ls : Array Slot, lv_has ls 6 [(5, .int (nI j)), (0, .ref (ad 0)), (1, .int r), (2, .int a), (3, .int b), (4, .int d)] → W p l e { frames := 1, cells := 0, slots := 0, locals := 24 } s m args below meth c H locs 0 0 (gM below (fun _ => False) 0 0 (fun v _ => (fun v => v = some (.int (if (lpf (wvB σ r a b d) nw 0).isSome = true then 1 else 0))) v) (fun x _ => (fun _ => False) x) args s) (F0 m 3 ls []) := by
    intro n9
    induction n9 with
    | zero =>
      intro j hn9 hj hq H locs hO ls hl
      exact absurd hn9 (Nat.not_lt_zero _)
    | succ n9 ih_3 =>
      intro j hn9 hj hq H locs hO ls hl
      refine lv_iload S.1 S.2.1 d_PR_isWaived_3 (lv_at hl 0 rfl) ?_
      refine lv_aload_n S.1 S.2.1 d_PR_isWaived_5 rfl (lv_at hl 1 rfl) ?_
      refine g_get S hO fl_PR_212 (by decide) (sh_0 G ad _ _) (v := .int (σ 0 4)) rfl d_PR_isWaived_6 ?_
      refine lv_icmp_ge (tgt := 38) S.1 S.2.1 d_PR_isWaived_9 (by decide) (fun c_9 => ?_) (fun c_9 => ?_)
      · skip
        have hw : j = nw := by have h9 := ge_nI hnw rfl (by omega) (by omega) c_9; omega
        refine lv_iconst (v := 0) S.1 S.2.1 d_PR_isWaived_38 (by decide) ?_
        exact pu_z S hk hr hO (by first | exact Or.inl rfl | exact Or.inr rfl) (by rw [hq, hw, Nat.sub_self]; rfl) (Nat.le_of_ble_eq_true rfl) (Nat.le_of_ble_eq_true rfl) d_PR_isWaived_39
      · skip
        have hw : j < nw := ngt_nI hnw rfl (by omega) (by omega) c_9
        have e6 : nw - j = (nw - (j + 1)) + 1 := by omega
        refine lv_aload_n S.1 S.2.1 d_PR_isWaived_12 rfl (lv_at hl 1 rfl) ?_
        refine g_get S hO fl_PR_23 (by decide) (sh_0 G ad _ _) (v := .ref (ad 3)) rfl d_PR_isWaived_13 ?_
        refine lv_iload S.1 S.2.1 d_PR_isWaived_16 (lv_at hl 0 rfl) ?_
        refine g_aal S hO (t0 := 5) (by decide) (sh_3 G ad _ _) rfl (vp_in_nI (show j < 20 by omega) (by decide)) (v := .ref (ad (120 + j))) (by rw [nI_clamp (by omega)]; rfl) d_PR_isWaived_18 ?_
        refine lv_iload_n S.1 S.2.1 d_PR_isWaived_19 rfl (lv_at hl 2 rfl) ?_
        refine lv_iload_n S.1 S.2.1 d_PR_isWaived_20 rfl (lv_at hl 3 rfl) ?_
        refine lv_iload_n S.1 S.2.1 d_PR_isWaived_21 rfl (lv_at hl 4 rfl) ?_
        refine lv_iload S.1 S.2.1 d_PR_isWaived_22 (lv_at hl 5 rfl) ?_
        refine g_VP (As := [.int r, .int a, .int b, .int d]) (rest := []) S hO (k_WV_covers l G ad σ τ j (by omega) r a b d) cw_PR_295 (by omega) (sh_WV G ad _ _ (by omega)) rfl rfl hl.1 (Nat.le_of_ble_eq_true rfl) ⟨(Nat.le_of_ble_eq_true rfl), (Nat.le_of_ble_eq_true rfl)⟩ ⟨(Nat.le_of_ble_eq_true rfl), (Nat.le_of_ble_eq_true rfl)⟩ d_PR_isWaived_24 (fun q x ce H h9 => h9.elim) (fun v H v_1 hO => ?_)
        subst v_1
        refine W.eq (g2 := F0 m 27 ls [.int (if cov σ (120 + j) r a b d then 1 else 0)]) rfl ?_
        refine lv_if_eq (tgt := 32) S.1 S.2.1 d_PR_isWaived_27 (by decide) (fun c_27 => ?_) (fun c_27 => ?_)
        · skip
          obtain ⟨x_2, ex_2⟩ : ∃ z : Int32, z = (nI j) + 1 := ⟨_, rfl⟩
          refine lv_iinc (v := x_2) (lv' := [(5, .int x_2), (0, .ref (ad 0)), (1, .int r), (2, .int a), (3, .int b), (4, .int d)]) S.1 S.2.1 d_PR_isWaived_32 hl (k := 0) rfl (by rw [ex_2]; rfl) (by decide) rfl (fun ls hl => ?_)
          refine lv_goto (tgt := 3) S.1 S.2.1 d_PR_isWaived_35 (by decide) ?_
          obtain rfl : x_2 = nI (j + 1) := by rw [ex_2]; exact nI_1 j
          exact ih_3 (j + 1) (by omega) (by omega) (by rw [hq, e6, lpf_f (by simpa using z_0.mp c_27)]) _ _ hO ls (lv_sub hl [0, 1, 2, 3, 4, 5] rfl)
        · skip
          refine lv_iconst (v := 1) S.1 S.2.1 d_PR_isWaived_30 (by decide) ?_
          exact pu_z S hk hr hO (by first | exact Or.inl rfl | exact Or.inr rfl) (by rw [hq, e6, lpf_t (by simpa using z_1.mp c_27)]; rfl) (Nat.le_of_ble_eq_true rfl) (Nat.le_of_ble_eq_true rfl) d_PR_isWaived_31
  exact K_3 (nw + 1) 0 (by omega) (by omega) rfl _ _ hO ls (lv_sub hl [0, 1, 2, 3, 4, 5] rfl)
abbrev fvB (σ : Nat → Nat → Int32) (r p o : Int32) : Nat → Bool := fun j => decide (σ (120 + j) 0 = r ∧ σ (120 + j) 1 = p ∧ σ (120 + j) 2 = o)
set_option maxHeartbeats 4000000 in
set_option maxRecDepth 100000 in
theorem k_PR_findWaiver (l : Launch) (G : gP) (ad : Nat → Nat) (σ : Nat → Nat → Int32) (τ : Nat → Nat → Int64) (r a b : Int32) (nw : Nat) (hnw : σ 0 4 = nI nw) (hw2 : nw ≤ 20) : gpu l y_PR_findWaiver c_PR_findWaiver 6 (some .int) { frames := 0, cells := 0, slots := 0, locals := 0 } G ad σ τ [.ref (ad 0), .int r, .int a, .int b] 0 0 (fun v => v = some (.int (oI (lpf (fvB σ r a b) nw 0)))) (fun _ => False) := by
  refine gs_of (fun _ h => h.elim) (by decide) (Nat.le_of_ble_eq_true rfl) ?_
  intro p e s m args below meth c ls S hk hr hx hl hO
  have hl : lv_has ls 6 [(0, .ref (ad 0)), (1, .int r), (2, .int a), (3, .int b)] := hl
  refine lv_iconst (v := 0) S.1 S.2.1 d_PR_findWaiver_0 (by decide) ?_
  refine lv_istore (lv' := [(4, .int 0), (0, .ref (ad 0)), (1, .int r), (2, .int a), (3, .int b)]) S.1 S.2.1 d_PR_findWaiver_1 hl (by decide) rfl (fun ls hl => ?_)
  have K_3 : ∀ (n9 : Nat) (j : Nat), nw - j < n9 → (j ≤ nw) → (lpf (fvB σ r a b) nw 0 = lpf (fvB σ r a b) (nw - j) j) → ∀ (H : Heap) (locs : List Loc), gO G (fun _ => False) 159 ad (enc G ad σ τ) s H locs → ∀ ls : Array Slot, lv_has ls 6 [(4, .int (nI j)), (0, .ref (ad 0)), (1, .int r), (2, .int a), (3, .int b)] → W p l e { frames := 0, cells := 0, slots := 0, locals := 0 } s m args below meth c H locs 0 0 (gM below (fun _ => False) 0 0 (fun v _ => (fun v => v = some (.int (oI (lpf (fvB σ r a b) nw 0)))) v) (fun x _ => (fun _ => False) x) args s) (F0 m 3 ls []) := by
    intro n9
    induction n9 with
    | zero =>
      intro j hn9 hj hq H locs hO ls hl
      exact absurd hn9 (Nat.not_lt_zero _)
    | succ n9 ih_3 =>
      intro j hn9 hj hq H locs hO ls hl
      refine lv_iload S.1 S.2.1 d_PR_findWaiver_3 (lv_at hl 0 rfl) ?_
      refine lv_aload_n S.1 S.2.1 d_PR_findWaiver_5 rfl (lv_at hl 1 rfl) ?_
      refine g_get S hO fl_PR_212 (by decide) (sh_0 G ad _ _) (v := .int (σ 0 4)) rfl d_PR_findWaiver_6 ?_
      refine lv_icmp_ge (tgt := 57) S.1 S.2.1 d_PR_findWaiver_9 (by decide) (fun c_9 => ?_) (fun c_9 => ?_)
      · skip
        have hw : j = nw := by have h9 := ge_nI hnw rfl (by omega) (by omega) c_9; omega
        refine lv_iconst (v := (-1)) S.1 S.2.1 d_PR_findWaiver_57 (by decide) ?_
        exact pu_i S hk hr hO (by rw [hq, hw, Nat.sub_self]; rfl) (Nat.le_of_ble_eq_true rfl) (Nat.le_of_ble_eq_true rfl) d_PR_findWaiver_58
      · skip
        have hw : j < nw := ngt_nI hnw rfl (by omega) (by omega) c_9
        have e6 : nw - j = (nw - (j + 1)) + 1 := by omega
        refine lv_aload_n S.1 S.2.1 d_PR_findWaiver_12 rfl (lv_at hl 1 rfl) ?_
        refine g_get S hO fl_PR_23 (by decide) (sh_0 G ad _ _) (v := .ref (ad 3)) rfl d_PR_findWaiver_13 ?_
        refine lv_iload S.1 S.2.1 d_PR_findWaiver_16 (lv_at hl 0 rfl) ?_
        refine g_aal S hO (t0 := 5) (by decide) (sh_3 G ad _ _) rfl (vp_in_nI (show j < 20 by omega) (by decide)) (v := .ref (ad (120 + j))) (by rw [nI_clamp (by omega)]; rfl) d_PR_findWaiver_18 ?_
        refine lv_astore (lv' := [(5, .ref (ad (120 + j))), (4, .int (nI j)), (0, .ref (ad 0)), (1, .int r), (2, .int a), (3, .int b)]) S.1 S.2.1 d_PR_findWaiver_19 hl (by decide) rfl (fun ls hl => ?_)
        refine lv_aload S.1 S.2.1 d_PR_findWaiver_21 (lv_at hl 0 rfl) ?_
        refine g_get S hO fl_PR_217 (by omega) (sh_WV G ad _ _ (by omega)) (v := .int (σ (120 + j) 0)) rfl d_PR_findWaiver_23 ?_
        refine lv_iload_n S.1 S.2.1 d_PR_findWaiver_26 rfl (lv_at hl 3 rfl) ?_
        refine lv_icmp_ne (tgt := 51) S.1 S.2.1 d_PR_findWaiver_27 (by decide) (fun c_27 => ?_) (fun c_27 => ?_)
        · skip
          obtain ⟨x_1, ex_1⟩ : ∃ z : Int32, z = (nI j) + 1 := ⟨_, rfl⟩
          refine lv_iinc (v := x_1) (lv' := [(4, .int x_1), (5, .ref (ad (120 + j))), (0, .ref (ad 0)), (1, .int r), (2, .int a), (3, .int b)]) S.1 S.2.1 d_PR_findWaiver_51 hl (k := 1) rfl (by rw [ex_1]; rfl) (by decide) rfl (fun ls hl => ?_)
          refine lv_goto (tgt := 3) S.1 S.2.1 d_PR_findWaiver_54 (by decide) ?_
          obtain rfl : x_1 = nI (j + 1) := by rw [ex_1]; exact nI_1 j
          exact ih_3 (j + 1) (by omega) (by omega) (by rw [hq, e6, lpf_f (by simp_all)]) _ _ hO ls (lv_sub hl [0, 2, 3, 4, 5] rfl)
        · skip
          refine lv_aload S.1 S.2.1 d_PR_findWaiver_30 (lv_at hl 0 rfl) ?_
          refine g_get S hO fl_PR_220 (by omega) (sh_WV G ad _ _ (by omega)) (v := .int (σ (120 + j) 1)) rfl d_PR_findWaiver_32 ?_
          refine lv_iload_n S.1 S.2.1 d_PR_findWaiver_35 rfl (lv_at hl 4 rfl) ?_
          refine lv_icmp_ne (tgt := 51) S.1 S.2.1 d_PR_findWaiver_36 (by decide) (fun c_36 => ?_) (fun c_36 => ?_)
          · skip
            obtain ⟨x_2, ex_2⟩ : ∃ z : Int32, z = (nI j) + 1 := ⟨_, rfl⟩
            refine lv_iinc (v := x_2) (lv' := [(4, .int x_2), (5, .ref (ad (120 + j))), (0, .ref (ad 0)), (1, .int r), (2, .int a), (3, .int b)]) S.1 S.2.1 d_PR_findWaiver_51 hl (k := 1) rfl (by rw [ex_2]; rfl) (by decide) rfl (fun ls hl => ?_)
            refine lv_goto (tgt := 3) S.1 S.2.1 d_PR_findWaiver_54 (by decide) ?_
            obtain rfl : x_2 = nI (j + 1) := by rw [ex_2]; exact nI_1 j
            exact ih_3 (j + 1) (by omega) (by omega) (by rw [hq, e6, lpf_f (by simp_all)]) _ _ hO ls (lv_sub hl [0, 2, 3, 4, 5] rfl)
          · skip
            refine lv_aload S.1 S.2.1 d_PR_findWaiver_39 (lv_at hl 0 rfl) ?_
            refine g_get S hO fl_PR_223 (by omega) (sh_WV G ad _ _ (by omega)) (v := .int (σ (120 + j) 2)) rfl d_PR_findWaiver_41 ?_
            refine lv_iload_n S.1 S.2.1 d_PR_findWaiver_44 rfl (lv_at hl 5 rfl) ?_
            refine lv_icmp_ne (tgt := 51) S.1 S.2.1 d_PR_findWaiver_45 (by decide) (fun c_45 => ?_) (fun c_45 => ?_)
            · skip
              obtain ⟨x_3, ex_3⟩ : ∃ z : Int32, z = (nI j) + 1 := ⟨_, rfl⟩
              refine lv_iinc (v := x_3) (lv' := [(4, .int x_3), (5, .ref (ad (120 + j))), (0, .ref (ad 0)), (1, .int r), (2, .int a), (3, .int b)]) S.1 S.2.1 d_PR_findWaiver_51 hl (k := 1) rfl (by rw [ex_3]; rfl) (by decide) rfl (fun ls hl => ?_)
              refine lv_goto (tgt := 3) S.1 S.2.1 d_PR_findWaiver_54 (by decide) ?_
              obtain rfl : x_3 = nI (j + 1) := by rw [ex_3]; exact nI_1 j
              exact ih_3 (j + 1) (by omega) (by omega) (by rw [hq, e6, lpf_f (by simp_all)]) _ _ hO ls (lv_sub hl [0, 2, 3, 4, 5] rfl)
            · skip
              refine lv_iload S.1 S.2.1 d_PR_findWaiver_48 (lv_at hl 1 rfl) ?_
              exact pu_i S hk hr hO (by rw [hq, e6, lpf_t (by simp [c_27, c_36, c_45])]; rfl) (Nat.le_of_ble_eq_true rfl) (Nat.le_of_ble_eq_true rfl) d_PR_findWaiver_50
  exact K_3 (nw + 1) 0 (by omega) (by omega) rfl _ _ hO ls (lv_sub hl [0, 1, 2, 3, 4] rfl)
abbrev nvB (σ : Nat → Nat → Int32) : Nat → Bool := fun j => decide (σ (9 + j) 4 = 0)
set_option maxHeartbeats 4000000 in
set_option maxRecDepth 100000 in
theorem k_RB_neverRefused (l : Launch) (G : gP) (ad : Nat → Nat) (σ : Nat → Nat → Int32) (τ : Nat → Nat → Int64) (k : Nat) (hk2 : k < 2 ^ 31) (nr : Nat) (hnr : σ 4 2 = nI nr) (hr2 : nr ≤ 24) : gpu l y_RB_neverRefused c_RB_neverRefused 4 (some .int) { frames := 0, cells := 0, slots := 0, locals := 0 } G ad σ τ [.ref (ad 4), .int (nI k)] 0 0 (fun v => v = some (.int (oI (nthx (nvB σ) nr 0 k)))) (fun _ => False) := by
  refine gs_of (fun _ h => h.elim) (by decide) (Nat.le_of_ble_eq_true rfl) ?_
  intro p e s m args below meth c ls S hk hr hx hl hO
  have hl : lv_has ls 4 [(0, .ref (ad 4)), (1, .int (nI k))] := hl
  refine lv_iconst (v := 0) S.1 S.2.1 d_RB_neverRefused_0 (by decide) ?_
  refine lv_istore_n (lv' := [(2, .int 0), (0, .ref (ad 4)), (1, .int (nI k))]) S.1 S.2.1 d_RB_neverRefused_1 rfl hl (by decide) rfl (fun ls hl => ?_)
  refine lv_iconst (v := 0) S.1 S.2.1 d_RB_neverRefused_2 (by decide) ?_
  refine lv_istore_n (lv' := [(3, .int 0), (2, .int 0), (0, .ref (ad 4)), (1, .int (nI k))]) S.1 S.2.1 d_RB_neverRefused_3 rfl hl (by decide) rfl (fun ls hl => ?_)
  have K_4 : ∀ (n9 : Nat) (j q : Nat), nr - j < n9 → (j ≤ nr) → (q ≤ k) → (q ≤ j) → (nthx (nvB σ) nr 0 k = nthx (nvB σ) (nr - j) j (k - q)) → ∀ (H : Heap) (locs : List Loc), gO G (fun _ => False) 159 ad (enc G ad σ τ) s H locs → ∀ ls : Array Slot, lv_has ls 4 [(3, .int (nI j)), (2, .int (nI q)), (0, .ref (ad 4)), (1, .int (nI k))] → W p l e { frames := 0, cells := 0, slots := 0, locals := 0 } s m args below meth c H locs 0 0 (gM below (fun _ => False) 0 0 (fun v _ => (fun v => v = some (.int (oI (nthx (nvB σ) nr 0 k)))) v) (fun x _ => (fun _ => False) x) args s) (F0 m 4 ls []) := by
    intro n9
    induction n9 with
    | zero =>
      intro j q hn9 hj hkq hqj hq H locs hO ls hl
      exact absurd hn9 (Nat.not_lt_zero _)
    | succ n9 ih_4 =>
      intro j q hn9 hj hkq hqj hq H locs hO ls hl
      refine lv_iload_n S.1 S.2.1 d_RB_neverRefused_4 rfl (lv_at hl 0 rfl) ?_
      refine lv_aload_n S.1 S.2.1 d_RB_neverRefused_5 rfl (lv_at hl 2 rfl) ?_
      refine g_get S hO fl_RB_28 (by decide) (sh_4 G ad _ _) (v := .int (σ 4 2)) rfl d_RB_neverRefused_6 ?_
      refine lv_icmp_ge (tgt := 40) S.1 S.2.1 d_RB_neverRefused_9 (by decide) (fun c_9 => ?_) (fun c_9 => ?_)
      · skip
        have hw : j = nr := by have h9 := ge_nI hnr rfl (by omega) (by omega) c_9; omega
        refine lv_iconst (v := (-1)) S.1 S.2.1 d_RB_neverRefused_40 (by decide) ?_
        exact pu_i S hk hr hO (by rw [hq, hw, Nat.sub_self]; rfl) (Nat.le_of_ble_eq_true rfl) (Nat.le_of_ble_eq_true rfl) d_RB_neverRefused_41
      · skip
        have hw : j < nr := ngt_nI hnr rfl (by omega) (by omega) c_9
        have e6 : nr - j = (nr - (j + 1)) + 1 := by omega
        refine lv_aload_n S.1 S.2.1 d_RB_neverRefused_12 rfl (lv_at hl 2 rfl) ?_
        refine g_get S hO fl_RB_11 (by decide) (sh_4 G ad _ _) (v := .ref (ad 5)) rfl d_RB_neverRefused_13 ?_
        refine lv_iload_n S.1 S.2.1 d_RB_neverRefused_16 rfl (lv_at hl 0 rfl) ?_
        refine g_aal S hO (t0 := 6) (by decide) (sh_5 G ad _ _) rfl (vp_in_nI (show j < 24 by omega) (by decide)) (v := .ref (ad (9 + j))) (by rw [nI_clamp (by omega)]; rfl) d_RB_neverRefused_17 ?_
        refine g_get S hO fl_RB_52 (by omega) (sh_RU G ad _ _ (by omega)) (v := .int (σ (9 + j) 4)) rfl d_RB_neverRefused_18 ?_
        refine lv_if_ne (tgt := 34) S.1 S.2.1 d_RB_neverRefused_21 (by decide) (fun c_21 => ?_) (fun c_21 => ?_)
        · skip
          obtain ⟨x_1, ex_1⟩ : ∃ z : Int32, z = (nI j) + 1 := ⟨_, rfl⟩
          refine lv_iinc (v := x_1) (lv' := [(3, .int x_1), (2, .int (nI q)), (0, .ref (ad 4)), (1, .int (nI k))]) S.1 S.2.1 d_RB_neverRefused_34 hl (k := 0) rfl (by rw [ex_1]; rfl) (by decide) rfl (fun ls hl => ?_)
          refine lv_goto (tgt := 4) S.1 S.2.1 d_RB_neverRefused_37 (by decide) ?_
          obtain rfl : x_1 = nI (j + 1) := by rw [ex_1]; exact nI_1 j
          exact ih_4 (j + 1) q (by omega) (by omega) (by omega) (by omega) (by rw [hq, e6, nthx_f (by simpa using c_21)]) _ _ hO ls (lv_sub hl [0, 1, 2, 3] rfl)
        · skip
          refine lv_iload_n S.1 S.2.1 d_RB_neverRefused_24 rfl (lv_at hl 1 rfl) ?_
          refine lv_iload_n S.1 S.2.1 d_RB_neverRefused_25 rfl (lv_at hl 3 rfl) ?_
          refine lv_icmp_ne (tgt := 31) S.1 S.2.1 d_RB_neverRefused_26 (by decide) (fun c_26 => ?_) (fun c_26 => ?_)
          · skip
            have hqk : q ≠ k := fun z => c_26 (by rw [z])
            obtain ⟨x_2, ex_2⟩ : ∃ z : Int32, z = (nI q) + 1 := ⟨_, rfl⟩
            refine lv_iinc (v := x_2) (lv' := [(2, .int x_2), (3, .int (nI j)), (0, .ref (ad 4)), (1, .int (nI k))]) S.1 S.2.1 d_RB_neverRefused_31 hl (k := 1) rfl (by rw [ex_2]; rfl) (by decide) rfl (fun ls hl => ?_)
            obtain ⟨x_3, ex_3⟩ : ∃ z : Int32, z = (nI j) + 1 := ⟨_, rfl⟩
            refine lv_iinc (v := x_3) (lv' := [(3, .int x_3), (2, .int x_2), (0, .ref (ad 4)), (1, .int (nI k))]) S.1 S.2.1 d_RB_neverRefused_34 hl (k := 1) rfl (by rw [ex_3]; rfl) (by decide) rfl (fun ls hl => ?_)
            refine lv_goto (tgt := 4) S.1 S.2.1 d_RB_neverRefused_37 (by decide) ?_
            obtain rfl : x_3 = nI (j + 1) := by rw [ex_3]; exact nI_1 j
            obtain rfl : x_2 = nI (q + 1) := by rw [ex_2]; exact nI_1 q
            exact ih_4 (j + 1) (q + 1) (by omega) (by omega) (by omega) (by omega) (by rw [hq, e6, show k - q = (k - (q + 1)) + 1 by omega, nthx_s (by simpa using c_21)]) _ _ hO ls (lv_sub hl [0, 1, 2, 3] rfl)
          · skip
            refine lv_iload_n S.1 S.2.1 d_RB_neverRefused_29 rfl (lv_at hl 0 rfl) ?_
            exact pu_i S hk hr hO (by have z9 : q = k := (nI_eq (by omega) (by omega)).mp c_26; rw [hq, e6, show k - q = 0 by omega, nthx_0 (by simpa using c_21)]; rfl) (Nat.le_of_ble_eq_true rfl) (Nat.le_of_ble_eq_true rfl) d_RB_neverRefused_30
  exact K_4 (nr + 1) 0 0 (by omega) (by omega) (by omega) (by omega) rfl _ _ hO ls (lv_sub hl [0, 1, 2, 3] rfl)
abbrev atB (σ : Nat → Nat → Int32) (p : Int32) : Nat → Bool := fun j => decide (σ (80 + j) 10 = p)
set_option maxHeartbeats 4000000 in
set_option maxRecDepth 100000 in
theorem k_PR_at (l : Launch) (hst : l.stackTraces = false) (G : gP) (ad : Nat → Nat) (σ : Nat → Nat → Int32) (τ : Nat → Nat → Int64) (a b : Int32) (nu : Nat) (hnu : σ 0 2 = nI nu) (hn4 : nu ≤ 40) : gpu l y_PR_at c_PR_at 5 (some .int) { frames := 8, cells := 2, slots := 12, locals := 132 } G ad σ τ [.ref (ad 0), .int a, .int b] 2 12 (fun v => (gwi a 0 11 ∧ ¬ b < 0) ∧ v = some (.int (oI (nthx (atB σ a) nu 0 b.toNatClampNeg)))) (fun x => x = "java/lang/IllegalArgumentException" ∧ ¬ (gwi a 0 11 ∧ ¬ b < 0)) := by
  refine gs_of (fun _ h => h.elim) (by decide) (Nat.le_of_ble_eq_true rfl) ?_
  intro p e s m args below meth c ls S hk hr hx hl hO
  have hl : lv_has ls 5 [(0, .ref (ad 0)), (1, .int a), (2, .int b)] := hl
  refine lv_iload_n S.1 S.2.1 d_PR_at_0 rfl (lv_at hl 1 rfl) ?_
  refine g_SP (As := [.int a]) (rest := []) S hO (k_PR_needPlace l hst G ad σ τ a) cw_PR_62 g_cfC hl.1 (Nat.le_of_ble_eq_true rfl) ⟨(Nat.le_of_ble_eq_true rfl), (Nat.le_of_ble_eq_true rfl)⟩ ⟨(Nat.le_of_ble_eq_true rfl), (Nat.le_of_ble_eq_true rfl)⟩ d_PR_at_1 (fun q x ce H h9 hO hce hcv hcl => pu_x hx hk hO hce hcv hcl (⟨h9.1, fun z => h9.2 z.1⟩) (Nat.le_of_ble_eq_true rfl) (Nat.le_of_ble_eq_true rfl)) (fun v H v_1 hO => ?_)
  obtain ⟨rfl, h_1⟩ := v_1
  refine W.eq (g2 := F0 m 4 ls []) rfl ?_
  refine lv_iload_n S.1 S.2.1 d_PR_at_4 rfl (lv_at hl 2 rfl) ?_
  refine g_SP (As := [.int b]) (rest := []) S hO (k_PR_needIndex l hst G ad σ τ b) cw_PR_230 g_cfC hl.1 (Nat.le_of_ble_eq_true rfl) ⟨(Nat.le_of_ble_eq_true rfl), (Nat.le_of_ble_eq_true rfl)⟩ ⟨(Nat.le_of_ble_eq_true rfl), (Nat.le_of_ble_eq_true rfl)⟩ d_PR_at_5 (fun q x ce H h9 hO hce hcv hcl => pu_x hx hk hO hce hcv hcl (⟨h9.1, fun z => z.2 h9.2⟩) (Nat.le_of_ble_eq_true rfl) (Nat.le_of_ble_eq_true rfl)) (fun v H v_2 hO => ?_)
  obtain ⟨rfl, h_5⟩ := v_2
  refine W.eq (g2 := F0 m 8 ls []) rfl ?_
  obtain ⟨k, hk2, rfl⟩ := nI_of h_5
  refine lv_iconst (v := 0) S.1 S.2.1 d_PR_at_8 (by decide) ?_
  refine lv_istore_n (lv' := [(3, .int 0), (0, .ref (ad 0)), (1, .int a), (2, .int (nI k))]) S.1 S.2.1 d_PR_at_9 rfl hl (by decide) rfl (fun ls hl => ?_)
  refine lv_iconst (v := 0) S.1 S.2.1 d_PR_at_10 (by decide) ?_
  refine lv_istore (lv' := [(4, .int 0), (3, .int 0), (0, .ref (ad 0)), (1, .int a), (2, .int (nI k))]) S.1 S.2.1 d_PR_at_11 hl (by decide) rfl (fun ls hl => ?_)
  have K_13 : ∀ (n9 : Nat) (j q : Nat), nu - j < n9 → (j ≤ nu) → (q ≤ k) → (q ≤ j) → (nthx (atB σ a) nu 0 k = nthx (atB σ a) (nu - j) j (k - q)) → ∀ (H : Heap) (locs : List Loc), gO G (fun _ => False) 159 ad (enc G ad σ τ) s H locs → ∀ ls : Array Slot, lv_has ls 5 [(4, .int (nI j)), (3, .int (nI q)), (0, .ref (ad 0)), (1, .int a), (2, .int (nI k))] → W p l e { frames := 8, cells := 2, slots := 12, locals := 132 } s m args below meth c H locs 2 12 (gM below (fun _ => False) 2 12 (fun v _ => (fun v => (gwi a 0 11 ∧ ¬ (nI k) < 0) ∧ v = some (.int (oI (nthx (atB σ a) nu 0 (nI k).toNatClampNeg)))) v) (fun x _ => (fun x => x = "java/lang/IllegalArgumentException" ∧ ¬ (gwi a 0 11 ∧ ¬ (nI k) < 0)) x) args s) (F0 m 13 ls []) := by
    intro n9
    induction n9 with
    | zero =>
      intro j q hn9 hj hkq hqj hq H locs hO ls hl
      exact absurd hn9 (Nat.not_lt_zero _)
    | succ n9 ih_13 =>
      intro j q hn9 hj hkq hqj hq H locs hO ls hl
      refine lv_iload S.1 S.2.1 d_PR_at_13 (lv_at hl 0 rfl) ?_
      refine lv_aload_n S.1 S.2.1 d_PR_at_15 rfl (lv_at hl 2 rfl) ?_
      refine g_get S hO fl_PR_90 (by decide) (sh_0 G ad _ _) (v := .int (σ 0 2)) rfl d_PR_at_16 ?_
      refine lv_icmp_ge (tgt := 53) S.1 S.2.1 d_PR_at_19 (by decide) (fun c_19 => ?_) (fun c_19 => ?_)
      · skip
        have hw : j = nu := by have h9 := ge_nI hnu rfl (by omega) (by omega) c_19; omega
        refine lv_iconst (v := (-1)) S.1 S.2.1 d_PR_at_53 (by decide) ?_
        exact pu_i S hk hr hO ⟨⟨h_1, h_5⟩, (by rw [nI_clamp (by omega), hq, hw, Nat.sub_self]; rfl)⟩ (Nat.le_of_ble_eq_true rfl) (Nat.le_of_ble_eq_true rfl) d_PR_at_54
      · skip
        have hw : j < nu := ngt_nI hnu rfl (by omega) (by omega) c_19
        have e6 : nu - j = (nu - (j + 1)) + 1 := by omega
        refine lv_aload_n S.1 S.2.1 d_PR_at_22 rfl (lv_at hl 2 rfl) ?_
        refine g_get S hO fl_PR_17 (by decide) (sh_0 G ad _ _) (v := .ref (ad 2)) rfl d_PR_at_23 ?_
        refine lv_iload S.1 S.2.1 d_PR_at_26 (lv_at hl 0 rfl) ?_
        refine g_aal S hO (t0 := 4) (by decide) (sh_2 G ad _ _) rfl (vp_in_nI (show j < 40 by omega) (by decide)) (v := .ref (ad (80 + j))) (by rw [nI_clamp (by omega)]; rfl) d_PR_at_28 ?_
        refine g_get S hO fl_PR_236 (by omega) (sh_UN G ad _ _ (by omega)) (v := .int (σ (80 + j) 10)) rfl d_PR_at_29 ?_
        refine lv_iload_n S.1 S.2.1 d_PR_at_32 rfl (lv_at hl 3 rfl) ?_
        refine lv_icmp_ne (tgt := 47) S.1 S.2.1 d_PR_at_33 (by decide) (fun c_33 => ?_) (fun c_33 => ?_)
        · skip
          obtain ⟨x_3, ex_3⟩ : ∃ z : Int32, z = (nI j) + 1 := ⟨_, rfl⟩
          refine lv_iinc (v := x_3) (lv' := [(4, .int x_3), (3, .int (nI q)), (0, .ref (ad 0)), (1, .int a), (2, .int (nI k))]) S.1 S.2.1 d_PR_at_47 hl (k := 0) rfl (by rw [ex_3]; rfl) (by decide) rfl (fun ls hl => ?_)
          refine lv_goto (tgt := 13) S.1 S.2.1 d_PR_at_50 (by decide) ?_
          obtain rfl : x_3 = nI (j + 1) := by rw [ex_3]; exact nI_1 j
          exact ih_13 (j + 1) q (by omega) (by omega) (by omega) (by omega) (by rw [hq, e6, nthx_f (by simpa using c_33)]) _ _ hO ls (lv_sub hl [0, 1, 2, 3, 4] rfl)
        · skip
          refine lv_iload_n S.1 S.2.1 d_PR_at_36 rfl (lv_at hl 1 rfl) ?_
          refine lv_iload_n S.1 S.2.1 d_PR_at_37 rfl (lv_at hl 4 rfl) ?_
          refine lv_icmp_ne (tgt := 44) S.1 S.2.1 d_PR_at_38 (by decide) (fun c_38 => ?_) (fun c_38 => ?_)
          · skip
            have hqk : q ≠ k := fun z => c_38 (by rw [z])
            obtain ⟨x_4, ex_4⟩ : ∃ z : Int32, z = (nI q) + 1 := ⟨_, rfl⟩
            refine lv_iinc (v := x_4) (lv' := [(3, .int x_4), (4, .int (nI j)), (0, .ref (ad 0)), (1, .int a), (2, .int (nI k))]) S.1 S.2.1 d_PR_at_44 hl (k := 1) rfl (by rw [ex_4]; rfl) (by decide) rfl (fun ls hl => ?_)
            obtain ⟨x_5, ex_5⟩ : ∃ z : Int32, z = (nI j) + 1 := ⟨_, rfl⟩
            refine lv_iinc (v := x_5) (lv' := [(4, .int x_5), (3, .int x_4), (0, .ref (ad 0)), (1, .int a), (2, .int (nI k))]) S.1 S.2.1 d_PR_at_47 hl (k := 1) rfl (by rw [ex_5]; rfl) (by decide) rfl (fun ls hl => ?_)
            refine lv_goto (tgt := 13) S.1 S.2.1 d_PR_at_50 (by decide) ?_
            obtain rfl : x_5 = nI (j + 1) := by rw [ex_5]; exact nI_1 j
            obtain rfl : x_4 = nI (q + 1) := by rw [ex_4]; exact nI_1 q
            exact ih_13 (j + 1) (q + 1) (by omega) (by omega) (by omega) (by omega) (by rw [hq, e6, show k - q = (k - (q + 1)) + 1 by omega, nthx_s (by simpa using c_33)]) _ _ hO ls (lv_sub hl [0, 1, 2, 3, 4] rfl)
          · skip
            refine lv_iload S.1 S.2.1 d_PR_at_41 (lv_at hl 0 rfl) ?_
            exact pu_i S hk hr hO ⟨⟨h_1, h_5⟩, (by have z9 : q = k := (nI_eq (by omega) (by omega)).mp c_38; rw [nI_clamp (by omega), hq, e6, show k - q = 0 by omega, nthx_0 (by simpa using c_33)]; rfl)⟩ (Nat.le_of_ble_eq_true rfl) (Nat.le_of_ble_eq_true rfl) d_PR_at_43
  exact K_13 (nu + 1) 0 0 (by omega) (by omega) (by omega) (by omega) rfl _ _ hO ls (lv_sub hl [0, 1, 2, 3, 4] rfl)
