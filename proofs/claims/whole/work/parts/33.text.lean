/-! The text: its signs, numbers and kinds, as the class reads them. Written by wip/tools/m33.py. -/
def nxS (T : Nat → Int32) (N p : Nat) : Int32 := if p < N then T p else (-1)
def dgB (c : Int32) : Bool := inB c 48 57
/-- digits from the place p on: d are read, their value is v -/
def pdl (T : Nat → Int32) (N p : Nat) : Nat → Nat → Int32 → Except Nat (Int32 × Nat)
  | 0, d, v => .ok (v, d)
  | f + 1, d, v => if dgB (nxS T N (p + d)) = true then (if (0 < d ∧ v = 0) ∨ d = 6 then .error (p + d) else pdl T N p f (d + 1) (v * 10 + nxS T N (p + d) - 48)) else .ok (v, d)
def pnm (T : Nat → Int32) (N p : Nat) : Except Nat (Int32 × Nat) := match pdl T N p 7 0 0 with
  | .error e => .error e
  | .ok (v, d) => if d = 0 then .error p else .ok (v, p + d)
def pnr (T : Nat → Int32) (N p : Nat) (lo hi : Int32) : Except Nat (Int32 × Nat) := match pnm T N p with
  | .error e => .error e
  | .ok (v, q) => if inB v lo hi = true then .ok (v, q) else .error p
theorem pdl_0 {T : Nat → Int32} {N p f d : Nat} {v : Int32} (h : dgB (nxS T N (p + d)) = false) : pdl T N p (f + 1) d v = .ok (v, d) := by rw [pdl, if_neg (by rw [h]; decide)]
theorem pdl_e {T : Nat → Int32} {N p f d : Nat} {v : Int32} (h : dgB (nxS T N (p + d)) = true) (h2 : (0 < d ∧ v = 0) ∨ d = 6) : pdl T N p (f + 1) d v = .error (p + d) := by rw [pdl, if_pos h, if_pos h2]
theorem pdl_s {T : Nat → Int32} {N p f d : Nat} {v : Int32} (h : dgB (nxS T N (p + d)) = true) (h2 : ¬ ((0 < d ∧ v = 0) ∨ d = 6)) : pdl T N p (f + 1) d v = pdl T N p f (d + 1) (v * 10 + nxS T N (p + d) - 48) := by rw [pdl, if_pos h, if_neg h2]
theorem pnr_e {T : Nat → Int32} {N p e : Nat} {lo hi : Int32} (h : pdl T N p 7 0 0 = .error e) : pnr T N p lo hi = .error e := by simp only [pnr, pnm, h]
theorem pnr_0 {T : Nat → Int32} {N p : Nat} {v lo hi : Int32} (h : pdl T N p 7 0 0 = .ok (v, 0)) : pnr T N p lo hi = .error p := by simp [pnr, pnm, h]
theorem pnr_n {T : Nat → Int32} {N p d : Nat} {v lo hi : Int32} (h : pdl T N p 7 0 0 = .ok (v, d)) (hd : d ≠ 0) (h2 : inB v lo hi = false) : pnr T N p lo hi = .error p := by simp [pnr, pnm, h, hd, h2]
theorem pnr_y {T : Nat → Int32} {N p d : Nat} {v lo hi : Int32} (h : pdl T N p 7 0 0 = .ok (v, d)) (hd : d ≠ 0) (h2 : inB v lo hi = true) : pnr T N p lo hi = .ok (v, p + d) := by simp [pnr, pnm, h, hd, h2]
/-- the signs that the word k shares with the text at p -/
def shf (T : Nat → Int32) (N p k : Nat) : Nat → Nat → Nat
  | 0, j => j
  | f + 1, j => if j < gkl.getD k 0 ∧ p + j < N ∧ T (p + j) = kbC k j then shf T N p k f (j + 1) else j
def shN (T : Nat → Int32) (N p k : Nat) : Nat := shf T N p k 7 0
theorem shf_t {T : Nat → Int32} {N p k f j : Nat} (h : j < gkl.getD k 0 ∧ p + j < N ∧ T (p + j) = kbC k j) : shf T N p k (f + 1) j = shf T N p k f (j + 1) := by rw [shf, if_pos h]
theorem shf_f {T : Nat → Int32} {N p k f j : Nat} (h : ¬ (j < gkl.getD k 0 ∧ p + j < N ∧ T (p + j) = kbC k j)) : shf T N p k (f + 1) j = j := by rw [shf, if_neg h]
theorem shf_le {T : Nat → Int32} {N p k : Nat} (f j : Nat) (h : j ≤ gkl.getD k 0) : shf T N p k f j ≤ gkl.getD k 0 := by
  induction f generalizing j with
  | zero => exact h
  | succ f ih =>
    unfold shf
    split
    · rename_i z
      exact ih (j + 1) (by omega)
    · exact h
theorem shN_le {T : Nat → Int32} {N p k : Nat} : shN T N p k ≤ gkl.getD k 0 := shf_le 7 0 (Nat.zero_le _)
/-- the kind k goes ahead of what was found -/
def pkS (T : Nat → Int32) (N p : Nat) (o : Int32 × Nat) (k : Nat) : Int32 × Nat := if o.1 < nI (shN T N p k) ∨ (nI (shN T N p k) = o.1 ∧ nI (shN T N p k) = nI (gkl.getD k 0)) then (nI (shN T N p k), k) else o
def pkf (T : Nat → Int32) (N p k0 : Nat) : Nat → Int32 × Nat
  | 0 => (-1, k0)
  | k + 1 => pkS T N p (pkf T N p k0 k) k
theorem pkf_o {T : Nat → Int32} {N p k0 : Nat} (h0 : k0 < 11) (k : Nat) (hk : k ≤ 11) : (pkf T N p k0 k).2 < 11 ∧ (k = 0 ∨ ∃ q : Nat, q ≤ 6 ∧ (pkf T N p k0 k).1 = nI q) := by
  induction k with
  | zero => exact ⟨h0, Or.inl rfl⟩
  | succ k ih =>
    have hs : shN T N p k ≤ 6 := Nat.le_trans shN_le (gkl_6 (by omega)).1
    obtain ⟨h1, h2⟩ := ih (by omega)
    show (pkS T N p (pkf T N p k0 k) k).2 < 11 ∧ (k + 1 = 0 ∨ ∃ q : Nat, q ≤ 6 ∧ (pkS T N p (pkf T N p k0 k) k).1 = nI q)
    unfold pkS
    split
    · exact ⟨by show k < 11; omega, Or.inr ⟨_, hs, rfl⟩⟩
    · rename_i z
      refine ⟨h1, Or.inr ?_⟩
      rcases h2 with h2 | h2
      · subst h2
        exact absurd (Or.inl (show (-1 : Int32) < nI (shN T N p 0) from Int32.lt_of_lt_of_le (by decide) (nI_pos' (by omega)))) z
      · exact h2
theorem pkf_k {T : Nat → Int32} {N p k0 k1 : Nat} (k : Nat) (hk : k < 11) : pkf T N p k0 (k + 1) = pkf T N p k1 (k + 1) := by
  induction k with
  | zero =>
    have h : (-1 : Int32) < nI (shN T N p 0) := Int32.lt_of_lt_of_le (by decide) (nI_pos' (by have := shN_le (T := T) (N := N) (p := p) (k := 0); have := (gkl_6 (show 0 < 11 by decide)).1; omega))
    show pkS T N p (-1, k0) 0 = pkS T N p (-1, k1) 0
    rw [pkS, if_pos (Or.inl h), pkS, if_pos (Or.inl h)]
  | succ k ih =>
    show pkS T N p (pkf T N p k0 (k + 1)) (k + 1) = pkS T N p (pkf T N p k1 (k + 1)) (k + 1)
    rw [ih (by omega)]
/-- the kind that stands at p, and the place behind it -/
def pkd (T : Nat → Int32) (N p : Nat) : Except Nat (Nat × Nat) := if (pkf T N p 0 11).1 = nI (gkl.getD (pkf T N p 0 11).2 0) then .ok ((pkf T N p 0 11).2, p + (pkf T N p 0 11).1.toNatClampNeg) else .error (p + (pkf T N p 0 11).1.toNatClampNeg)
theorem up2_i {σ : Nat → Nat → Int32} {k j : Nat} {v w : Int32} : up2 (up2 σ k j v) k j w = up2 σ k j w := by
  funext q i
  simp only [up2_at]
  split <;> rfl
theorem up2_self {σ : Nat → Nat → Int32} {k j : Nat} {v : Int32} (h : σ k j = v) : up2 σ k j v = σ := by
  funext q i
  rw [up2_at]
  split
  · rename_i z; rw [z.1, z.2, h]
  · rfl
def TXF (s σ : Nat → Nat → Int32) : Prop := ∀ k j, ¬ (k = 35 ∧ (j = 3 ∨ j = 4 ∨ j = 5)) → s k j = σ k j
theorem TXF.refl (σ : Nat → Nat → Int32) : TXF σ σ := fun _ _ _ => rfl
theorem TXF.up {s σ : Nat → Nat → Int32} (h : TXF s σ) {j : Nat} {v : Int32} (hj : j = 3 ∨ j = 4 ∨ j = 5) : TXF (up2 s 35 j v) σ := fun k i hi => by
  rw [up2_at, if_neg (fun z => hi ⟨z.1, by omega⟩)]
  exact h k i hi
set_option maxHeartbeats 4000000 in
set_option maxRecDepth 100000 in
theorem k_TX_nextSign (l : Launch) (G : gP) (ad : Nat → Nat) (σ : Nat → Nat → Int32) (τ : Nat → Nat → Int64) (N : Nat) (hN : σ 35 1 = nI N) (hN4 : N ≤ 400) (pp : Nat) (hp : σ 35 3 = nI pp) (hp2 : pp < 4000) : gpu l y_TX_nextSign c_TX_nextSign 1 (some .int) { frames := 0, cells := 0, slots := 0, locals := 0 } G ad σ τ [.ref (ad 35)] 0 0 (fun v => v = some (.int (nxS (σ 36) N pp))) (fun _ => False) := by
  refine gs_of (fun _ h => h.elim) (by decide) (Nat.le_of_ble_eq_true rfl) ?_
  intro p e s m args below meth c ls S hk hr hx hl hO
  have hl : lv_has ls 1 [(0, .ref (ad 35))] := hl
  have J_24 : ∀ (z : Int32), z = (nxS (σ 36) N pp) → ∀ (H : Heap) (locs : List Loc), gO G (fun _ => False) 159 ad (enc G ad σ τ) s H locs → ∀ ls : Array Slot, lv_has ls 1 [(0, .ref (ad 35))] → W p l e { frames := 0, cells := 0, slots := 0, locals := 0 } s m args below meth c H locs 0 0 (gM below (fun _ => False) 0 0 (fun v _ => (fun v => v = some (.int (nxS (σ 36) N pp))) v) (fun x _ => (fun _ => False) x) args s) (F0 m 24 ls (.int z :: [])) := by
    intro z ez H locs hO ls hl
    subst ez
    exact pu_i S hk hr hO (by rfl) (Nat.le_of_ble_eq_true rfl) (Nat.le_of_ble_eq_true rfl) d_TX_nextSign_24
  refine lv_aload_n S.1 S.2.1 d_TX_nextSign_0 rfl (lv_at hl 0 rfl) ?_
  refine g_get S hO fl_TX_35 (by decide) (sh_35 G ad _ _) (v := .int (σ 35 3)) rfl d_TX_nextSign_1 ?_
  refine W.eq (g2 := F0 m 4 ls [.int (nI pp)]) (by rw [show σ 35 3 = nI pp from hp]) ?_
  refine lv_aload_n S.1 S.2.1 d_TX_nextSign_4 rfl (lv_at hl 0 rfl) ?_
  refine g_get S hO fl_TX_31 (by decide) (sh_35 G ad _ _) (v := .int (σ 35 1)) rfl d_TX_nextSign_5 ?_
  refine W.eq (g2 := F0 m 8 ls [.int (nI N), .int (nI pp)]) (by rw [show σ 35 1 = nI N from hN]) ?_
  refine lv_icmp_ge (tgt := 23) S.1 S.2.1 d_TX_nextSign_8 (by decide) (fun c_8 => ?_) (fun c_8 => ?_)
  · skip
    have hge : N ≤ pp := ge_nI (x := nI N) rfl rfl (by omega) (by omega) c_8
    refine lv_iconst (v := (-1)) S.1 S.2.1 d_TX_nextSign_23 (by decide) ?_
    exact J_24 _ (by rw [nxS, if_neg (by omega)]) _ _ hO ls (lv_sub hl [0] rfl)
  · skip
    have hlt : pp < N := ngt_nI (x := nI N) rfl rfl (by omega) (by omega) c_8
    refine lv_aload_n S.1 S.2.1 d_TX_nextSign_11 rfl (lv_at hl 0 rfl) ?_
    refine g_get S hO fl_TX_9 (by decide) (sh_35 G ad _ _) (v := .ref (ad 36)) rfl d_TX_nextSign_12 ?_
    refine lv_aload_n S.1 S.2.1 d_TX_nextSign_15 rfl (lv_at hl 0 rfl) ?_
    refine g_get S hO fl_TX_35 (by decide) (sh_35 G ad _ _) (v := .int (σ 35 3)) rfl d_TX_nextSign_16 ?_
    refine W.eq (g2 := F0 m 19 ls [.int (nI pp), .ref (ad 36)]) (by rw [show σ 35 3 = nI pp from hp]) ?_
    refine g_ial S hO (by decide) (sh_36 G ad _ _) (vp_in_nI (show pp < 400 by omega) (by decide)) d_TX_nextSign_19 ?_
    refine W.eq (g2 := F0 m 20 ls [.int (σ 36 pp)]) (by rw [nI_clamp (show pp < 2 ^ 31 by omega)]) ?_
    refine lv_goto (tgt := 24) S.1 S.2.1 d_TX_nextSign_20 (by decide) ?_
    exact J_24 _ (by rw [nxS, if_pos hlt]) _ _ hO ls (lv_sub hl [0] rfl)
set_option maxHeartbeats 4000000 in
set_option maxRecDepth 100000 in
theorem k_TX_isDigit (l : Launch) (G : gP) (ad : Nat → Nat) (σ : Nat → Nat → Int32) (τ : Nat → Nat → Int64) (a : Int32) : gpu l y_TX_isDigit c_TX_isDigit 1 (some .boolean) { frames := 0, cells := 0, slots := 0, locals := 0 } G ad σ τ [.int a] 0 0 (fun v => v = some (.int (bI (dgB a)))) (fun _ => False) := by
  refine gs_of (fun _ h => h.elim) (by decide) (Nat.le_of_ble_eq_true rfl) ?_
  intro p e s m args below meth c ls S hk hr hx hl hO
  have hl : lv_has ls 1 [(0, .int a)] := hl
  have J_17 : ∀ (z : Int32), z = (bI (dgB a)) → ∀ (H : Heap) (locs : List Loc), gO G (fun _ => False) 159 ad (enc G ad σ τ) s H locs → ∀ ls : Array Slot, lv_has ls 1 [(0, .int a)] → W p l e { frames := 0, cells := 0, slots := 0, locals := 0 } s m args below meth c H locs 0 0 (gM below (fun _ => False) 0 0 (fun v _ => (fun v => v = some (.int (bI (dgB a)))) v) (fun x _ => (fun _ => False) x) args s) (F0 m 17 ls (.int z :: [])) := by
    intro z ez H locs hO ls hl
    subst ez
    exact pu_z S hk hr hO (by first | exact Or.inl rfl | exact Or.inr rfl | exact b_01) (by rfl) (Nat.le_of_ble_eq_true rfl) (Nat.le_of_ble_eq_true rfl) d_TX_isDigit_17
  refine lv_iload_n S.1 S.2.1 d_TX_isDigit_0 rfl (lv_at hl 0 rfl) ?_
  refine lv_bipush (v := 48) S.1 S.2.1 d_TX_isDigit_1 (by decide) ?_
  refine lv_icmp_lt (tgt := 16) S.1 S.2.1 d_TX_isDigit_3 (by decide) (fun c_3 => ?_) (fun c_3 => ?_)
  · skip
    refine lv_iconst (v := 0) S.1 S.2.1 d_TX_isDigit_16 (by decide) ?_
    exact J_17 _ (by simp [bI, dgB, inB, c_3, Int32.not_le.mpr c_3]) _ _ hO ls (lv_sub hl [0] rfl)
  · skip
    refine lv_iload_n S.1 S.2.1 d_TX_isDigit_6 rfl (lv_at hl 0 rfl) ?_
    refine lv_bipush (v := 57) S.1 S.2.1 d_TX_isDigit_7 (by decide) ?_
    refine lv_icmp_gt (tgt := 16) S.1 S.2.1 d_TX_isDigit_9 (by decide) (fun c_9 => ?_) (fun c_9 => ?_)
    · skip
      refine lv_iconst (v := 0) S.1 S.2.1 d_TX_isDigit_16 (by decide) ?_
      exact J_17 _ (by simp [bI, dgB, inB, c_3, Int32.not_lt.mp c_3, c_9, Int32.not_le.mpr c_9]) _ _ hO ls (lv_sub hl [0] rfl)
    · skip
      refine lv_iconst (v := 1) S.1 S.2.1 d_TX_isDigit_12 (by decide) ?_
      refine lv_goto (tgt := 17) S.1 S.2.1 d_TX_isDigit_13 (by decide) ?_
      exact J_17 _ (by simp [bI, dgB, inB, c_3, Int32.not_lt.mp c_3, c_9, Int32.not_lt.mp c_9]) _ _ hO ls (lv_sub hl [0] rfl)
set_option maxHeartbeats 4000000 in
set_option maxRecDepth 100000 in
theorem k_TX_fail (l : Launch) (G : gP) (ad : Nat → Nat) (σ : Nat → Nat → Int32) (τ : Nat → Nat → Int64) (a : Int32) : gim l y_TX_fail c_TX_fail 2 (some .boolean) { frames := 0, cells := 0, slots := 0, locals := 0 } G ad σ τ [.ref (ad 35), .int a] 0 0 (fun v σ1 τ1 => v = some (.int 0) ∧ σ1 = up2 σ 35 4 a ∧ τ1 = τ) (fun _ => False) := by
  refine gs_of (fun _ h => h) (by decide) (Nat.le_of_ble_eq_true rfl) ?_
  intro p e s m args below meth c ls S hk hr hx hl hO
  have hl : lv_has ls 2 [(0, .ref (ad 35)), (1, .int a)] := hl
  refine lv_aload_n S.1 S.2.1 d_TX_fail_0 rfl (lv_at hl 0 rfl) ?_
  refine lv_iload_n S.1 S.2.1 d_TX_fail_1 rfl (lv_at hl 1 rfl) ?_
  obtain ⟨s_1, hs_1⟩ : ∃ z : Nat → Nat → Int32, z = up2 σ 35 4 a := ⟨_, rfl⟩
  refine g_put S hO (fun _ h => h) fp_TX_42 (by decide) (sh_35 G ad _ _) (v := .int a) rfl rfl (Nat.le_of_ble_eq_true rfl) (E2 := enc G ad s_1 τ) (by rw [hs_1]; exact enc_i (sh_35 G ad _ _)) d_TX_fail_2 (fun H locs hO => ?_)
  refine lv_iconst (v := 0) S.1 S.2.1 d_TX_fail_5 (by decide) ?_
  subst hs_1
  exact im_z S hk hr hO (by first | exact Or.inl rfl | exact Or.inr rfl | exact b_01) ⟨rfl, rfl, rfl⟩ (Nat.le_of_ble_eq_true rfl) (Nat.le_of_ble_eq_true rfl) d_TX_fail_6
def rsS (σ : Nat → Nat → Int32) (a : Int32) (N pp : Nat) : Nat → Nat → Int32 := if nxS (σ 36) N pp = a then up2 σ 35 3 (nI (pp + 1)) else up2 σ 35 4 (nI pp)
set_option maxHeartbeats 4000000 in
set_option maxRecDepth 100000 in
theorem k_TX_readSign (l : Launch) (G : gP) (ad : Nat → Nat) (σ : Nat → Nat → Int32) (τ : Nat → Nat → Int64) (a : Int32) (N : Nat) (hN : σ 35 1 = nI N) (hN4 : N ≤ 400) (pp : Nat) (hp : σ 35 3 = nI pp) (hp2 : pp < 4000) : gim l y_TX_readSign c_TX_readSign 2 (some .boolean) { frames := 1, cells := 0, slots := 0, locals := 21 } G ad σ τ [.ref (ad 35), .int a] 0 0 (fun v σ1 τ1 => v = some (.int (bI (decide (nxS (σ 36) N pp = a)))) ∧ σ1 = rsS σ a N pp ∧ τ1 = τ) (fun _ => False) := by
  refine gs_of (fun _ h => h) (by decide) (Nat.le_of_ble_eq_true rfl) ?_
  intro p e s m args below meth c ls S hk hr hx hl hO
  have hl : lv_has ls 2 [(0, .ref (ad 35)), (1, .int a)] := hl
  refine lv_aload_n S.1 S.2.1 d_TX_readSign_0 rfl (lv_at hl 0 rfl) ?_
  refine g_VP (As := []) (rest := []) S hO (k_TX_nextSign l G ad σ τ N hN hN4 pp hp (by omega)) cw_TX_89 (by decide) (sh_35 G ad _ _) rfl rfl hl.1 (Nat.le_of_ble_eq_true rfl) ⟨(Nat.le_of_ble_eq_true rfl), (Nat.le_of_ble_eq_true rfl)⟩ ⟨(Nat.le_of_ble_eq_true rfl), (Nat.le_of_ble_eq_true rfl)⟩ d_TX_readSign_1 (fun q x ce H h9 => h9.elim) (fun v H v_1 hO => ?_)
  subst v_1
  refine W.eq (g2 := F0 m 4 ls [.int (nxS (σ 36) N pp)]) rfl ?_
  refine lv_iload_n S.1 S.2.1 d_TX_readSign_4 rfl (lv_at hl 1 rfl) ?_
  refine lv_icmp_eq (tgt := 17) S.1 S.2.1 d_TX_readSign_5 (by decide) (fun c_5 => ?_) (fun c_5 => ?_)
  · skip
    refine lv_aload_n S.1 S.2.1 d_TX_readSign_17 rfl (lv_at hl 0 rfl) ?_
    refine lv_dup S.1 S.2.1 d_TX_readSign_18 rfl ?_
    refine g_get S hO fl_TX_35 (by decide) (sh_35 G ad _ _) (v := .int (σ 35 3)) rfl d_TX_readSign_19 ?_
    refine W.eq (g2 := F0 m 22 ls [.int (nI pp), .ref (ad 35)]) (by rw [show σ 35 3 = nI pp from hp]) ?_
    refine lv_iconst (v := 1) S.1 S.2.1 d_TX_readSign_22 (by decide) ?_
    refine lv_iadd S.1 S.2.1 d_TX_readSign_23 ?_
    refine W.eq (g2 := F0 m 24 ls [.int (nI (pp + 1)), .ref (ad 35)]) (by rw [show (nI pp) + (1 : Int32) = nI (pp + 1) from nI_add pp 1]) ?_
    obtain ⟨s_2, hs_2⟩ : ∃ z : Nat → Nat → Int32, z = up2 σ 35 3 (nI (pp + 1)) := ⟨_, rfl⟩
    refine g_put S hO (fun _ h => h) fp_TX_35 (by decide) (sh_35 G ad _ _) (v := .int (nI (pp + 1))) rfl rfl (Nat.le_of_ble_eq_true rfl) (E2 := enc G ad s_2 τ) (by rw [hs_2]; exact enc_i (sh_35 G ad _ _)) d_TX_readSign_24 (fun H locs hO => ?_)
    refine lv_iconst (v := 1) S.1 S.2.1 d_TX_readSign_27 (by decide) ?_
    subst hs_2
    exact im_z S hk hr hO (by first | exact Or.inl rfl | exact Or.inr rfl | exact b_01) ⟨by rw [decide_eq_true c_5]; rfl, by rw [rsS, if_pos c_5], rfl⟩ (Nat.le_of_ble_eq_true rfl) (Nat.le_of_ble_eq_true rfl) d_TX_readSign_28
  · skip
    refine lv_aload_n S.1 S.2.1 d_TX_readSign_8 rfl (lv_at hl 0 rfl) ?_
    refine lv_aload_n S.1 S.2.1 d_TX_readSign_9 rfl (lv_at hl 0 rfl) ?_
    refine g_get S hO fl_TX_35 (by decide) (sh_35 G ad _ _) (v := .int (σ 35 3)) rfl d_TX_readSign_10 ?_
    refine W.eq (g2 := F0 m 13 ls [.int (nI pp), .ref (ad 35)]) (by rw [show σ 35 3 = nI pp from hp]) ?_
    refine g_VI (As := [.int (nI pp)]) (rest := []) S hO (fun _ h => h) (k_TX_fail l G ad σ τ (nI pp)) cw_TX_95 (by decide) (sh_35 G ad _ _) rfl rfl hl.1 (Nat.le_of_ble_eq_true rfl) ⟨(Nat.le_of_ble_eq_true rfl), (Nat.le_of_ble_eq_true rfl)⟩ ⟨(Nat.le_of_ble_eq_true rfl), (Nat.le_of_ble_eq_true rfl)⟩ d_TX_readSign_13 (fun q x ce H locs h9 => h9.elim) (fun v E1 H locs v_3 hO => ?_)
    obtain ⟨s_4, t_5, rfl, rfl, hs_4, ht_5⟩ := v_3
    rw [ht_5] at hO
    refine W.eq (g2 := F0 m 16 ls [.int 0]) rfl ?_
    subst hs_4
    exact im_z S hk hr hO (by first | exact Or.inl rfl | exact Or.inr rfl | exact b_01) ⟨by rw [decide_eq_false c_5]; rfl, by rw [rsS, if_neg c_5], rfl⟩ (Nat.le_of_ble_eq_true rfl) (Nat.le_of_ble_eq_true rfl) d_TX_readSign_16
set_option maxHeartbeats 4000000 in
set_option maxRecDepth 100000 in
theorem k_TX_readBlank (l : Launch) (G : gP) (ad : Nat → Nat) (σ : Nat → Nat → Int32) (τ : Nat → Nat → Int64) (N : Nat) (hN : σ 35 1 = nI N) (hN4 : N ≤ 400) (pp : Nat) (hp : σ 35 3 = nI pp) (hp2 : pp < 4000) : gim l y_TX_readBlank c_TX_readBlank 1 (some .boolean) { frames := 2, cells := 0, slots := 0, locals := 42 } G ad σ τ [.ref (ad 35)] 0 0 (fun v σ1 τ1 => v = some (.int (bI (decide (nxS (σ 36) N pp = 32)))) ∧ σ1 = rsS σ 32 N pp ∧ τ1 = τ) (fun _ => False) := by
  refine gs_of (fun _ h => h) (by decide) (Nat.le_of_ble_eq_true rfl) ?_
  intro p e s m args below meth c ls S hk hr hx hl hO
  have hl : lv_has ls 1 [(0, .ref (ad 35))] := hl
  refine lv_aload_n S.1 S.2.1 d_TX_readBlank_0 rfl (lv_at hl 0 rfl) ?_
  refine lv_bipush (v := 32) S.1 S.2.1 d_TX_readBlank_1 (by decide) ?_
  refine g_VI (As := [.int 32]) (rest := []) S hO (fun _ h => h) (k_TX_readSign l G ad σ τ 32 N hN hN4 pp hp (by omega)) cw_TX_85 (by decide) (sh_35 G ad _ _) rfl rfl hl.1 (Nat.le_of_ble_eq_true rfl) ⟨(Nat.le_of_ble_eq_true rfl), (Nat.le_of_ble_eq_true rfl)⟩ ⟨(Nat.le_of_ble_eq_true rfl), (Nat.le_of_ble_eq_true rfl)⟩ d_TX_readBlank_3 (fun q x ce H locs h9 => h9.elim) (fun v E1 H locs v_1 hO => ?_)
  obtain ⟨s_2, t_3, rfl, rfl, hs_2, ht_3⟩ := v_1
  rw [ht_3] at hO
  refine W.eq (g2 := F0 m 6 ls [.int (bI (decide (nxS (σ 36) N pp = 32)))]) rfl ?_
  subst hs_2
  exact im_z S hk hr hO (by first | exact Or.inl rfl | exact Or.inr rfl | exact b_01) ⟨rfl, rfl, rfl⟩ (Nat.le_of_ble_eq_true rfl) (Nat.le_of_ble_eq_true rfl) d_TX_readBlank_6
def pnP (r : Except Nat (Int32 × Nat)) (v : Option Value) (s : Nat → Nat → Int32) : Prop := match r with
  | .error e => v = some (.int 0) ∧ s 35 4 = nI e
  | .ok (x, q) => v = some (.int 1) ∧ s 35 3 = nI q ∧ s 35 5 = x
theorem pnP_e {r : Except Nat (Int32 × Nat)} {e : Nat} {v : Option Value} {s : Nat → Nat → Int32} (h : r = .error e) (h1 : v = some (.int 0)) (h2 : s 35 4 = nI e) : pnP r v s := by
  subst h
  exact ⟨h1, h2⟩
theorem pnP_o {r : Except Nat (Int32 × Nat)} {x : Int32} {q : Nat} {v : Option Value} {s : Nat → Nat → Int32} (h : r = .ok (x, q)) (h1 : v = some (.int 1)) (h2 : s 35 3 = nI q) (h3 : s 35 5 = x) : pnP r v s := by
  subst h
  exact ⟨h1, h2, h3⟩
set_option maxHeartbeats 4000000 in
set_option maxRecDepth 100000 in
theorem k_TX_readNumber (l : Launch) (G : gP) (ad : Nat → Nat) (σ : Nat → Nat → Int32) (τ : Nat → Nat → Int64) (a b : Int32) (N : Nat) (hN : σ 35 1 = nI N) (hN4 : N ≤ 400) (pp : Nat) (hp : σ 35 3 = nI pp) (hp2 : pp < 2000) : gim l y_TX_readNumber c_TX_readNumber 6 (some .boolean) { frames := 1, cells := 0, slots := 0, locals := 21 } G ad σ τ [.ref (ad 35), .int a, .int b] 0 0 (fun v σ1 τ1 => TXF σ1 σ ∧ τ1 = τ ∧ pnP (pnr (σ 36) N pp a b) v σ1) (fun _ => False) := by
  refine gs_of (fun _ h => h) (by decide) (Nat.le_of_ble_eq_true rfl) ?_
  intro p e s m args below meth c ls S hk hr hx hl hO
  have hl : lv_has ls 6 [(0, .ref (ad 35)), (1, .int a), (2, .int b)] := hl
  refine lv_aload_n S.1 S.2.1 d_TX_readNumber_0 rfl (lv_at hl 0 rfl) ?_
  refine g_get S hO fl_TX_35 (by decide) (sh_35 G ad _ _) (v := .int (σ 35 3)) rfl d_TX_readNumber_1 ?_
  refine W.eq (g2 := F0 m 4 ls [.int (nI pp)]) (by rw [show σ 35 3 = nI pp from hp]) ?_
  refine lv_istore_n (lv' := [(3, .int (nI pp)), (0, .ref (ad 35)), (1, .int a), (2, .int b)]) S.1 S.2.1 d_TX_readNumber_4 rfl hl (by decide) rfl (fun ls hl => ?_)
  refine lv_aload_n S.1 S.2.1 d_TX_readNumber_5 rfl (lv_at hl 1 rfl) ?_
  refine lv_iconst (v := 0) S.1 S.2.1 d_TX_readNumber_6 (by decide) ?_
  obtain ⟨sz, hsz⟩ : ∃ z : Nat → Nat → Int32, z = up2 σ 35 5 0 := ⟨_, rfl⟩
  refine g_put S hO (fun _ h => h) fp_TX_49 (by decide) (sh_35 G ad _ _) (v := .int 0) rfl rfl (Nat.le_of_ble_eq_true rfl) (E2 := enc G ad sz τ) (by rw [hsz]; exact enc_i (sh_35 G ad _ _)) d_TX_readNumber_7 (fun H locs hO => ?_)
  refine lv_iconst (v := 0) S.1 S.2.1 d_TX_readNumber_10 (by decide) ?_
  refine lv_istore (lv' := [(4, .int 0), (3, .int (nI pp)), (0, .ref (ad 35)), (1, .int a), (2, .int b)]) S.1 S.2.1 d_TX_readNumber_11 hl (by decide) rfl (fun ls hl => ?_)
  have K_13 : ∀ (n9 : Nat) (d : Nat) (x : Int32) (s9 : Nat → Nat → Int32), 7 - d < n9 → (d ≤ 7) → (pdl (σ 36) N pp 7 0 0 = pdl (σ 36) N pp (7 - d) d x) → (TXF s9 σ) → (s9 35 3 = nI (pp + d)) → (s9 35 5 = x) → ∀ (H : Heap) (locs : List Loc), gO G (gA G) 159 ad (enc G ad s9 τ) s H locs → ∀ ls : Array Slot, lv_has ls 6 [(4, .int (nI d)), (3, .int (nI pp)), (0, .ref (ad 35)), (1, .int a), (2, .int b)] → W p l e { frames := 1, cells := 0, slots := 0, locals := 21 } s m args below meth c H locs 0 0 (gM below (gA G) 0 0 (fun v t => ∃ E1, (∃ σ1 τ1, E1 = enc G ad σ1 τ1 ∧ (fun v σ1 τ1 => TXF σ1 σ ∧ τ1 = τ ∧ pnP (pnr (σ 36) N pp a b) v σ1) v σ1 τ1) ∧ va_P G.1 gcl (gw 159 ad E1) t.heap) (fun x t => (fun _ => False) x ∧ va_P G.1 gcl (gw 159 ad (enc G ad σ τ)) t.heap) args s) (F0 m 13 ls []) := by
    intro n9
    induction n9 with
    | zero =>
      intro d x s9 hn9 hd hq hF h3 h5 H locs hO ls hl
      exact absurd hn9 (Nat.not_lt_zero _)
    | succ n9 ih_13 =>
      intro d x s9 hn9 hd hq hF h3 h5 H locs hO ls hl
      have hN9 : s9 35 1 = nI N := by rw [hF 35 1 (by omega)]; exact hN
      have hT : s9 36 = σ 36 := funext (fun j => hF 36 j (by omega))
      refine lv_iload S.1 S.2.1 d_TX_readNumber_13 (lv_at hl 0 rfl) ?_
      refine lv_bipush (v := 6) S.1 S.2.1 d_TX_readNumber_15 (by decide) ?_
      refine lv_icmp_gt (tgt := 105) S.1 S.2.1 d_TX_readNumber_17 (by decide) (fun c_17 => ?_) (fun c_17 => ?_)
      · skip
        have hd7 : d = 7 := by
          have h9 := lt_nI (x := (6 : Int32)) (n := 6) rfl rfl (by omega) (by omega) c_17
          omega
        have hR : pdl (σ 36) N pp 7 0 0 = .ok (x, d) := by rw [hq, hd7]; rfl
        refine lv_aload_n S.1 S.2.1 d_TX_readNumber_105 rfl (lv_at hl 2 rfl) ?_
        refine g_get S hO fl_TX_35 (by decide) (sh_35 G ad _ _) (v := .int (s9 35 3)) rfl d_TX_readNumber_106 ?_
        refine W.eq (g2 := F0 m 109 ls [.int (nI (pp + d))]) (by rw [show s9 35 3 = nI (pp + d) from h3]) ?_
        refine lv_iload_n S.1 S.2.1 d_TX_readNumber_109 rfl (lv_at hl 1 rfl) ?_
        refine lv_icmp_ne (tgt := 122) S.1 S.2.1 d_TX_readNumber_110 (by decide) (fun c_110 => ?_) (fun c_110 => ?_)
        · skip
          have hd0 : d ≠ 0 := fun z => c_110 (by rw [z]; rfl)
          refine lv_aload_n S.1 S.2.1 d_TX_readNumber_122 rfl (lv_at hl 2 rfl) ?_
          refine g_get S hO fl_TX_49 (by decide) (sh_35 G ad _ _) (v := .int (s9 35 5)) rfl d_TX_readNumber_123 ?_
          refine W.eq (g2 := F0 m 126 ls [.int x]) (by rw [show s9 35 5 = x from h5]) ?_
          refine lv_iload_n S.1 S.2.1 d_TX_readNumber_126 rfl (lv_at hl 3 rfl) ?_
          refine lv_icmp_lt (tgt := 138) S.1 S.2.1 d_TX_readNumber_127 (by decide) (fun c_127 => ?_) (fun c_127 => ?_)
          · skip
            refine lv_aload_n S.1 S.2.1 d_TX_readNumber_138 rfl (lv_at hl 2 rfl) ?_
            refine lv_iload_n S.1 S.2.1 d_TX_readNumber_139 rfl (lv_at hl 1 rfl) ?_
            refine g_VI (As := [.int (nI pp)]) (rest := []) S hO (fun _ h => h) (k_TX_fail l G ad s9 τ (nI pp)) cw_TX_95 (by decide) (sh_35 G ad _ _) rfl rfl hl.1 (Nat.le_of_ble_eq_true rfl) ⟨(Nat.le_of_ble_eq_true rfl), (Nat.le_of_ble_eq_true rfl)⟩ ⟨(Nat.le_of_ble_eq_true rfl), (Nat.le_of_ble_eq_true rfl)⟩ d_TX_readNumber_140 (fun q x ce H locs h9 => h9.elim) (fun v E1 H locs v_1 hO => ?_)
            obtain ⟨s_2, t_3, rfl, rfl, hs_2, ht_3⟩ := v_1
            rw [ht_3] at hO
            refine W.eq (g2 := F0 m 143 ls [.int 0]) rfl ?_
            refine lv_if_eq (tgt := 150) S.1 S.2.1 d_TX_readNumber_143 (by decide) (fun c_143 => ?_) (fun c_143 => ?_)
            · skip
              refine lv_iconst (v := 0) S.1 S.2.1 d_TX_readNumber_150 (by decide) ?_
              subst hs_2
              exact im_z S hk hr hO (by first | exact Or.inl rfl | exact Or.inr rfl | exact b_01) ⟨by exact hF.up (by omega), rfl, pnP_e (pnr_n hR hd0 (by simp [inB, Int32.not_le.mpr c_127])) rfl up2_s⟩ (Nat.le_of_ble_eq_true rfl) (Nat.le_of_ble_eq_true rfl) d_TX_readNumber_151
            · skip
              exact absurd rfl c_143
          · skip
            refine lv_aload_n S.1 S.2.1 d_TX_readNumber_130 rfl (lv_at hl 2 rfl) ?_
            refine g_get S hO fl_TX_49 (by decide) (sh_35 G ad _ _) (v := .int (s9 35 5)) rfl d_TX_readNumber_131 ?_
            refine W.eq (g2 := F0 m 134 ls [.int x]) (by rw [show s9 35 5 = x from h5]) ?_
            refine lv_iload_n S.1 S.2.1 d_TX_readNumber_134 rfl (lv_at hl 4 rfl) ?_
            refine lv_icmp_le (tgt := 146) S.1 S.2.1 d_TX_readNumber_135 (by decide) (fun c_135 => ?_) (fun c_135 => ?_)
            · skip
              refine lv_iconst (v := 1) S.1 S.2.1 d_TX_readNumber_146 (by decide) ?_
              refine lv_goto (tgt := 151) S.1 S.2.1 d_TX_readNumber_147 (by decide) ?_
              exact im_z S hk hr hO (by first | exact Or.inl rfl | exact Or.inr rfl | exact b_01) ⟨hF, rfl, pnP_o (pnr_y hR hd0 (by simp [inB, Int32.not_lt.mp c_127, c_135])) rfl h3 h5⟩ (Nat.le_of_ble_eq_true rfl) (Nat.le_of_ble_eq_true rfl) d_TX_readNumber_151
            · skip
              refine lv_aload_n S.1 S.2.1 d_TX_readNumber_138 rfl (lv_at hl 2 rfl) ?_
              refine lv_iload_n S.1 S.2.1 d_TX_readNumber_139 rfl (lv_at hl 1 rfl) ?_
              refine g_VI (As := [.int (nI pp)]) (rest := []) S hO (fun _ h => h) (k_TX_fail l G ad s9 τ (nI pp)) cw_TX_95 (by decide) (sh_35 G ad _ _) rfl rfl hl.1 (Nat.le_of_ble_eq_true rfl) ⟨(Nat.le_of_ble_eq_true rfl), (Nat.le_of_ble_eq_true rfl)⟩ ⟨(Nat.le_of_ble_eq_true rfl), (Nat.le_of_ble_eq_true rfl)⟩ d_TX_readNumber_140 (fun q x ce H locs h9 => h9.elim) (fun v E1 H locs v_4 hO => ?_)
              obtain ⟨s_5, t_6, rfl, rfl, hs_5, ht_6⟩ := v_4
              rw [ht_6] at hO
              refine W.eq (g2 := F0 m 143 ls [.int 0]) rfl ?_
              refine lv_if_eq (tgt := 150) S.1 S.2.1 d_TX_readNumber_143 (by decide) (fun c_143 => ?_) (fun c_143 => ?_)
              · skip
                refine lv_iconst (v := 0) S.1 S.2.1 d_TX_readNumber_150 (by decide) ?_
                subst hs_5
                exact im_z S hk hr hO (by first | exact Or.inl rfl | exact Or.inr rfl | exact b_01) ⟨by exact hF.up (by omega), rfl, pnP_e (pnr_n hR hd0 (by simp [inB, Int32.not_le.mp c_135])) rfl up2_s⟩ (Nat.le_of_ble_eq_true rfl) (Nat.le_of_ble_eq_true rfl) d_TX_readNumber_151
              · skip
                exact absurd rfl c_143
        · skip
          have hd0 : d = 0 := by
            have h9 := (nI_eq (a := pp + d) (b := pp) (by omega) (by omega)).mp c_110
            omega
          refine lv_aload_n S.1 S.2.1 d_TX_readNumber_113 rfl (lv_at hl 2 rfl) ?_
          refine lv_aload_n S.1 S.2.1 d_TX_readNumber_114 rfl (lv_at hl 2 rfl) ?_
          refine g_get S hO fl_TX_35 (by decide) (sh_35 G ad _ _) (v := .int (s9 35 3)) rfl d_TX_readNumber_115 ?_
          refine W.eq (g2 := F0 m 118 ls [.int (nI (pp + d)), .ref (ad 35)]) (by rw [show s9 35 3 = nI (pp + d) from h3]) ?_
          refine g_VI (As := [.int (nI (pp + d))]) (rest := []) S hO (fun _ h => h) (k_TX_fail l G ad s9 τ (nI (pp + d))) cw_TX_95 (by decide) (sh_35 G ad _ _) rfl rfl hl.1 (Nat.le_of_ble_eq_true rfl) ⟨(Nat.le_of_ble_eq_true rfl), (Nat.le_of_ble_eq_true rfl)⟩ ⟨(Nat.le_of_ble_eq_true rfl), (Nat.le_of_ble_eq_true rfl)⟩ d_TX_readNumber_118 (fun q x ce H locs h9 => h9.elim) (fun v E1 H locs v_7 hO => ?_)
          obtain ⟨s_8, t_9, rfl, rfl, hs_8, ht_9⟩ := v_7
          rw [ht_9] at hO
          refine W.eq (g2 := F0 m 121 ls [.int 0]) rfl ?_
          subst hs_8
          exact im_z S hk hr hO (by first | exact Or.inl rfl | exact Or.inr rfl | exact b_01) ⟨by exact hF.up (by omega), rfl, pnP_e (pnr_0 (by rw [hR, hd0])) rfl (by rw [up2_s, hd0]; rfl)⟩ (Nat.le_of_ble_eq_true rfl) (Nat.le_of_ble_eq_true rfl) d_TX_readNumber_121
      · skip
        have hd6 : d ≤ 6 := by
          have h9 := ge_nI (x := nI d) (n := d) (N := 6) rfl rfl (by omega) (by omega) (Int32.not_lt.mp c_17)
          omega
        have e7 : 7 - d = (7 - (d + 1)) + 1 := by omega
        refine lv_aload_n S.1 S.2.1 d_TX_readNumber_20 rfl (lv_at hl 2 rfl) ?_
        refine g_VP (As := []) (rest := []) S hO (k_TX_nextSign l G ad s9 τ N hN9 hN4 (pp + d) h3 (by omega)) cw_TX_89 (by decide) (sh_35 G ad _ _) rfl rfl hl.1 (Nat.le_of_ble_eq_true rfl) ⟨(Nat.le_of_ble_eq_true rfl), (Nat.le_of_ble_eq_true rfl)⟩ ⟨(Nat.le_of_ble_eq_true rfl), (Nat.le_of_ble_eq_true rfl)⟩ d_TX_readNumber_21 (fun q x ce H h9 => h9.elim) (fun v H v_10 hO => ?_)
        subst v_10
        refine W.eq (g2 := F0 m 24 ls [.int (nxS (s9 36) N (pp + d))]) rfl ?_
        refine g_SP (As := [.int (nxS (s9 36) N (pp + d))]) (rest := []) S hO (k_TX_isDigit l G ad s9 τ (nxS (s9 36) N (pp + d))) cw_TX_92 g_cfC hl.1 (Nat.le_of_ble_eq_true rfl) ⟨(Nat.le_of_ble_eq_true rfl), (Nat.le_of_ble_eq_true rfl)⟩ ⟨(Nat.le_of_ble_eq_true rfl), (Nat.le_of_ble_eq_true rfl)⟩ d_TX_readNumber_24 (fun q x ce H h9 => h9.elim) (fun v H v_11 hO => ?_)
        subst v_11
        refine W.eq (g2 := F0 m 27 ls [.int (bI (dgB (nxS (s9 36) N (pp + d))))]) rfl ?_
        refine lv_if_eq (tgt := 105) S.1 S.2.1 d_TX_readNumber_27 (by decide) (fun c_27 => ?_) (fun c_27 => ?_)
        · skip
          have q_27 : (dgB (nxS (s9 36) N (pp + d))) = false := b_0 c_27
          rw [hT] at q_27
          have hR : pdl (σ 36) N pp 7 0 0 = .ok (x, d) := by rw [hq, e7, pdl_0 q_27]
          refine lv_aload_n S.1 S.2.1 d_TX_readNumber_105 rfl (lv_at hl 2 rfl) ?_
          refine g_get S hO fl_TX_35 (by decide) (sh_35 G ad _ _) (v := .int (s9 35 3)) rfl d_TX_readNumber_106 ?_
          refine W.eq (g2 := F0 m 109 ls [.int (nI (pp + d))]) (by rw [show s9 35 3 = nI (pp + d) from h3]) ?_
          refine lv_iload_n S.1 S.2.1 d_TX_readNumber_109 rfl (lv_at hl 1 rfl) ?_
          refine lv_icmp_ne (tgt := 122) S.1 S.2.1 d_TX_readNumber_110 (by decide) (fun c_110 => ?_) (fun c_110 => ?_)
          · skip
            have hd0 : d ≠ 0 := fun z => c_110 (by rw [z]; rfl)
            refine lv_aload_n S.1 S.2.1 d_TX_readNumber_122 rfl (lv_at hl 2 rfl) ?_
            refine g_get S hO fl_TX_49 (by decide) (sh_35 G ad _ _) (v := .int (s9 35 5)) rfl d_TX_readNumber_123 ?_
            refine W.eq (g2 := F0 m 126 ls [.int x]) (by rw [show s9 35 5 = x from h5]) ?_
            refine lv_iload_n S.1 S.2.1 d_TX_readNumber_126 rfl (lv_at hl 3 rfl) ?_
            refine lv_icmp_lt (tgt := 138) S.1 S.2.1 d_TX_readNumber_127 (by decide) (fun c_127 => ?_) (fun c_127 => ?_)
            · skip
              refine lv_aload_n S.1 S.2.1 d_TX_readNumber_138 rfl (lv_at hl 2 rfl) ?_
              refine lv_iload_n S.1 S.2.1 d_TX_readNumber_139 rfl (lv_at hl 1 rfl) ?_
              refine g_VI (As := [.int (nI pp)]) (rest := []) S hO (fun _ h => h) (k_TX_fail l G ad s9 τ (nI pp)) cw_TX_95 (by decide) (sh_35 G ad _ _) rfl rfl hl.1 (Nat.le_of_ble_eq_true rfl) ⟨(Nat.le_of_ble_eq_true rfl), (Nat.le_of_ble_eq_true rfl)⟩ ⟨(Nat.le_of_ble_eq_true rfl), (Nat.le_of_ble_eq_true rfl)⟩ d_TX_readNumber_140 (fun q x ce H locs h9 => h9.elim) (fun v E1 H locs v_12 hO => ?_)
              obtain ⟨s_13, t_14, rfl, rfl, hs_13, ht_14⟩ := v_12
              rw [ht_14] at hO
              refine W.eq (g2 := F0 m 143 ls [.int 0]) rfl ?_
              refine lv_if_eq (tgt := 150) S.1 S.2.1 d_TX_readNumber_143 (by decide) (fun c_143 => ?_) (fun c_143 => ?_)
              · skip
                refine lv_iconst (v := 0) S.1 S.2.1 d_TX_readNumber_150 (by decide) ?_
                subst hs_13
                exact im_z S hk hr hO (by first | exact Or.inl rfl | exact Or.inr rfl | exact b_01) ⟨by exact hF.up (by omega), rfl, pnP_e (pnr_n hR hd0 (by simp [inB, Int32.not_le.mpr c_127])) rfl up2_s⟩ (Nat.le_of_ble_eq_true rfl) (Nat.le_of_ble_eq_true rfl) d_TX_readNumber_151
              · skip
                exact absurd rfl c_143
            · skip
              refine lv_aload_n S.1 S.2.1 d_TX_readNumber_130 rfl (lv_at hl 2 rfl) ?_
              refine g_get S hO fl_TX_49 (by decide) (sh_35 G ad _ _) (v := .int (s9 35 5)) rfl d_TX_readNumber_131 ?_
              refine W.eq (g2 := F0 m 134 ls [.int x]) (by rw [show s9 35 5 = x from h5]) ?_
              refine lv_iload_n S.1 S.2.1 d_TX_readNumber_134 rfl (lv_at hl 4 rfl) ?_
              refine lv_icmp_le (tgt := 146) S.1 S.2.1 d_TX_readNumber_135 (by decide) (fun c_135 => ?_) (fun c_135 => ?_)
              · skip
                refine lv_iconst (v := 1) S.1 S.2.1 d_TX_readNumber_146 (by decide) ?_
                refine lv_goto (tgt := 151) S.1 S.2.1 d_TX_readNumber_147 (by decide) ?_
                exact im_z S hk hr hO (by first | exact Or.inl rfl | exact Or.inr rfl | exact b_01) ⟨hF, rfl, pnP_o (pnr_y hR hd0 (by simp [inB, Int32.not_lt.mp c_127, c_135])) rfl h3 h5⟩ (Nat.le_of_ble_eq_true rfl) (Nat.le_of_ble_eq_true rfl) d_TX_readNumber_151
              · skip
                refine lv_aload_n S.1 S.2.1 d_TX_readNumber_138 rfl (lv_at hl 2 rfl) ?_
                refine lv_iload_n S.1 S.2.1 d_TX_readNumber_139 rfl (lv_at hl 1 rfl) ?_
                refine g_VI (As := [.int (nI pp)]) (rest := []) S hO (fun _ h => h) (k_TX_fail l G ad s9 τ (nI pp)) cw_TX_95 (by decide) (sh_35 G ad _ _) rfl rfl hl.1 (Nat.le_of_ble_eq_true rfl) ⟨(Nat.le_of_ble_eq_true rfl), (Nat.le_of_ble_eq_true rfl)⟩ ⟨(Nat.le_of_ble_eq_true rfl), (Nat.le_of_ble_eq_true rfl)⟩ d_TX_readNumber_140 (fun q x ce H locs h9 => h9.elim) (fun v E1 H locs v_15 hO => ?_)
                obtain ⟨s_16, t_17, rfl, rfl, hs_16, ht_17⟩ := v_15
                rw [ht_17] at hO
                refine W.eq (g2 := F0 m 143 ls [.int 0]) rfl ?_
                refine lv_if_eq (tgt := 150) S.1 S.2.1 d_TX_readNumber_143 (by decide) (fun c_143 => ?_) (fun c_143 => ?_)
                · skip
                  refine lv_iconst (v := 0) S.1 S.2.1 d_TX_readNumber_150 (by decide) ?_
                  subst hs_16
                  exact im_z S hk hr hO (by first | exact Or.inl rfl | exact Or.inr rfl | exact b_01) ⟨by exact hF.up (by omega), rfl, pnP_e (pnr_n hR hd0 (by simp [inB, Int32.not_le.mp c_135])) rfl up2_s⟩ (Nat.le_of_ble_eq_true rfl) (Nat.le_of_ble_eq_true rfl) d_TX_readNumber_151
                · skip
                  exact absurd rfl c_143
          · skip
            have hd0 : d = 0 := by
              have h9 := (nI_eq (a := pp + d) (b := pp) (by omega) (by omega)).mp c_110
              omega
            refine lv_aload_n S.1 S.2.1 d_TX_readNumber_113 rfl (lv_at hl 2 rfl) ?_
            refine lv_aload_n S.1 S.2.1 d_TX_readNumber_114 rfl (lv_at hl 2 rfl) ?_
            refine g_get S hO fl_TX_35 (by decide) (sh_35 G ad _ _) (v := .int (s9 35 3)) rfl d_TX_readNumber_115 ?_
            refine W.eq (g2 := F0 m 118 ls [.int (nI (pp + d)), .ref (ad 35)]) (by rw [show s9 35 3 = nI (pp + d) from h3]) ?_
            refine g_VI (As := [.int (nI (pp + d))]) (rest := []) S hO (fun _ h => h) (k_TX_fail l G ad s9 τ (nI (pp + d))) cw_TX_95 (by decide) (sh_35 G ad _ _) rfl rfl hl.1 (Nat.le_of_ble_eq_true rfl) ⟨(Nat.le_of_ble_eq_true rfl), (Nat.le_of_ble_eq_true rfl)⟩ ⟨(Nat.le_of_ble_eq_true rfl), (Nat.le_of_ble_eq_true rfl)⟩ d_TX_readNumber_118 (fun q x ce H locs h9 => h9.elim) (fun v E1 H locs v_18 hO => ?_)
            obtain ⟨s_19, t_20, rfl, rfl, hs_19, ht_20⟩ := v_18
            rw [ht_20] at hO
            refine W.eq (g2 := F0 m 121 ls [.int 0]) rfl ?_
            subst hs_19
            exact im_z S hk hr hO (by first | exact Or.inl rfl | exact Or.inr rfl | exact b_01) ⟨by exact hF.up (by omega), rfl, pnP_e (pnr_0 (by rw [hR, hd0])) rfl (by rw [up2_s, hd0]; rfl)⟩ (Nat.le_of_ble_eq_true rfl) (Nat.le_of_ble_eq_true rfl) d_TX_readNumber_121
        · skip
          have q_27 : (dgB (nxS (s9 36) N (pp + d))) = true := b_1 c_27
          rw [hT] at q_27
          have J_47 : ∀ (z : Int32), z = (bI (decide (0 < d) && decide (x = 0))) → ∀ (H : Heap) (locs : List Loc), gO G (gA G) 159 ad (enc G ad s9 τ) s H locs → ∀ ls : Array Slot, lv_has ls 6 [(4, .int (nI d)), (3, .int (nI pp)), (0, .ref (ad 35)), (1, .int a), (2, .int b)] → W p l e { frames := 1, cells := 0, slots := 0, locals := 21 } s m args below meth c H locs 0 0 (gM below (gA G) 0 0 (fun v t => ∃ E1, (∃ σ1 τ1, E1 = enc G ad σ1 τ1 ∧ (fun v σ1 τ1 => TXF σ1 σ ∧ τ1 = τ ∧ pnP (pnr (σ 36) N pp a b) v σ1) v σ1 τ1) ∧ va_P G.1 gcl (gw 159 ad E1) t.heap) (fun x t => (fun _ => False) x ∧ va_P G.1 gcl (gw 159 ad (enc G ad σ τ)) t.heap) args s) (F0 m 47 ls (.int z :: [])) := by
            intro z ez H locs hO ls hl
            subst ez
            refine lv_istore (lv' := [(5, .int (bI (decide (0 < d) && decide (x = 0)))), (4, .int (nI d)), (3, .int (nI pp)), (0, .ref (ad 35)), (1, .int a), (2, .int b)]) S.1 S.2.1 d_TX_readNumber_47 hl (by decide) rfl (fun ls hl => ?_)
            refine lv_iload S.1 S.2.1 d_TX_readNumber_49 (lv_at hl 0 rfl) ?_
            refine lv_if_ne (tgt := 61) S.1 S.2.1 d_TX_readNumber_51 (by decide) (fun c_51 => ?_) (fun c_51 => ?_)
            · skip
              have q_51 : (decide (0 < d) && decide (x = 0)) = true := b_1 c_51
              refine lv_aload_n S.1 S.2.1 d_TX_readNumber_61 rfl (lv_at hl 3 rfl) ?_
              refine lv_aload_n S.1 S.2.1 d_TX_readNumber_62 rfl (lv_at hl 3 rfl) ?_
              refine g_get S hO fl_TX_35 (by decide) (sh_35 G ad _ _) (v := .int (s9 35 3)) rfl d_TX_readNumber_63 ?_
              refine W.eq (g2 := F0 m 66 ls [.int (nI (pp + d)), .ref (ad 35)]) (by rw [show s9 35 3 = nI (pp + d) from h3]) ?_
              refine g_VI (As := [.int (nI (pp + d))]) (rest := []) S hO (fun _ h => h) (k_TX_fail l G ad s9 τ (nI (pp + d))) cw_TX_95 (by decide) (sh_35 G ad _ _) rfl rfl hl.1 (Nat.le_of_ble_eq_true rfl) ⟨(Nat.le_of_ble_eq_true rfl), (Nat.le_of_ble_eq_true rfl)⟩ ⟨(Nat.le_of_ble_eq_true rfl), (Nat.le_of_ble_eq_true rfl)⟩ d_TX_readNumber_66 (fun q x ce H locs h9 => h9.elim) (fun v E1 H locs v_21 hO => ?_)
              obtain ⟨s_22, t_23, rfl, rfl, hs_22, ht_23⟩ := v_21
              rw [ht_23] at hO
              refine W.eq (g2 := F0 m 69 ls [.int 0]) rfl ?_
              subst hs_22
              exact im_z S hk hr hO (by first | exact Or.inl rfl | exact Or.inr rfl | exact b_01) ⟨by exact hF.up (by omega), rfl, pnP_e (pnr_e (by rw [hq, e7, pdl_e q_27 (Or.inl (by simpa using q_51))])) rfl up2_s⟩ (Nat.le_of_ble_eq_true rfl) (Nat.le_of_ble_eq_true rfl) d_TX_readNumber_69
            · skip
              have q_51 : (decide (0 < d) && decide (x = 0)) = false := b_0 c_51
              have hnz : ¬ (0 < d ∧ x = 0) := by simpa using q_51
              refine lv_iload S.1 S.2.1 d_TX_readNumber_54 (lv_at hl 1 rfl) ?_
              refine lv_bipush (v := 6) S.1 S.2.1 d_TX_readNumber_56 (by decide) ?_
              refine lv_icmp_ne (tgt := 70) S.1 S.2.1 d_TX_readNumber_58 (by decide) (fun c_58 => ?_) (fun c_58 => ?_)
              · skip
                refine lv_aload_n S.1 S.2.1 d_TX_readNumber_70 rfl (lv_at hl 3 rfl) ?_
                refine lv_aload_n S.1 S.2.1 d_TX_readNumber_71 rfl (lv_at hl 3 rfl) ?_
                refine g_get S hO fl_TX_49 (by decide) (sh_35 G ad _ _) (v := .int (s9 35 5)) rfl d_TX_readNumber_72 ?_
                refine W.eq (g2 := F0 m 75 ls [.int x, .ref (ad 35)]) (by rw [show s9 35 5 = x from h5]) ?_
                refine lv_bipush (v := 10) S.1 S.2.1 d_TX_readNumber_75 (by decide) ?_
                refine lv_imul S.1 S.2.1 d_TX_readNumber_77 ?_
                refine lv_aload_n S.1 S.2.1 d_TX_readNumber_78 rfl (lv_at hl 3 rfl) ?_
                refine g_VP (As := []) (rest := [.int (x * 10), .ref (ad 35)]) S hO (k_TX_nextSign l G ad s9 τ N hN9 hN4 (pp + d) h3 (by omega)) cw_TX_89 (by decide) (sh_35 G ad _ _) rfl rfl hl.1 (Nat.le_of_ble_eq_true rfl) ⟨(Nat.le_of_ble_eq_true rfl), (Nat.le_of_ble_eq_true rfl)⟩ ⟨(Nat.le_of_ble_eq_true rfl), (Nat.le_of_ble_eq_true rfl)⟩ d_TX_readNumber_79 (fun q x ce H h9 => h9.elim) (fun v H v_24 hO => ?_)
                subst v_24
                refine W.eq (g2 := F0 m 82 ls [.int (nxS (s9 36) N (pp + d)), .int (x * 10), .ref (ad 35)]) rfl ?_
                refine lv_iadd S.1 S.2.1 d_TX_readNumber_82 ?_
                refine lv_bipush (v := 48) S.1 S.2.1 d_TX_readNumber_83 (by decide) ?_
                refine lv_isub S.1 S.2.1 d_TX_readNumber_85 ?_
                obtain ⟨sa, hsa⟩ : ∃ z : Nat → Nat → Int32, z = up2 s9 35 5 (((x * 10) + (nxS (s9 36) N (pp + d))) - 48) := ⟨_, rfl⟩
                refine g_put S hO (fun _ h => h) fp_TX_49 (by decide) (sh_35 G ad _ _) (v := .int (((x * 10) + (nxS (s9 36) N (pp + d))) - 48)) rfl rfl (Nat.le_of_ble_eq_true rfl) (E2 := enc G ad sa τ) (by rw [hsa]; exact enc_i (sh_35 G ad _ _)) d_TX_readNumber_86 (fun H locs hO => ?_)
                refine lv_aload_n S.1 S.2.1 d_TX_readNumber_89 rfl (lv_at hl 3 rfl) ?_
                refine lv_dup S.1 S.2.1 d_TX_readNumber_90 rfl ?_
                refine g_get S hO fl_TX_35 (by decide) (sh_35 G ad _ _) (v := .int (sa 35 3)) rfl d_TX_readNumber_91 ?_
                refine W.eq (g2 := F0 m 94 ls [.int (nI (pp + d)), .ref (ad 35)]) (by rw [show sa 35 3 = nI (pp + d) from (by simp [hsa, up2_at, h3])]) ?_
                refine lv_iconst (v := 1) S.1 S.2.1 d_TX_readNumber_94 (by decide) ?_
                refine lv_iadd S.1 S.2.1 d_TX_readNumber_95 ?_
                refine W.eq (g2 := F0 m 96 ls [.int (nI (pp + d + 1)), .ref (ad 35)]) (by rw [show (nI (pp + d)) + (1 : Int32) = nI (pp + d + 1) from nI_add (pp + d) 1]) ?_
                obtain ⟨sb, hsb⟩ : ∃ z : Nat → Nat → Int32, z = up2 sa 35 3 (nI (pp + d + 1)) := ⟨_, rfl⟩
                refine g_put S hO (fun _ h => h) fp_TX_35 (by decide) (sh_35 G ad _ _) (v := .int (nI (pp + d + 1))) rfl rfl (Nat.le_of_ble_eq_true rfl) (E2 := enc G ad sb τ) (by rw [hsb]; exact enc_i (sh_35 G ad _ _)) d_TX_readNumber_96 (fun H locs hO => ?_)
                refine lv_iinc (v := nI (d + 1)) (lv' := [(4, .int (nI (d + 1))), (5, .int (bI (decide (0 < d) && decide (x = 0)))), (3, .int (nI pp)), (0, .ref (ad 35)), (1, .int a), (2, .int b)]) S.1 S.2.1 d_TX_readNumber_99 hl (k := 1) rfl (nI_1 _) (by decide) rfl (fun ls hl => ?_)
                refine lv_goto (tgt := 13) S.1 S.2.1 d_TX_readNumber_102 (by decide) ?_
                exact ih_13 (d + 1) (x * 10 + nxS (σ 36) N (pp + d) - 48) sb (by omega) (by omega) (by rw [hq, e7, pdl_s q_27 (fun z => z.elim hnz (fun z => c_58 (by rw [z]; rfl)))]) (by rw [hsb, hsa]; exact (hF.up (by omega)).up (by omega)) (by rw [hsb, up2_s]; rfl) (by rw [hsb, up2_j (by decide), hsa, up2_s, hT]) _ _ hO ls (lv_sub hl [0, 2, 3, 4, 5] rfl)
              · skip
                refine lv_aload_n S.1 S.2.1 d_TX_readNumber_61 rfl (lv_at hl 3 rfl) ?_
                refine lv_aload_n S.1 S.2.1 d_TX_readNumber_62 rfl (lv_at hl 3 rfl) ?_
                refine g_get S hO fl_TX_35 (by decide) (sh_35 G ad _ _) (v := .int (s9 35 3)) rfl d_TX_readNumber_63 ?_
                refine W.eq (g2 := F0 m 66 ls [.int (nI (pp + d)), .ref (ad 35)]) (by rw [show s9 35 3 = nI (pp + d) from h3]) ?_
                refine g_VI (As := [.int (nI (pp + d))]) (rest := []) S hO (fun _ h => h) (k_TX_fail l G ad s9 τ (nI (pp + d))) cw_TX_95 (by decide) (sh_35 G ad _ _) rfl rfl hl.1 (Nat.le_of_ble_eq_true rfl) ⟨(Nat.le_of_ble_eq_true rfl), (Nat.le_of_ble_eq_true rfl)⟩ ⟨(Nat.le_of_ble_eq_true rfl), (Nat.le_of_ble_eq_true rfl)⟩ d_TX_readNumber_66 (fun q x ce H locs h9 => h9.elim) (fun v E1 H locs v_26 hO => ?_)
                obtain ⟨s_27, t_28, rfl, rfl, hs_27, ht_28⟩ := v_26
                rw [ht_28] at hO
                refine W.eq (g2 := F0 m 69 ls [.int 0]) rfl ?_
                subst hs_27
                exact im_z S hk hr hO (by first | exact Or.inl rfl | exact Or.inr rfl | exact b_01) ⟨by exact hF.up (by omega), rfl, pnP_e (pnr_e (by rw [hq, e7, pdl_e q_27 (Or.inr ((nI_eq (by omega) (by omega)).mp c_58))])) rfl up2_s⟩ (Nat.le_of_ble_eq_true rfl) (Nat.le_of_ble_eq_true rfl) d_TX_readNumber_69
          refine lv_iload S.1 S.2.1 d_TX_readNumber_30 (lv_at hl 0 rfl) ?_
          refine lv_if_le (tgt := 46) S.1 S.2.1 d_TX_readNumber_32 (by decide) (fun c_32 => ?_) (fun c_32 => ?_)
          · skip
            have hd0 : d = 0 := by
              have h9 := ge_nI (x := nI d) (n := d) (N := 0) rfl rfl (by omega) (by omega) c_32
              omega
            refine lv_iconst (v := 0) S.1 S.2.1 d_TX_readNumber_46 (by decide) ?_
            exact J_47 _ (by simp [bI, hd0]) _ _ hO ls (lv_sub hl [0, 1, 2, 3, 4] rfl)
          · skip
            have hd0 : 0 < d := by
              rcases Nat.eq_zero_or_pos d with z | z
              · exact absurd (by rw [z]; decide) c_32
              · exact z
            refine lv_aload_n S.1 S.2.1 d_TX_readNumber_35 rfl (lv_at hl 2 rfl) ?_
            refine g_get S hO fl_TX_49 (by decide) (sh_35 G ad _ _) (v := .int (s9 35 5)) rfl d_TX_readNumber_36 ?_
            refine W.eq (g2 := F0 m 39 ls [.int x]) (by rw [show s9 35 5 = x from h5]) ?_
            refine lv_if_ne (tgt := 46) S.1 S.2.1 d_TX_readNumber_39 (by decide) (fun c_39 => ?_) (fun c_39 => ?_)
            · skip
              refine lv_iconst (v := 0) S.1 S.2.1 d_TX_readNumber_46 (by decide) ?_
              exact J_47 _ (by simp [bI, hd0, c_39]) _ _ hO ls (lv_sub hl [0, 1, 2, 3, 4] rfl)
            · skip
              refine lv_iconst (v := 1) S.1 S.2.1 d_TX_readNumber_42 (by decide) ?_
              refine lv_goto (tgt := 47) S.1 S.2.1 d_TX_readNumber_43 (by decide) ?_
              exact J_47 _ (by simp [bI, hd0, c_39]) _ _ hO ls (lv_sub hl [0, 1, 2, 3, 4] rfl)
  exact K_13 8 0 0 sz (by omega) (by omega) rfl (by rw [hsz]; exact (TXF.refl σ).up (by omega)) (by rw [hsz, up2_j (by decide)]; exact hp) (by rw [hsz, up2_s]) _ _ hO ls (lv_sub hl [0, 1, 2, 3, 4] rfl)
set_option maxHeartbeats 4000000 in
set_option maxRecDepth 100000 in
theorem k_TX_sharedSigns (l : Launch) (G : gP) (ad : Nat → Nat) (σ : Nat → Nat → Int32) (τ : Nat → Nat → Int64) (k : Nat) (hk11 : k < 11) (N : Nat) (hN : σ 35 1 = nI N) (hN4 : N ≤ 400) (pp : Nat) (hp : σ 35 3 = nI pp) (hp2 : pp < 2000) : gpu l y_TX_sharedSigns c_TX_sharedSigns 3 (some .int) { frames := 4, cells := 0, slots := 0, locals := 85 } G ad σ τ [.ref (ad 35), .ref (ga G (20 + k))] 0 0 (fun v => v = some (.int (nI (shN (σ 36) N pp k)))) (fun _ => False) := by
  refine gs_of (fun _ h => h.elim) (by decide) (Nat.le_of_ble_eq_true rfl) ?_
  intro p e s m args below meth c ls S hk hr hx hl hO
  have hl : lv_has ls 3 [(0, .ref (ad 35)), (1, .ref (ga G (20 + k)))] := hl
  have hg6 := gkl_6 hk11
  refine lv_iconst (v := 0) S.1 S.2.1 d_TX_sharedSigns_0 (by decide) ?_
  refine lv_istore_n (lv' := [(2, .int 0), (0, .ref (ad 35)), (1, .ref (ga G (20 + k)))]) S.1 S.2.1 d_TX_sharedSigns_1 rfl hl (by decide) rfl (fun ls hl => ?_)
  have K_2 : ∀ (n9 : Nat) (j : Nat), 7 - j < n9 → (j ≤ gkl.getD k 0) → (shf (σ 36) N pp k 7 0 = shf (σ 36) N pp k (7 - j) j) → ∀ (H : Heap) (locs : List Loc), gO G (fun _ => False) 159 ad (enc G ad σ τ) s H locs → ∀ ls : Array Slot, lv_has ls 3 [(2, .int (nI j)), (0, .ref (ad 35)), (1, .ref (ga G (20 + k)))] → W p l e { frames := 4, cells := 0, slots := 0, locals := 85 } s m args below meth c H locs 0 0 (gM below (fun _ => False) 0 0 (fun v _ => (fun v => v = some (.int (nI (shN (σ 36) N pp k)))) v) (fun x _ => (fun _ => False) x) args s) (F0 m 2 ls []) := by
    intro n9
    induction n9 with
    | zero =>
      intro j hn9 hj6 hq H locs hO ls hl
      exact absurd hn9 (Nat.not_lt_zero _)
    | succ n9 ih_2 =>
      intro j hn9 hj6 hq H locs hO ls hl
      refine lv_iload_n S.1 S.2.1 d_TX_sharedSigns_2 rfl (lv_at hl 0 rfl) ?_
      refine lv_aload_n S.1 S.2.1 d_TX_sharedSigns_3 rfl (lv_at hl 2 rfl) ?_
      refine g_VPS (As := []) (rest := [.int (nI j)]) S hO (i := k) (by omega) (k_java_lang_String_length l G ad σ τ k (by omega)) cw_TX_110 rfl hl.1 (Nat.le_of_ble_eq_true rfl) ⟨(Nat.le_of_ble_eq_true rfl), (Nat.le_of_ble_eq_true rfl)⟩ ⟨(Nat.le_of_ble_eq_true rfl), (Nat.le_of_ble_eq_true rfl)⟩ d_TX_sharedSigns_4 (fun q x ce H h9 => h9.elim) (fun v H v_1 hO => ?_)
      subst v_1
      refine W.eq (g2 := F0 m 7 ls [.int (nI (gkl.getD k 0)), .int (nI j)]) rfl ?_
      refine lv_icmp_ge (tgt := 48) S.1 S.2.1 d_TX_sharedSigns_7 (by decide) (fun c_7 => ?_) (fun c_7 => ?_)
      · skip
        have hge : gkl.getD k 0 ≤ j := ge_nI (x := nI (gkl.getD k 0)) rfl rfl (by omega) (by omega) c_7
        have e7 : 7 - j = (7 - (j + 1)) + 1 := by omega
        refine lv_iload_n S.1 S.2.1 d_TX_sharedSigns_48 rfl (lv_at hl 0 rfl) ?_
        exact pu_i S hk hr hO (by rw [shN, hq, e7, shf_f (fun z => by omega)]) (Nat.le_of_ble_eq_true rfl) (Nat.le_of_ble_eq_true rfl) d_TX_sharedSigns_49
      · skip
        have hj : j < gkl.getD k 0 := ngt_nI (x := nI (gkl.getD k 0)) rfl rfl (by omega) (by omega) c_7
        have e7 : 7 - j = (7 - (j + 1)) + 1 := by omega
        refine lv_aload_n S.1 S.2.1 d_TX_sharedSigns_10 rfl (lv_at hl 1 rfl) ?_
        refine g_get S hO fl_TX_35 (by decide) (sh_35 G ad _ _) (v := .int (σ 35 3)) rfl d_TX_sharedSigns_11 ?_
        refine W.eq (g2 := F0 m 14 ls [.int (nI pp)]) (by rw [show σ 35 3 = nI pp from hp]) ?_
        refine lv_iload_n S.1 S.2.1 d_TX_sharedSigns_14 rfl (lv_at hl 0 rfl) ?_
        refine lv_iadd S.1 S.2.1 d_TX_sharedSigns_15 ?_
        refine W.eq (g2 := F0 m 16 ls [.int (nI (pp + j))]) (by rw [show (nI pp) + (nI j) = nI (pp + j) from nI_add pp j]) ?_
        refine lv_aload_n S.1 S.2.1 d_TX_sharedSigns_16 rfl (lv_at hl 1 rfl) ?_
        refine g_get S hO fl_TX_31 (by decide) (sh_35 G ad _ _) (v := .int (σ 35 1)) rfl d_TX_sharedSigns_17 ?_
        refine W.eq (g2 := F0 m 20 ls [.int (nI N), .int (nI (pp + j))]) (by rw [show σ 35 1 = nI N from hN]) ?_
        refine lv_icmp_ge (tgt := 48) S.1 S.2.1 d_TX_sharedSigns_20 (by decide) (fun c_20 => ?_) (fun c_20 => ?_)
        · skip
          have hge : N ≤ pp + j := ge_nI (x := nI N) rfl rfl (by omega) (by omega) c_20
          refine lv_iload_n S.1 S.2.1 d_TX_sharedSigns_48 rfl (lv_at hl 0 rfl) ?_
          exact pu_i S hk hr hO (by rw [shN, hq, e7, shf_f (fun z => by omega)]) (Nat.le_of_ble_eq_true rfl) (Nat.le_of_ble_eq_true rfl) d_TX_sharedSigns_49
        · skip
          have hlt : pp + j < N := ngt_nI (x := nI N) rfl rfl (by omega) (by omega) c_20
          refine lv_aload_n S.1 S.2.1 d_TX_sharedSigns_23 rfl (lv_at hl 1 rfl) ?_
          refine g_get S hO fl_TX_9 (by decide) (sh_35 G ad _ _) (v := .ref (ad 36)) rfl d_TX_sharedSigns_24 ?_
          refine lv_aload_n S.1 S.2.1 d_TX_sharedSigns_27 rfl (lv_at hl 1 rfl) ?_
          refine g_get S hO fl_TX_35 (by decide) (sh_35 G ad _ _) (v := .int (σ 35 3)) rfl d_TX_sharedSigns_28 ?_
          refine W.eq (g2 := F0 m 31 ls [.int (nI pp), .ref (ad 36)]) (by rw [show σ 35 3 = nI pp from hp]) ?_
          refine lv_iload_n S.1 S.2.1 d_TX_sharedSigns_31 rfl (lv_at hl 0 rfl) ?_
          refine lv_iadd S.1 S.2.1 d_TX_sharedSigns_32 ?_
          refine W.eq (g2 := F0 m 33 ls [.int (nI (pp + j)), .ref (ad 36)]) (by rw [show (nI pp) + (nI j) = nI (pp + j) from nI_add pp j]) ?_
          refine g_ial S hO (by decide) (sh_36 G ad _ _) (vp_in_nI (show pp + j < 400 by omega) (by decide)) d_TX_sharedSigns_33 ?_
          refine W.eq (g2 := F0 m 34 ls [.int (σ 36 (pp + j))]) (by rw [nI_clamp (show pp + j < 2 ^ 31 by omega)]) ?_
          refine lv_aload_n S.1 S.2.1 d_TX_sharedSigns_34 rfl (lv_at hl 2 rfl) ?_
          refine lv_iload_n S.1 S.2.1 d_TX_sharedSigns_35 rfl (lv_at hl 0 rfl) ?_
          refine g_VPS (As := [.int (nI j)]) (rest := [.int (σ 36 (pp + j))]) S hO (i := k) (by omega) (k_java_lang_String_charAt l G ad σ τ k (by omega) j hj) cw_TX_115 rfl hl.1 (Nat.le_of_ble_eq_true rfl) ⟨(Nat.le_of_ble_eq_true rfl), (Nat.le_of_ble_eq_true rfl)⟩ ⟨(Nat.le_of_ble_eq_true rfl), (Nat.le_of_ble_eq_true rfl)⟩ d_TX_sharedSigns_36 (fun q x ce H h9 => h9.elim) (fun v H v_2 hO => ?_)
          subst v_2
          refine W.eq (g2 := F0 m 39 ls [.int (kbC k j), .int (σ 36 (pp + j))]) rfl ?_
          refine lv_icmp_ne (tgt := 48) S.1 S.2.1 d_TX_sharedSigns_39 (by decide) (fun c_39 => ?_) (fun c_39 => ?_)
          · skip
            refine lv_iload_n S.1 S.2.1 d_TX_sharedSigns_48 rfl (lv_at hl 0 rfl) ?_
            exact pu_i S hk hr hO (by rw [shN, hq, e7, shf_f (fun z => c_39 z.2.2)]) (Nat.le_of_ble_eq_true rfl) (Nat.le_of_ble_eq_true rfl) d_TX_sharedSigns_49
          · skip
            refine lv_iinc (v := nI (j + 1)) (lv' := [(2, .int (nI (j + 1))), (0, .ref (ad 35)), (1, .ref (ga G (20 + k)))]) S.1 S.2.1 d_TX_sharedSigns_42 hl (k := 0) rfl (nI_1 _) (by decide) rfl (fun ls hl => ?_)
            refine lv_goto (tgt := 2) S.1 S.2.1 d_TX_sharedSigns_45 (by decide) ?_
            exact ih_2 (j + 1) (by omega) (by omega) (by rw [hq, e7, shf_t ⟨hj, hlt, c_39⟩]) _ _ hO ls (lv_sub hl [0, 1, 2] rfl)
  exact K_2 8 0 (by omega) (by omega) rfl _ _ hO ls (lv_sub hl [0, 1, 2] rfl)
