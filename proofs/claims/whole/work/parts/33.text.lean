/-! The text: its signs, numbers and kinds, as the class reads them. Written by wip/tools/m33.py. -/
def nxS (T : Nat → Int32) (N p : Nat) : Int32 := if p < N then T p else (-1)
def dgB (c : Int32) : Bool := inB c 48 57
/-- digits from the place p on: d are read, their value is v -/
def pdl (T : Nat → Int32) (N p : Nat) : Nat → Nat → Int32 → Except Nat (Int32 × Nat)
  | 0, d, v => .ok (v, d)
  | f + 1, d, v => if dgB (nxS T N (p + d)) = true then (if (0 < d ∧ v = 0) ∨ d = 6 then .error (p + d) else pdl T N p f (d + 1) (v * 10 + nxS T N (p + d) - 48)) else .ok (v, d)
def pnm (T : Nat → Int32) (N p : Nat) : Except Nat (Int32 × Nat) := match pdl T N p 7 0 0 with
  | .error e => .error e
  | .ok (v, d) => if d = 0 then .error p else .ok (v, p + d)
def pnr (T : Nat → Int32) (N p : Nat) (lo hi : Int32) : Except Nat (Int32 × Nat) := match pnm T N p with
  | .error e => .error e
  | .ok (v, q) => if inB v lo hi = true then .ok (v, q) else .error p
theorem pdl_0 {T : Nat → Int32} {N p f d : Nat} {v : Int32} (h : dgB (nxS T N (p + d)) = false) : pdl T N p (f + 1) d v = .ok (v, d) := by rw [pdl, if_neg (by rw [h]; decide)]
theorem pdl_e {T : Nat → Int32} {N p f d : Nat} {v : Int32} (h : dgB (nxS T N (p + d)) = true) (h2 : (0 < d ∧ v = 0) ∨ d = 6) : pdl T N p (f + 1) d v = .error (p + d) := by rw [pdl, if_pos h, if_pos h2]
theorem pdl_s {T : Nat → Int32} {N p f d : Nat} {v : Int32} (h : dgB (nxS T N (p + d)) = true) (h2 : ¬ ((0 < d ∧ v = 0) ∨ d = 6)) : pdl T N p (f + 1) d v = pdl T N p f (d + 1) (v * 10 + nxS T N (p + d) - 48) := by rw [pdl, if_pos h, if_neg h2]
theorem pnr_e {T : Nat → Int32} {N p e : Nat} {lo hi : Int32} (h : pdl T N p 7 0 0 = .error e) : pnr T N p lo hi = .error e := by simp only [pnr, pnm, h]
theorem pnr_0 {T : Nat → Int32} {N p : Nat} {v lo hi : Int32} (h : pdl T N p 7 0 0 = .ok (v, 0)) : pnr T N p lo hi = .error p := by simp [pnr, pnm, h]
theorem pnr_n {T : Nat → Int32} {N p d : Nat} {v lo hi : Int32} (h : pdl T N p 7 0 0 = .ok (v, d)) (hd : d ≠ 0) (h2 : inB v lo hi = false) : pnr T N p lo hi = .error p := by simp [pnr, pnm, h, hd, h2]
theorem pnr_y {T : Nat → Int32} {N p d : Nat} {v lo hi : Int32} (h : pdl T N p 7 0 0 = .ok (v, d)) (hd : d ≠ 0) (h2 : inB v lo hi = true) : pnr T N p lo hi = .ok (v, p + d) := by simp [pnr, pnm, h, hd, h2]
/-- the signs that the word k shares with the text at p -/
def shf (T : Nat → Int32) (N p k : Nat) : Nat → Nat → Nat
  | 0, j => j
  | f + 1, j => if j < gkl.getD k 0 ∧ p + j < N ∧ T (p + j) = kbC k j then shf T N p k f (j + 1) else j
def shN (T : Nat → Int32) (N p k : Nat) : Nat := shf T N p k 7 0
theorem shf_t {T : Nat → Int32} {N p k f j : Nat} (h : j < gkl.getD k 0 ∧ p + j < N ∧ T (p + j) = kbC k j) : shf T N p k (f + 1) j = shf T N p k f (j + 1) := by rw [shf, if_pos h]
theorem shf_f {T : Nat → Int32} {N p k f j : Nat} (h : ¬ (j < gkl.getD k 0 ∧ p + j < N ∧ T (p + j) = kbC k j)) : shf T N p k (f + 1) j = j := by rw [shf, if_neg h]
theorem shf_le {T : Nat → Int32} {N p k : Nat} (f j : Nat) (h : j ≤ gkl.getD k 0) : shf T N p k f j ≤ gkl.getD k 0 := by
  induction f generalizing j with
  | zero => exact h
  | succ f ih =>
    unfold shf
    split
    · rename_i z
      exact ih (j + 1) (by omega)
    · exact h
theorem shN_le {T : Nat → Int32} {N p k : Nat} : shN T N p k ≤ gkl.getD k 0 := shf_le 7 0 (Nat.zero_le _)
/-- the kind k goes ahead of what was found -/
def pkS (T : Nat → Int32) (N p : Nat) (o : Int32 × Nat) (k : Nat) : Int32 × Nat := if o.1 < nI (shN T N p k) ∨ (nI (shN T N p k) = o.1 ∧ nI (shN T N p k) = nI (gkl.getD k 0)) then (nI (shN T N p k), k) else o
def pkf (T : Nat → Int32) (N p k0 : Nat) : Nat → Int32 × Nat
  | 0 => (-1, k0)
  | k + 1 => pkS T N p (pkf T N p k0 k) k
theorem pkf_o {T : Nat → Int32} {N p k0 : Nat} (h0 : k0 < 11) (k : Nat) (hk : k ≤ 11) : (pkf T N p k0 k).2 < 11 ∧ (k = 0 ∨ ∃ q : Nat, q ≤ 6 ∧ (pkf T N p k0 k).1 = nI q) := by
  induction k with
  | zero => exact ⟨h0, Or.inl rfl⟩
  | succ k ih =>
    have hs : shN T N p k ≤ 6 := Nat.le_trans shN_le (gkl_6 (by omega)).1
    obtain ⟨h1, h2⟩ := ih (by omega)
    show (pkS T N p (pkf T N p k0 k) k).2 < 11 ∧ (k + 1 = 0 ∨ ∃ q : Nat, q ≤ 6 ∧ (pkS T N p (pkf T N p k0 k) k).1 = nI q)
    unfold pkS
    split
    · exact ⟨by show k < 11; omega, Or.inr ⟨_, hs, rfl⟩⟩
    · rename_i z
      refine ⟨h1, Or.inr ?_⟩
      rcases h2 with h2 | h2
      · subst h2
        exact absurd (Or.inl (show (-1 : Int32) < nI (shN T N p 0) from Int32.lt_of_lt_of_le (by decide) (nI_pos' (by omega)))) z
      · exact h2
theorem pkf_k {T : Nat → Int32} {N p k0 k1 : Nat} (k : Nat) (hk : k < 11) : pkf T N p k0 (k + 1) = pkf T N p k1 (k + 1) := by
  induction k with
  | zero =>
    have h : (-1 : Int32) < nI (shN T N p 0) := Int32.lt_of_lt_of_le (by decide) (nI_pos' (by have := shN_le (T := T) (N := N) (p := p) (k := 0); have := (gkl_6 (show 0 < 11 by decide)).1; omega))
    show pkS T N p (-1, k0) 0 = pkS T N p (-1, k1) 0
    rw [pkS, if_pos (Or.inl h), pkS, if_pos (Or.inl h)]
  | succ k ih =>
    show pkS T N p (pkf T N p k0 (k + 1)) (k + 1) = pkS T N p (pkf T N p k1 (k + 1)) (k + 1)
    rw [ih (by omega)]
/-- the kind that stands at p, and the place behind it -/
def pkd (T : Nat → Int32) (N p : Nat) : Except Nat (Nat × Nat) := if (pkf T N p 0 11).1 = nI (gkl.getD (pkf T N p 0 11).2 0) then .ok ((pkf T N p 0 11).2, p + (pkf T N p 0 11).1.toNatClampNeg) else .error (p + (pkf T N p 0 11).1.toNatClampNeg)
theorem up2_i {σ : Nat → Nat → Int32} {k j : Nat} {v w : Int32} : up2 (up2 σ k j v) k j w = up2 σ k j w := by
  funext q i
  simp only [up2_at]
  split <;> rfl
theorem up2_self {σ : Nat → Nat → Int32} {k j : Nat} {v : Int32} (h : σ k j = v) : up2 σ k j v = σ := by
  funext q i
  rw [up2_at]
  split
  · rename_i z; rw [z.1, z.2, h]
  · rfl
def TXF (s σ : Nat → Nat → Int32) : Prop := ∀ k j, ¬ (k = 35 ∧ (j = 3 ∨ j = 4 ∨ j = 5)) → s k j = σ k j
theorem TXF.refl (σ : Nat → Nat → Int32) : TXF σ σ := fun _ _ _ => rfl
theorem TXF.up {s σ : Nat → Nat → Int32} (h : TXF s σ) {j : Nat} {v : Int32} (hj : j = 3 ∨ j = 4 ∨ j = 5) : TXF (up2 s 35 j v) σ := fun k i hi => by
  rw [up2_at, if_neg (fun z => hi ⟨z.1, by omega⟩)]
  exact h k i hi
set_option maxHeartbeats 4000000 in
set_option maxRecDepth 100000 in
theorem k_TX_nextSign (l : Launch) (G : gP) (ad : Nat → Nat) (σ : Nat → Nat → Int32) (τ : Nat → Nat → Int64) (N : Nat) (hN : σ 35 1 = nI N) (hN4 : N ≤ 400) (pp : Nat) (hp : σ 35 3 = nI pp) (hp2 : pp < 2000) : gpu l y_TX_nextSign c_TX_nextSign 1 (some .int) { frames := 0, cells := 0, slots := 0, locals := 0 } G ad σ τ [.ref (ad 35)] 0 0 (fun v => v = some (.int (nxS (σ 36) N pp))) (fun _ => False) := by
  refine gs_of (fun _ h => h.elim) (by decide) (Nat.le_of_ble_eq_true rfl) ?_
  intro p e s m args below meth c ls S hk hr hx hl hO
  have hl : lv_has ls 1 [(0, .ref (ad 35))] := hl
  have J_24 : ∀ (z : Int32), z = (nxS (σ 36) N pp) → ∀ (H : Heap) (locs : List Loc), gO G (fun _ => False) 159 ad (enc G ad σ τ) s H locs → ∀ ls : Array Slot, lv_has ls 1 [(0, .ref (ad 35))] → W p l e { frames := 0, cells := 0, slots := 0, locals := 0 } s m args below meth c H locs 0 0 (gM below (fun _ => False) 0 0 (fun v _ => (fun v => v = some (.int (nxS (σ 36) N pp))) v) (fun x _ => (fun _ => False) x) args s) (F0 m 24 ls (.int z :: [])) := by
    intro z ez H locs hO ls hl
    subst ez
    exact pu_i S hk hr hO (by rfl) (Nat.le_of_ble_eq_true rfl) (Nat.le_of_ble_eq_true rfl) d_TX_nextSign_24
  refine lv_aload_n S.1 S.2.1 d_TX_nextSign_0 rfl (lv_at hl 0 rfl) ?_
  refine g_get S hO fl_TX_35 (by decide) (sh_35 G ad _ _) (v := .int (σ 35 3)) rfl d_TX_nextSign_1 ?_
  refine W.eq (g2 := F0 m 4 ls [.int (nI pp)]) (by rw [show σ 35 3 = nI pp from hp]) ?_
  refine lv_aload_n S.1 S.2.1 d_TX_nextSign_4 rfl (lv_at hl 0 rfl) ?_
  refine g_get S hO fl_TX_31 (by decide) (sh_35 G ad _ _) (v := .int (σ 35 1)) rfl d_TX_nextSign_5 ?_
  refine W.eq (g2 := F0 m 8 ls [.int (nI N), .int (nI pp)]) (by rw [show σ 35 1 = nI N from hN]) ?_
  refine lv_icmp_ge (tgt := 23) S.1 S.2.1 d_TX_nextSign_8 (by decide) (fun c_8 => ?_) (fun c_8 => ?_)
  · skip
    have hge : N ≤ pp := ge_nI (x := nI N) rfl rfl (by omega) (by omega) c_8
    refine lv_iconst (v := (-1)) S.1 S.2.1 d_TX_nextSign_23 (by decide) ?_
    exact J_24 _ (by rw [nxS, if_neg (by omega)]) _ _ hO ls (lv_sub hl [0] rfl)
  · skip
    have hlt : pp < N := ngt_nI (x := nI N) rfl rfl (by omega) (by omega) c_8
    refine lv_aload_n S.1 S.2.1 d_TX_nextSign_11 rfl (lv_at hl 0 rfl) ?_
    refine g_get S hO fl_TX_9 (by decide) (sh_35 G ad _ _) (v := .ref (ad 36)) rfl d_TX_nextSign_12 ?_
    refine lv_aload_n S.1 S.2.1 d_TX_nextSign_15 rfl (lv_at hl 0 rfl) ?_
    refine g_get S hO fl_TX_35 (by decide) (sh_35 G ad _ _) (v := .int (σ 35 3)) rfl d_TX_nextSign_16 ?_
    refine W.eq (g2 := F0 m 19 ls [.int (nI pp), .ref (ad 36)]) (by rw [show σ 35 3 = nI pp from hp]) ?_
    refine g_ial S hO (by decide) (sh_36 G ad _ _) (vp_in_nI (show pp < 400 by omega) (by decide)) d_TX_nextSign_19 ?_
    refine W.eq (g2 := F0 m 20 ls [.int (σ 36 pp)]) (by rw [nI_clamp (show pp < 2 ^ 31 by omega)]) ?_
    refine lv_goto (tgt := 24) S.1 S.2.1 d_TX_nextSign_20 (by decide) ?_
    exact J_24 _ (by rw [nxS, if_pos hlt]) _ _ hO ls (lv_sub hl [0] rfl)
set_option maxHeartbeats 4000000 in
set_option maxRecDepth 100000 in
theorem k_TX_isDigit (l : Launch) (G : gP) (ad : Nat → Nat) (σ : Nat → Nat → Int32) (τ : Nat → Nat → Int64) (a : Int32) : gpu l y_TX_isDigit c_TX_isDigit 1 (some .boolean) { frames := 0, cells := 0, slots := 0, locals := 0 } G ad σ τ [.int a] 0 0 (fun v => v = some (.int (bI (dgB a)))) (fun _ => False) := by
  refine gs_of (fun _ h => h.elim) (by decide) (Nat.le_of_ble_eq_true rfl) ?_
  intro p e s m args below meth c ls S hk hr hx hl hO
  have hl : lv_has ls 1 [(0, .int a)] := hl
  have J_17 : ∀ (z : Int32), z = (bI (dgB a)) → ∀ (H : Heap) (locs : List Loc), gO G (fun _ => False) 159 ad (enc G ad σ τ) s H locs → ∀ ls : Array Slot, lv_has ls 1 [(0, .int a)] → W p l e { frames := 0, cells := 0, slots := 0, locals := 0 } s m args below meth c H locs 0 0 (gM below (fun _ => False) 0 0 (fun v _ => (fun v => v = some (.int (bI (dgB a)))) v) (fun x _ => (fun _ => False) x) args s) (F0 m 17 ls (.int z :: [])) := by
    intro z ez H locs hO ls hl
    subst ez
    exact pu_z S hk hr hO (by first | exact Or.inl rfl | exact Or.inr rfl | exact b_01) (by rfl) (Nat.le_of_ble_eq_true rfl) (Nat.le_of_ble_eq_true rfl) d_TX_isDigit_17
  refine lv_iload_n S.1 S.2.1 d_TX_isDigit_0 rfl (lv_at hl 0 rfl) ?_
  refine lv_bipush (v := 48) S.1 S.2.1 d_TX_isDigit_1 (by decide) ?_
  refine lv_icmp_lt (tgt := 16) S.1 S.2.1 d_TX_isDigit_3 (by decide) (fun c_3 => ?_) (fun c_3 => ?_)
  · skip
    refine lv_iconst (v := 0) S.1 S.2.1 d_TX_isDigit_16 (by decide) ?_
    exact J_17 _ (by simp [bI, dgB, inB, c_3, Int32.not_le.mpr c_3]) _ _ hO ls (lv_sub hl [0] rfl)
  · skip
    refine lv_iload_n S.1 S.2.1 d_TX_isDigit_6 rfl (lv_at hl 0 rfl) ?_
    refine lv_bipush (v := 57) S.1 S.2.1 d_TX_isDigit_7 (by decide) ?_
    refine lv_icmp_gt (tgt := 16) S.1 S.2.1 d_TX_isDigit_9 (by decide) (fun c_9 => ?_) (fun c_9 => ?_)
    · skip
      refine lv_iconst (v := 0) S.1 S.2.1 d_TX_isDigit_16 (by decide) ?_
      exact J_17 _ (by simp [bI, dgB, inB, c_3, Int32.not_lt.mp c_3, c_9, Int32.not_le.mpr c_9]) _ _ hO ls (lv_sub hl [0] rfl)
    · skip
      refine lv_iconst (v := 1) S.1 S.2.1 d_TX_isDigit_12 (by decide) ?_
      refine lv_goto (tgt := 17) S.1 S.2.1 d_TX_isDigit_13 (by decide) ?_
      exact J_17 _ (by simp [bI, dgB, inB, c_3, Int32.not_lt.mp c_3, c_9, Int32.not_lt.mp c_9]) _ _ hO ls (lv_sub hl [0] rfl)
set_option maxHeartbeats 4000000 in
set_option maxRecDepth 100000 in
theorem k_TX_fail (l : Launch) (G : gP) (ad : Nat → Nat) (σ : Nat → Nat → Int32) (τ : Nat → Nat → Int64) (a : Int32) : gim l y_TX_fail c_TX_fail 2 (some .boolean) { frames := 0, cells := 0, slots := 0, locals := 0 } G ad σ τ [.ref (ad 35), .int a] 0 0 (fun v σ1 τ1 => v = some (.int 0) ∧ σ1 = up2 σ 35 4 a ∧ τ1 = τ) (fun _ => False) := by
  refine gs_of (fun _ h => h) (by decide) (Nat.le_of_ble_eq_true rfl) ?_
  intro p e s m args below meth c ls S hk hr hx hl hO
  have hl : lv_has ls 2 [(0, .ref (ad 35)), (1, .int a)] := hl
  refine lv_aload_n S.1 S.2.1 d_TX_fail_0 rfl (lv_at hl 0 rfl) ?_
  refine lv_iload_n S.1 S.2.1 d_TX_fail_1 rfl (lv_at hl 1 rfl) ?_
  obtain ⟨s_1, hs_1⟩ : ∃ z : Nat → Nat → Int32, z = up2 σ 35 4 a := ⟨_, rfl⟩
  refine g_put S hO (fun _ h => h) fp_TX_42 (by decide) (sh_35 G ad _ _) (v := .int a) rfl rfl (Nat.le_of_ble_eq_true rfl) (E2 := enc G ad s_1 τ) (by rw [hs_1]; exact enc_i (sh_35 G ad _ _)) d_TX_fail_2 (fun H locs hO => ?_)
  refine lv_iconst (v := 0) S.1 S.2.1 d_TX_fail_5 (by decide) ?_
  subst hs_1
  exact im_z S hk hr hO (by first | exact Or.inl rfl | exact Or.inr rfl | exact b_01) ⟨rfl, rfl, rfl⟩ (Nat.le_of_ble_eq_true rfl) (Nat.le_of_ble_eq_true rfl) d_TX_fail_6
def rsS (σ : Nat → Nat → Int32) (a : Int32) (N pp : Nat) : Nat → Nat → Int32 := if nxS (σ 36) N pp = a then up2 σ 35 3 (nI (pp + 1)) else up2 σ 35 4 (nI pp)
set_option maxHeartbeats 4000000 in
set_option maxRecDepth 100000 in
theorem k_TX_readSign (l : Launch) (G : gP) (ad : Nat → Nat) (σ : Nat → Nat → Int32) (τ : Nat → Nat → Int64) (a : Int32) (N : Nat) (hN : σ 35 1 = nI N) (hN4 : N ≤ 400) (pp : Nat) (hp : σ 35 3 = nI pp) (hp2 : pp < 2000) : gim l y_TX_readSign c_TX_readSign 2 (some .boolean) { frames := 1, cells := 0, slots := 0, locals := 21 } G ad σ τ [.ref (ad 35), .int a] 0 0 (fun v σ1 τ1 => v = some (.int (bI (decide (nxS (σ 36) N pp = a)))) ∧ σ1 = rsS σ a N pp ∧ τ1 = τ) (fun _ => False) := by
  refine gs_of (fun _ h => h) (by decide) (Nat.le_of_ble_eq_true rfl) ?_
  intro p e s m args below meth c ls S hk hr hx hl hO
  have hl : lv_has ls 2 [(0, .ref (ad 35)), (1, .int a)] := hl
  refine lv_aload_n S.1 S.2.1 d_TX_readSign_0 rfl (lv_at hl 0 rfl) ?_
  refine g_VP (As := []) (rest := []) S hO (k_TX_nextSign l G ad σ τ N hN hN4 pp hp (by omega)) cw_TX_89 (by decide) (sh_35 G ad _ _) rfl rfl hl.1 (Nat.le_of_ble_eq_true rfl) ⟨(Nat.le_of_ble_eq_true rfl), (Nat.le_of_ble_eq_true rfl)⟩ ⟨(Nat.le_of_ble_eq_true rfl), (Nat.le_of_ble_eq_true rfl)⟩ d_TX_readSign_1 (fun q x ce H h9 => h9.elim) (fun v H v_1 hO => ?_)
  subst v_1
  refine W.eq (g2 := F0 m 4 ls [.int (nxS (σ 36) N pp)]) rfl ?_
  refine lv_iload_n S.1 S.2.1 d_TX_readSign_4 rfl (lv_at hl 1 rfl) ?_
  refine lv_icmp_eq (tgt := 17) S.1 S.2.1 d_TX_readSign_5 (by decide) (fun c_5 => ?_) (fun c_5 => ?_)
  · skip
    refine lv_aload_n S.1 S.2.1 d_TX_readSign_17 rfl (lv_at hl 0 rfl) ?_
    refine lv_dup S.1 S.2.1 d_TX_readSign_18 rfl ?_
    refine g_get S hO fl_TX_35 (by decide) (sh_35 G ad _ _) (v := .int (σ 35 3)) rfl d_TX_readSign_19 ?_
    refine W.eq (g2 := F0 m 22 ls [.int (nI pp), .ref (ad 35)]) (by rw [show σ 35 3 = nI pp from hp]) ?_
    refine lv_iconst (v := 1) S.1 S.2.1 d_TX_readSign_22 (by decide) ?_
    refine lv_iadd S.1 S.2.1 d_TX_readSign_23 ?_
    refine W.eq (g2 := F0 m 24 ls [.int (nI (pp + 1)), .ref (ad 35)]) (by rw [show (nI pp) + (1 : Int32) = nI (pp + 1) from nI_add pp 1]) ?_
    obtain ⟨s_2, hs_2⟩ : ∃ z : Nat → Nat → Int32, z = up2 σ 35 3 (nI (pp + 1)) := ⟨_, rfl⟩
    refine g_put S hO (fun _ h => h) fp_TX_35 (by decide) (sh_35 G ad _ _) (v := .int (nI (pp + 1))) rfl rfl (Nat.le_of_ble_eq_true rfl) (E2 := enc G ad s_2 τ) (by rw [hs_2]; exact enc_i (sh_35 G ad _ _)) d_TX_readSign_24 (fun H locs hO => ?_)
    refine lv_iconst (v := 1) S.1 S.2.1 d_TX_readSign_27 (by decide) ?_
    subst hs_2
    exact im_z S hk hr hO (by first | exact Or.inl rfl | exact Or.inr rfl | exact b_01) ⟨by rw [decide_eq_true c_5]; rfl, by rw [rsS, if_pos c_5], rfl⟩ (Nat.le_of_ble_eq_true rfl) (Nat.le_of_ble_eq_true rfl) d_TX_readSign_28
  · skip
    refine lv_aload_n S.1 S.2.1 d_TX_readSign_8 rfl (lv_at hl 0 rfl) ?_
    refine lv_aload_n S.1 S.2.1 d_TX_readSign_9 rfl (lv_at hl 0 rfl) ?_
    refine g_get S hO fl_TX_35 (by decide) (sh_35 G ad _ _) (v := .int (σ 35 3)) rfl d_TX_readSign_10 ?_
    refine W.eq (g2 := F0 m 13 ls [.int (nI pp), .ref (ad 35)]) (by rw [show σ 35 3 = nI pp from hp]) ?_
    refine g_VI (As := [.int (nI pp)]) (rest := []) S hO (fun _ h => h) (k_TX_fail l G ad σ τ (nI pp)) cw_TX_95 (by decide) (sh_35 G ad _ _) rfl rfl hl.1 (Nat.le_of_ble_eq_true rfl) ⟨(Nat.le_of_ble_eq_true rfl), (Nat.le_of_ble_eq_true rfl)⟩ ⟨(Nat.le_of_ble_eq_true rfl), (Nat.le_of_ble_eq_true rfl)⟩ d_TX_readSign_13 (fun q x ce H locs h9 => h9.elim) (fun v E1 H locs v_3 hO => ?_)
    obtain ⟨s_4, t_5, rfl, rfl, hs_4, ht_5⟩ := v_3
    rw [ht_5] at hO
    refine W.eq (g2 := F0 m 16 ls [.int 0]) rfl ?_
    subst hs_4
    exact im_z S hk hr hO (by first | exact Or.inl rfl | exact Or.inr rfl | exact b_01) ⟨by rw [decide_eq_false c_5]; rfl, by rw [rsS, if_neg c_5], rfl⟩ (Nat.le_of_ble_eq_true rfl) (Nat.le_of_ble_eq_true rfl) d_TX_readSign_16
set_option maxHeartbeats 4000000 in
set_option maxRecDepth 100000 in
theorem k_TX_readBlank (l : Launch) (G : gP) (ad : Nat → Nat) (σ : Nat → Nat → Int32) (τ : Nat → Nat → Int64) (N : Nat) (hN : σ 35 1 = nI N) (hN4 : N ≤ 400) (pp : Nat) (hp : σ 35 3 = nI pp) (hp2 : pp < 2000) : gim l y_TX_readBlank c_TX_readBlank 1 (some .boolean) { frames := 2, cells := 0, slots := 0, locals := 42 } G ad σ τ [.ref (ad 35)] 0 0 (fun v σ1 τ1 => v = some (.int (bI (decide (nxS (σ 36) N pp = 32)))) ∧ σ1 = rsS σ 32 N pp ∧ τ1 = τ) (fun _ => False) := by
  refine gs_of (fun _ h => h) (by decide) (Nat.le_of_ble_eq_true rfl) ?_
  intro p e s m args below meth c ls S hk hr hx hl hO
  have hl : lv_has ls 1 [(0, .ref (ad 35))] := hl
  refine lv_aload_n S.1 S.2.1 d_TX_readBlank_0 rfl (lv_at hl 0 rfl) ?_
  refine lv_bipush (v := 32) S.1 S.2.1 d_TX_readBlank_1 (by decide) ?_
  refine g_VI (As := [.int 32]) (rest := []) S hO (fun _ h => h) (k_TX_readSign l G ad σ τ 32 N hN hN4 pp hp (by omega)) cw_TX_85 (by decide) (sh_35 G ad _ _) rfl rfl hl.1 (Nat.le_of_ble_eq_true rfl) ⟨(Nat.le_of_ble_eq_true rfl), (Nat.le_of_ble_eq_true rfl)⟩ ⟨(Nat.le_of_ble_eq_true rfl), (Nat.le_of_ble_eq_true rfl)⟩ d_TX_readBlank_3 (fun q x ce H locs h9 => h9.elim) (fun v E1 H locs v_1 hO => ?_)
  obtain ⟨s_2, t_3, rfl, rfl, hs_2, ht_3⟩ := v_1
  rw [ht_3] at hO
  refine W.eq (g2 := F0 m 6 ls [.int (bI (decide (nxS (σ 36) N pp = 32)))]) rfl ?_
  subst hs_2
  exact im_z S hk hr hO (by first | exact Or.inl rfl | exact Or.inr rfl | exact b_01) ⟨rfl, rfl, rfl⟩ (Nat.le_of_ble_eq_true rfl) (Nat.le_of_ble_eq_true rfl) d_TX_readBlank_6
