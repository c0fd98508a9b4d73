/-! The reference: its small methods. Written by wip/tools/m28.py. -/
def bI (b : Bool) : Int32 := if b = true then 1 else 0
theorem b_0 {b : Bool} (h : bI b = 0) : b = false := by
  cases b with
  | false => rfl
  | true => exact absurd h (by decide)
theorem b_1 {b : Bool} (h : ¬ bI b = 0) : b = true := by
  cases b with
  | false => exact absurd rfl h
  | true => rfl
theorem b_01 {b : Bool} : bI b = 0 ∨ bI b = 1 := by
  cases b with
  | false => exact Or.inl rfl
  | true => exact Or.inr rfl
theorem up2_at (σ : Nat → Nat → Int32) (k j : Nat) (v : Int32) (q i : Nat) : up2 σ k j v q i = if q = k ∧ i = j then v else σ q i := by
  by_cases h : q = k
  · subst h
    by_cases h2 : i = j
    · subst h2; rw [up2_s, if_pos ⟨rfl, rfl⟩]
    · rw [up2_j h2, if_neg (fun z => h2 z.2)]
  · rw [up2_k h, if_neg (fun z => h z.1)]
def inB (a lo hi : Int32) : Bool := decide (lo ≤ a) && decide (a ≤ hi)
theorem inB_gwi {a lo hi : Int32} : inB a lo hi = true ↔ gwi a lo hi := by
  simp [inB, gwi]
theorem inB_n {a M : Int32} {n : Nat} (hM : M.toInt = n) (h : inB a 0 M = true) : ∃ u : Nat, u < n + 1 ∧ a = nI u := gwi_n hM (inB_gwi.mp h)
def szB (a b d : Int32) : Bool := inB a 1 9999 && inB b 1 9999 && inB d 1 9999
/-- what the reference throws -/
def fcd (a b d : Bool) : Int32 := if a = true then 1 else if b = true then 2 else if d = true then 3 else 0
set_option maxHeartbeats 4000000 in
set_option maxRecDepth 100000 in
theorem k_MD_in (l : Launch) (G : gP) (ad : Nat → Nat) (σ : Nat → Nat → Int32) (τ : Nat → Nat → Int64) (a b d : Int32) : gpu l y_MD_in c_MD_in 3 (some .boolean) { frames := 0, cells := 0, slots := 0, locals := 0 } G ad σ τ [.int a, .int b, .int d] 0 0 (fun v => v = some (.int (bI (inB a b d)))) (fun _ => False) := by
  refine gs_of (fun _ h => h.elim) (by decide) (Nat.le_of_ble_eq_true rfl) ?_
  intro p e s m args below meth c ls S hk hr hx hl hO
  have hl : lv_has ls 3 [(0, .int a), (1, .int b), (2, .int d)] := hl
  have J_15 : ∀ (z : Int32), z = (bI (inB a b d)) → ∀ (H : Heap) (locs : List Loc), gO G (fun _ => False) 159 ad (enc G ad σ τ) s H locs → ∀ ls : Array Slot, lv_has ls 3 [(0, .int a), (1, .int b), (2, .int d)] → W p l e { frames := 0, cells := 0, slots := 0, locals := 0 } s m args below meth c H locs 0 0 (gM below (fun _ => False) 0 0 (fun v _ => (fun v => v = some (.int (bI (inB a b d)))) v) (fun x _ => (fun _ => False) x) args s) (F0 m 15 ls (.int z :: [])) := by
    intro z ez H locs hO ls hl
    subst ez
    exact pu_z S hk hr hO (by first | exact Or.inl rfl | exact Or.inr rfl | exact b_01) (by rfl) (Nat.le_of_ble_eq_true rfl) (Nat.le_of_ble_eq_true rfl) d_MD_in_15
  refine lv_iload_n S.1 S.2.1 d_MD_in_0 rfl (lv_at hl 0 rfl) ?_
  refine lv_iload_n S.1 S.2.1 d_MD_in_1 rfl (lv_at hl 1 rfl) ?_
  refine lv_icmp_lt (tgt := 14) S.1 S.2.1 d_MD_in_2 (by decide) (fun c_2 => ?_) (fun c_2 => ?_)
  · skip
    refine lv_iconst (v := 0) S.1 S.2.1 d_MD_in_14 (by decide) ?_
    exact J_15 _ (by simp [bI, inB, c_2, Int32.not_le.mpr c_2]) _ _ hO ls (lv_sub hl [0, 1, 2] rfl)
  · skip
    refine lv_iload_n S.1 S.2.1 d_MD_in_5 rfl (lv_at hl 0 rfl) ?_
    refine lv_iload_n S.1 S.2.1 d_MD_in_6 rfl (lv_at hl 2 rfl) ?_
    refine lv_icmp_gt (tgt := 14) S.1 S.2.1 d_MD_in_7 (by decide) (fun c_7 => ?_) (fun c_7 => ?_)
    · skip
      refine lv_iconst (v := 0) S.1 S.2.1 d_MD_in_14 (by decide) ?_
      exact J_15 _ (by simp [bI, inB, c_2, Int32.not_lt.mp c_2, c_7, Int32.not_le.mpr c_7]) _ _ hO ls (lv_sub hl [0, 1, 2] rfl)
    · skip
      refine lv_iconst (v := 1) S.1 S.2.1 d_MD_in_10 (by decide) ?_
      refine lv_goto (tgt := 15) S.1 S.2.1 d_MD_in_11 (by decide) ?_
      exact J_15 _ (by simp [bI, inB, c_2, Int32.not_lt.mp c_2, c_7, Int32.not_lt.mp c_7]) _ _ hO ls (lv_sub hl [0, 1, 2] rfl)
set_option maxHeartbeats 4000000 in
set_option maxRecDepth 100000 in
theorem k_MD_isSize (l : Launch) (G : gP) (ad : Nat → Nat) (σ : Nat → Nat → Int32) (τ : Nat → Nat → Int64) (a b d : Int32) : gpu l y_MD_isSize c_MD_isSize 3 (some .boolean) { frames := 1, cells := 0, slots := 0, locals := 22 } G ad σ τ [.int a, .int b, .int d] 0 0 (fun v => v = some (.int (bI (szB a b d)))) (fun _ => False) := by
  refine gs_of (fun _ h => h.elim) (by decide) (Nat.le_of_ble_eq_true rfl) ?_
  intro p e s m args below meth c ls S hk hr hx hl hO
  have hl : lv_has ls 3 [(0, .int a), (1, .int b), (2, .int d)] := hl
  have J_38 : ∀ (z : Int32), z = (bI (szB a b d)) → ∀ (H : Heap) (locs : List Loc), gO G (fun _ => False) 159 ad (enc G ad σ τ) s H locs → ∀ ls : Array Slot, lv_has ls 3 [(0, .int a), (1, .int b), (2, .int d)] → W p l e { frames := 1, cells := 0, slots := 0, locals := 22 } s m args below meth c H locs 0 0 (gM below (fun _ => False) 0 0 (fun v _ => (fun v => v = some (.int (bI (szB a b d)))) v) (fun x _ => (fun _ => False) x) args s) (F0 m 38 ls (.int z :: [])) := by
    intro z ez H locs hO ls hl
    subst ez
    exact pu_z S hk hr hO (by first | exact Or.inl rfl | exact Or.inr rfl | exact b_01) (by rfl) (Nat.le_of_ble_eq_true rfl) (Nat.le_of_ble_eq_true rfl) d_MD_isSize_38
  refine lv_iload_n S.1 S.2.1 d_MD_isSize_0 rfl (lv_at hl 0 rfl) ?_
  refine lv_iconst (v := 1) S.1 S.2.1 d_MD_isSize_1 (by decide) ?_
  refine lv_sipush (v := 9999) S.1 S.2.1 d_MD_isSize_2 (by decide) ?_
  refine g_SP (As := [.int a, .int 1, .int 9999]) (rest := []) S hO (k_MD_in l G ad σ τ a 1 9999) cw_MD_67 g_cfC hl.1 (Nat.le_of_ble_eq_true rfl) ⟨(Nat.le_of_ble_eq_true rfl), (Nat.le_of_ble_eq_true rfl)⟩ ⟨(Nat.le_of_ble_eq_true rfl), (Nat.le_of_ble_eq_true rfl)⟩ d_MD_isSize_5 (fun q x ce H h9 => h9.elim) (fun v H v_1 hO => ?_)
  subst v_1
  refine W.eq (g2 := F0 m 8 ls [.int (bI (inB a 1 9999))]) rfl ?_
  refine lv_if_eq (tgt := 37) S.1 S.2.1 d_MD_isSize_8 (by decide) (fun c_8 => ?_) (fun c_8 => ?_)
  · skip
    have q_8 : (inB a 1 9999) = false := b_0 c_8
    refine lv_iconst (v := 0) S.1 S.2.1 d_MD_isSize_37 (by decide) ?_
    exact J_38 _ (by simp [bI, szB, q_8]) _ _ hO ls (lv_sub hl [0, 1, 2] rfl)
  · skip
    have q_8 : (inB a 1 9999) = true := b_1 c_8
    refine lv_iload_n S.1 S.2.1 d_MD_isSize_11 rfl (lv_at hl 1 rfl) ?_
    refine lv_iconst (v := 1) S.1 S.2.1 d_MD_isSize_12 (by decide) ?_
    refine lv_sipush (v := 9999) S.1 S.2.1 d_MD_isSize_13 (by decide) ?_
    refine g_SP (As := [.int b, .int 1, .int 9999]) (rest := []) S hO (k_MD_in l G ad σ τ b 1 9999) cw_MD_67 g_cfC hl.1 (Nat.le_of_ble_eq_true rfl) ⟨(Nat.le_of_ble_eq_true rfl), (Nat.le_of_ble_eq_true rfl)⟩ ⟨(Nat.le_of_ble_eq_true rfl), (Nat.le_of_ble_eq_true rfl)⟩ d_MD_isSize_16 (fun q x ce H h9 => h9.elim) (fun v H v_2 hO => ?_)
    subst v_2
    refine W.eq (g2 := F0 m 19 ls [.int (bI (inB b 1 9999))]) rfl ?_
    refine lv_if_eq (tgt := 37) S.1 S.2.1 d_MD_isSize_19 (by decide) (fun c_19 => ?_) (fun c_19 => ?_)
    · skip
      have q_19 : (inB b 1 9999) = false := b_0 c_19
      refine lv_iconst (v := 0) S.1 S.2.1 d_MD_isSize_37 (by decide) ?_
      exact J_38 _ (by simp [bI, szB, q_8, q_19]) _ _ hO ls (lv_sub hl [0, 1, 2] rfl)
    · skip
      have q_19 : (inB b 1 9999) = true := b_1 c_19
      refine lv_iload_n S.1 S.2.1 d_MD_isSize_22 rfl (lv_at hl 2 rfl) ?_
      refine lv_iconst (v := 1) S.1 S.2.1 d_MD_isSize_23 (by decide) ?_
      refine lv_sipush (v := 9999) S.1 S.2.1 d_MD_isSize_24 (by decide) ?_
      refine g_SP (As := [.int d, .int 1, .int 9999]) (rest := []) S hO (k_MD_in l G ad σ τ d 1 9999) cw_MD_67 g_cfC hl.1 (Nat.le_of_ble_eq_true rfl) ⟨(Nat.le_of_ble_eq_true rfl), (Nat.le_of_ble_eq_true rfl)⟩ ⟨(Nat.le_of_ble_eq_true rfl), (Nat.le_of_ble_eq_true rfl)⟩ d_MD_isSize_27 (fun q x ce H h9 => h9.elim) (fun v H v_3 hO => ?_)
      subst v_3
      refine W.eq (g2 := F0 m 30 ls [.int (bI (inB d 1 9999))]) rfl ?_
      refine lv_if_eq (tgt := 37) S.1 S.2.1 d_MD_isSize_30 (by decide) (fun c_30 => ?_) (fun c_30 => ?_)
      · skip
        have q_30 : (inB d 1 9999) = false := b_0 c_30
        refine lv_iconst (v := 0) S.1 S.2.1 d_MD_isSize_37 (by decide) ?_
        exact J_38 _ (by simp [bI, szB, q_8, q_19, q_30]) _ _ hO ls (lv_sub hl [0, 1, 2] rfl)
      · skip
        have q_30 : (inB d 1 9999) = true := b_1 c_30
        refine lv_iconst (v := 1) S.1 S.2.1 d_MD_isSize_33 (by decide) ?_
        refine lv_goto (tgt := 38) S.1 S.2.1 d_MD_isSize_34 (by decide) ?_
        exact J_38 _ (by simp [bI, szB, q_8, q_19, q_30]) _ _ hO ls (lv_sub hl [0, 1, 2] rfl)
set_option maxHeartbeats 4000000 in
set_option maxRecDepth 100000 in
theorem k_MD_isPlace (l : Launch) (G : gP) (ad : Nat → Nat) (σ : Nat → Nat → Int32) (τ : Nat → Nat → Int64) (a : Int32) : gpu l y_MD_isPlace c_MD_isPlace 1 (some .boolean) { frames := 1, cells := 0, slots := 0, locals := 22 } G ad σ τ [.int a] 0 0 (fun v => v = some (.int (bI (inB a 0 11)))) (fun _ => False) := by
  refine gs_of (fun _ h => h.elim) (by decide) (Nat.le_of_ble_eq_true rfl) ?_
  intro p e s m args below meth c ls S hk hr hx hl hO
  have hl : lv_has ls 1 [(0, .int a)] := hl
  refine lv_iload_n S.1 S.2.1 d_MD_isPlace_0 rfl (lv_at hl 0 rfl) ?_
  refine lv_iconst (v := 0) S.1 S.2.1 d_MD_isPlace_1 (by decide) ?_
  refine lv_bipush (v := 11) S.1 S.2.1 d_MD_isPlace_2 (by decide) ?_
  refine g_SP (As := [.int a, .int 0, .int 11]) (rest := []) S hO (k_MD_in l G ad σ τ a 0 11) cw_MD_67 g_cfC hl.1 (Nat.le_of_ble_eq_true rfl) ⟨(Nat.le_of_ble_eq_true rfl), (Nat.le_of_ble_eq_true rfl)⟩ ⟨(Nat.le_of_ble_eq_true rfl), (Nat.le_of_ble_eq_true rfl)⟩ d_MD_isPlace_4 (fun q x ce H h9 => h9.elim) (fun v H v_1 hO => ?_)
  subst v_1
  refine W.eq (g2 := F0 m 7 ls [.int (bI (inB a 0 11))]) rfl ?_
  exact pu_z S hk hr hO (by first | exact Or.inl rfl | exact Or.inr rfl | exact b_01) (by rfl) (Nat.le_of_ble_eq_true rfl) (Nat.le_of_ble_eq_true rfl) d_MD_isPlace_7
set_option maxHeartbeats 4000000 in
set_option maxRecDepth 100000 in
theorem k_MD_thrown (l : Launch) (G : gP) (ad : Nat → Nat) (σ : Nat → Nat → Int32) (τ : Nat → Nat → Int64)  : gpu l y_MD_thrown c_MD_thrown 1 (some .int) { frames := 0, cells := 0, slots := 0, locals := 0 } G ad σ τ [.ref (ad 140)] 0 0 (fun v => v = some (.int (σ 140 0))) (fun _ => False) := by
  refine gs_of (fun _ h => h.elim) (by decide) (Nat.le_of_ble_eq_true rfl) ?_
  intro p e s m args below meth c ls S hk hr hx hl hO
  have hl : lv_has ls 1 [(0, .ref (ad 140))] := hl
  refine lv_aload_n S.1 S.2.1 d_MD_thrown_0 rfl (lv_at hl 0 rfl) ?_
  refine g_get S hO fl_MD_63 (by decide) (sh_140 G ad _ _) (v := .int (σ 140 0)) rfl d_MD_thrown_1 ?_
  exact pu_i S hk hr hO (by rfl) (Nat.le_of_ble_eq_true rfl) (Nat.le_of_ble_eq_true rfl) d_MD_thrown_4
set_option maxHeartbeats 4000000 in
set_option maxRecDepth 100000 in
theorem k_MD_fails (l : Launch) (G : gP) (ad : Nat → Nat) (σ : Nat → Nat → Int32) (τ : Nat → Nat → Int64) (b1 b2 b3 : Bool) : gim l y_MD_fails c_MD_fails 4 (some .boolean) { frames := 0, cells := 0, slots := 0, locals := 0 } G ad σ τ [.ref (ad 140), .int (bI b1), .int (bI b2), .int (bI b3)] 0 0 (fun v σ1 τ1 => v = some (.int (bI (b1 || b2 || b3))) ∧ σ1 = up2 σ 140 0 (fcd b1 b2 b3) ∧ τ1 = τ) (fun _ => False) := by
  refine gs_of (fun _ h => h) (by decide) (Nat.le_of_ble_eq_true rfl) ?_
  intro p e s m args below meth c ls S hk hr hx hl hO
  have hl : lv_has ls 4 [(0, .ref (ad 140)), (1, .int (bI b1)), (2, .int (bI b2)), (3, .int (bI b3))] := hl
  refine lv_aload_n S.1 S.2.1 d_MD_fails_0 rfl (lv_at hl 0 rfl) ?_
  have J_26 : ∀ (z : Int32), z = (fcd b1 b2 b3) → ∀ (H : Heap) (locs : List Loc), gO G (gA G) 159 ad (enc G ad σ τ) s H locs → ∀ ls : Array Slot, lv_has ls 4 [(0, .ref (ad 140)), (1, .int (bI b1)), (2, .int (bI b2)), (3, .int (bI b3))] → W p l e { frames := 0, cells := 0, slots := 0, locals := 0 } s m args below meth c H locs 0 0 (gM below (gA G) 0 0 (fun v t => ∃ E1, (∃ σ1 τ1, E1 = enc G ad σ1 τ1 ∧ (fun v σ1 τ1 => v = some (.int (bI (b1 || b2 || b3))) ∧ σ1 = up2 σ 140 0 (fcd b1 b2 b3) ∧ τ1 = τ) v σ1 τ1) ∧ va_P G.1 gcl (gw 159 ad E1) t.heap) (fun x t => (fun _ => False) x ∧ va_P G.1 gcl (gw 159 ad (enc G ad σ τ)) t.heap) args s) (F0 m 26 ls (.int z :: [.ref (ad 140)])) := by
    intro z ez H locs hO ls hl
    subst ez
    obtain ⟨s_1, hs_1⟩ : ∃ z : Nat → Nat → Int32, z = up2 σ 140 0 (fcd b1 b2 b3) := ⟨_, rfl⟩
    refine g_put S hO (fun _ h => h) fp_MD_63 (by decide) (sh_140 G ad _ _) (v := .int (fcd b1 b2 b3)) rfl rfl (Nat.le_of_ble_eq_true rfl) (E2 := enc G ad s_1 τ) (by rw [hs_1]; exact enc_i (sh_140 G ad _ _)) d_MD_fails_26 (fun H locs hO => ?_)
    have J_41 : ∀ (z : Int32), z = (bI (b1 || b2 || b3)) → ∀ (H : Heap) (locs : List Loc), gO G (gA G) 159 ad (enc G ad s_1 τ) s H locs → ∀ ls : Array Slot, lv_has ls 4 [(0, .ref (ad 140)), (1, .int (bI b1)), (2, .int (bI b2)), (3, .int (bI b3))] → W p l e { frames := 0, cells := 0, slots := 0, locals := 0 } s m args below meth c H locs 0 0 (gM below (gA G) 0 0 (fun v t => ∃ E1, (∃ σ1 τ1, E1 = enc G ad σ1 τ1 ∧ (fun v σ1 τ1 => v = some (.int (bI (b1 || b2 || b3))) ∧ σ1 = up2 σ 140 0 (fcd b1 b2 b3) ∧ τ1 = τ) v σ1 τ1) ∧ va_P G.1 gcl (gw 159 ad E1) t.heap) (fun x t => (fun _ => False) x ∧ va_P G.1 gcl (gw 159 ad (enc G ad σ τ)) t.heap) args s) (F0 m 41 ls (.int z :: [])) := by
      intro z ez H locs hO ls hl
      subst ez
      subst hs_1
      exact im_z S hk hr hO (by first | exact Or.inl rfl | exact Or.inr rfl | exact b_01) ⟨rfl, rfl, rfl⟩ (Nat.le_of_ble_eq_true rfl) (Nat.le_of_ble_eq_true rfl) d_MD_fails_41
    refine lv_aload_n S.1 S.2.1 d_MD_fails_29 rfl (lv_at hl 0 rfl) ?_
    refine g_get S hO fl_MD_63 (by decide) (sh_140 G ad _ _) (v := .int (s_1 140 0)) rfl d_MD_fails_30 ?_
    refine W.eq (g2 := F0 m 33 ls [.int (fcd b1 b2 b3)]) (by rw [show s_1 140 0 = fcd b1 b2 b3 from (by simp [hs_1, up2_at])]) ?_
    refine lv_if_le (tgt := 40) S.1 S.2.1 d_MD_fails_33 (by decide) (fun c_33 => ?_) (fun c_33 => ?_)
    · skip
      refine lv_iconst (v := 0) S.1 S.2.1 d_MD_fails_40 (by decide) ?_
      exact J_41 _ (by revert c_33; cases b1 <;> cases b2 <;> cases b3 <;> decide) _ _ hO ls (lv_sub hl [0, 1, 2, 3] rfl)
    · skip
      refine lv_iconst (v := 1) S.1 S.2.1 d_MD_fails_36 (by decide) ?_
      refine lv_goto (tgt := 41) S.1 S.2.1 d_MD_fails_37 (by decide) ?_
      exact J_41 _ (by revert c_33; cases b1 <;> cases b2 <;> cases b3 <;> decide) _ _ hO ls (lv_sub hl [0, 1, 2, 3] rfl)
  refine lv_iload_n S.1 S.2.1 d_MD_fails_1 rfl (lv_at hl 1 rfl) ?_
  refine lv_if_eq (tgt := 9) S.1 S.2.1 d_MD_fails_2 (by decide) (fun c_2 => ?_) (fun c_2 => ?_)
  · skip
    have q_2 : b1 = false := b_0 c_2
    refine lv_iload_n S.1 S.2.1 d_MD_fails_9 rfl (lv_at hl 2 rfl) ?_
    refine lv_if_eq (tgt := 17) S.1 S.2.1 d_MD_fails_10 (by decide) (fun c_10 => ?_) (fun c_10 => ?_)
    · skip
      have q_10 : b2 = false := b_0 c_10
      refine lv_iload_n S.1 S.2.1 d_MD_fails_17 rfl (lv_at hl 3 rfl) ?_
      refine lv_if_eq (tgt := 25) S.1 S.2.1 d_MD_fails_18 (by decide) (fun c_18 => ?_) (fun c_18 => ?_)
      · skip
        have q_18 : b3 = false := b_0 c_18
        refine lv_iconst (v := 0) S.1 S.2.1 d_MD_fails_25 (by decide) ?_
        exact J_26 _ (by simp [bI, fcd, q_2, q_10, q_18]) _ _ hO ls (lv_sub hl [0, 1, 2, 3] rfl)
      · skip
        have q_18 : b3 = true := b_1 c_18
        refine lv_iconst (v := 3) S.1 S.2.1 d_MD_fails_21 (by decide) ?_
        refine lv_goto (tgt := 26) S.1 S.2.1 d_MD_fails_22 (by decide) ?_
        exact J_26 _ (by simp [bI, fcd, q_2, q_10, q_18]) _ _ hO ls (lv_sub hl [0, 1, 2, 3] rfl)
    · skip
      have q_10 : b2 = true := b_1 c_10
      refine lv_iconst (v := 2) S.1 S.2.1 d_MD_fails_13 (by decide) ?_
      refine lv_goto (tgt := 26) S.1 S.2.1 d_MD_fails_14 (by decide) ?_
      exact J_26 _ (by simp [bI, fcd, q_2, q_10]) _ _ hO ls (lv_sub hl [0, 1, 2, 3] rfl)
  · skip
    have q_2 : b1 = true := b_1 c_2
    refine lv_iconst (v := 1) S.1 S.2.1 d_MD_fails_5 (by decide) ?_
    refine lv_goto (tgt := 26) S.1 S.2.1 d_MD_fails_6 (by decide) ?_
    exact J_26 _ (by simp [bI, fcd, q_2]) _ _ hO ls (lv_sub hl [0, 1, 2, 3] rfl)
theorem k_MD_fails1 (l : Launch) (G : gP) (ad : Nat → Nat) (σ : Nat → Nat → Int32) (τ : Nat → Nat → Int64) (b1 : Bool) : gim l y_MD_fails c_MD_fails 4 (some .boolean) { frames := 0, cells := 0, slots := 0, locals := 0 } G ad σ τ [.ref (ad 140), .int (bI b1), .int 0, .int 0] 0 0 (fun v σ1 τ1 => v = some (.int (bI (b1))) ∧ σ1 = up2 σ 140 0 (fcd b1 false false) ∧ τ1 = τ) (fun _ => False) := by
  have h := k_MD_fails l G ad σ τ b1 false false
  simp only [Bool.or_false] at h
  exact h
theorem k_MD_fails2 (l : Launch) (G : gP) (ad : Nat → Nat) (σ : Nat → Nat → Int32) (τ : Nat → Nat → Int64) (b1 b2 : Bool) : gim l y_MD_fails c_MD_fails 4 (some .boolean) { frames := 0, cells := 0, slots := 0, locals := 0 } G ad σ τ [.ref (ad 140), .int (bI b1), .int (bI b2), .int 0] 0 0 (fun v σ1 τ1 => v = some (.int (bI (b1 || b2))) ∧ σ1 = up2 σ 140 0 (fcd b1 b2 false) ∧ τ1 = τ) (fun _ => False) := by
  have h := k_MD_fails l G ad σ τ b1 b2 false
  simp only [Bool.or_false] at h
  exact h
def bdP (a b d f : Int32) : Bool := !inB a 0 11 || !szB b d f
def mPl (σ : Nat → Nat → Int32) (a b d f : Int32) : Nat → Nat → Int32 := if bdP a b d f = true then up2 σ 140 0 1 else up2 (up2 (up2 (up2 σ 140 0 0) 141 (5 * a.toNatClampNeg) b) 141 (5 * a.toNatClampNeg + 1) d) 141 (5 * a.toNatClampNeg + 2) f
theorem bdP_1 {a b d f : Int32} (h : bdP a b d f = false) : inB a 0 11 = true := by
  simp only [bdP, Bool.or_eq_false_iff, Bool.not_eq_false'] at h
  exact h.1
set_option maxHeartbeats 4000000 in
set_option maxRecDepth 100000 in
theorem k_MD_place (l : Launch) (G : gP) (ad : Nat → Nat) (σ : Nat → Nat → Int32) (τ : Nat → Nat → Int64) (a b d f : Int32) : gim l y_MD_place c_MD_place 5 none { frames := 2, cells := 0, slots := 0, locals := 44 } G ad σ τ [.ref (ad 140), .int a, .int b, .int d, .int f] 0 0 (fun v σ1 τ1 => v = none ∧ σ1 = mPl σ a b d f ∧ τ1 = τ) (fun _ => False) := by
  refine gs_of (fun _ h => h) (by decide) (Nat.le_of_ble_eq_true rfl) ?_
  intro p e s m args below meth c ls S hk hr hx hl hO
  have hl : lv_has ls 5 [(0, .ref (ad 140)), (1, .int a), (2, .int b), (3, .int d), (4, .int f)] := hl
  refine lv_aload_n S.1 S.2.1 d_MD_place_0 rfl (lv_at hl 0 rfl) ?_
  have J_23 : ∀ (z : Int32), z = (bI (bdP a b d f)) → ∀ (H : Heap) (locs : List Loc), gO G (gA G) 159 ad (enc G ad σ τ) s H locs → ∀ ls : Array Slot, lv_has ls 5 [(0, .ref (ad 140)), (1, .int a), (2, .int b), (3, .int d), (4, .int f)] → W p l e { frames := 2, cells := 0, slots := 0, locals := 44 } s m args below meth c H locs 0 0 (gM below (gA G) 0 0 (fun v t => ∃ E1, (∃ σ1 τ1, E1 = enc G ad σ1 τ1 ∧ (fun v σ1 τ1 => v = none ∧ σ1 = mPl σ a b d f ∧ τ1 = τ) v σ1 τ1) ∧ va_P G.1 gcl (gw 159 ad E1) t.heap) (fun x t => (fun _ => False) x ∧ va_P G.1 gcl (gw 159 ad (enc G ad σ τ)) t.heap) args s) (F0 m 23 ls (.int z :: [.ref (ad 140)])) := by
    intro z ez H locs hO ls hl
    subst ez
    refine lv_iconst (v := 0) S.1 S.2.1 d_MD_place_23 (by decide) ?_
    refine lv_iconst (v := 0) S.1 S.2.1 d_MD_place_24 (by decide) ?_
    refine g_VI (As := [.int (bI (bdP a b d f)), .int 0, .int 0]) (rest := []) S hO (fun _ h => h) (k_MD_fails1 l G ad σ τ (bdP a b d f)) cw_MD_78 (by decide) (sh_140 G ad _ _) rfl rfl hl.1 (Nat.le_of_ble_eq_true rfl) ⟨(Nat.le_of_ble_eq_true rfl), (Nat.le_of_ble_eq_true rfl)⟩ ⟨(Nat.le_of_ble_eq_true rfl), (Nat.le_of_ble_eq_true rfl)⟩ d_MD_place_25 (fun q x ce H locs h9 => h9.elim) (fun v E1 H locs v_1 hO => ?_)
    obtain ⟨s_2, t_3, rfl, rfl, hs_2, ht_3⟩ := v_1
    rw [ht_3] at hO
    refine W.eq (g2 := F0 m 28 ls [.int (bI (bdP a b d f))]) rfl ?_
    refine lv_if_ne (tgt := 63) S.1 S.2.1 d_MD_place_28 (by decide) (fun c_28 => ?_) (fun c_28 => ?_)
    · skip
      have q_28 : (bdP a b d f) = true := b_1 c_28
      subst hs_2
      exact im_v S hk hr hO ⟨rfl, by simp [mPl, fcd, q_28]; try rw [nI_clamp (by omega)], rfl⟩ (Nat.le_of_ble_eq_true rfl) (Nat.le_of_ble_eq_true rfl) d_MD_place_63
    · skip
      have q_28 : (bdP a b d f) = false := b_0 c_28
      obtain ⟨u, hu, rfl⟩ := inB_n (n := 11) (by decide) (bdP_1 q_28)
      refine lv_aload_n S.1 S.2.1 d_MD_place_31 rfl (lv_at hl 0 rfl) ?_
      refine g_get S hO fl_MD_7 (by decide) (sh_140 G ad _ _) (v := .ref (ad 141)) rfl d_MD_place_32 ?_
      refine lv_iconst (v := 5) S.1 S.2.1 d_MD_place_35 (by decide) ?_
      refine lv_iload_n S.1 S.2.1 d_MD_place_36 rfl (lv_at hl 1 rfl) ?_
      refine lv_imul S.1 S.2.1 d_MD_place_37 ?_
      refine W.eq (g2 := F0 m 38 ls [.int (nI (5 * u)), .ref (ad 141)]) (by rw [show (5 : Int32) * (nI u) = nI (5 * u) from pk_mul 5 u]) ?_
      refine lv_iload_n S.1 S.2.1 d_MD_place_38 rfl (lv_at hl 2 rfl) ?_
      obtain ⟨s_4, hs_4⟩ : ∃ z : Nat → Nat → Int32, z = up2 s_2 141 (5 * u) b := ⟨_, rfl⟩
      refine g_ias S hO (fun _ h => h) (by decide) (sh_141 G ad _ _) (vp_in_nI (show 5 * u < 60 by omega) (by decide)) (E2 := enc G ad s_4 τ) (by rw [hs_4, nI_clamp (show 5 * u < 2 ^ 31 by omega)]; exact enc_i (sh_141 G ad _ _)) d_MD_place_39 (fun H locs hO => ?_)
      refine lv_aload_n S.1 S.2.1 d_MD_place_40 rfl (lv_at hl 0 rfl) ?_
      refine g_get S hO fl_MD_7 (by decide) (sh_140 G ad _ _) (v := .ref (ad 141)) rfl d_MD_place_41 ?_
      refine lv_iconst (v := 5) S.1 S.2.1 d_MD_place_44 (by decide) ?_
      refine lv_iload_n S.1 S.2.1 d_MD_place_45 rfl (lv_at hl 1 rfl) ?_
      refine lv_imul S.1 S.2.1 d_MD_place_46 ?_
      refine W.eq (g2 := F0 m 47 ls [.int (nI (5 * u)), .ref (ad 141)]) (by rw [show (5 : Int32) * (nI u) = nI (5 * u) from pk_mul 5 u]) ?_
      refine lv_iconst (v := 1) S.1 S.2.1 d_MD_place_47 (by decide) ?_
      refine lv_iadd S.1 S.2.1 d_MD_place_48 ?_
      refine W.eq (g2 := F0 m 49 ls [.int (nI (5 * u + 1)), .ref (ad 141)]) (by rw [show (nI (5 * u)) + (1 : Int32) = nI (5 * u + 1) from nI_add (5 * u) 1]) ?_
      refine lv_iload_n S.1 S.2.1 d_MD_place_49 rfl (lv_at hl 3 rfl) ?_
      obtain ⟨s_5, hs_5⟩ : ∃ z : Nat → Nat → Int32, z = up2 s_4 141 (5 * u + 1) d := ⟨_, rfl⟩
      refine g_ias S hO (fun _ h => h) (by decide) (sh_141 G ad _ _) (vp_in_nI (show 5 * u + 1 < 60 by omega) (by decide)) (E2 := enc G ad s_5 τ) (by rw [hs_5, nI_clamp (show 5 * u + 1 < 2 ^ 31 by omega)]; exact enc_i (sh_141 G ad _ _)) d_MD_place_50 (fun H locs hO => ?_)
      refine lv_aload_n S.1 S.2.1 d_MD_place_51 rfl (lv_at hl 0 rfl) ?_
      refine g_get S hO fl_MD_7 (by decide) (sh_140 G ad _ _) (v := .ref (ad 141)) rfl d_MD_place_52 ?_
      refine lv_iconst (v := 5) S.1 S.2.1 d_MD_place_55 (by decide) ?_
      refine lv_iload_n S.1 S.2.1 d_MD_place_56 rfl (lv_at hl 1 rfl) ?_
      refine lv_imul S.1 S.2.1 d_MD_place_57 ?_
      refine W.eq (g2 := F0 m 58 ls [.int (nI (5 * u)), .ref (ad 141)]) (by rw [show (5 : Int32) * (nI u) = nI (5 * u) from pk_mul 5 u]) ?_
      refine lv_iconst (v := 2) S.1 S.2.1 d_MD_place_58 (by decide) ?_
      refine lv_iadd S.1 S.2.1 d_MD_place_59 ?_
      refine W.eq (g2 := F0 m 60 ls [.int (nI (5 * u + 2)), .ref (ad 141)]) (by rw [show (nI (5 * u)) + (2 : Int32) = nI (5 * u + 2) from nI_add (5 * u) 2]) ?_
      refine lv_iload S.1 S.2.1 d_MD_place_60 (lv_at hl 4 rfl) ?_
      obtain ⟨s_6, hs_6⟩ : ∃ z : Nat → Nat → Int32, z = up2 s_5 141 (5 * u + 2) f := ⟨_, rfl⟩
      refine g_ias S hO (fun _ h => h) (by decide) (sh_141 G ad _ _) (vp_in_nI (show 5 * u + 2 < 60 by omega) (by decide)) (E2 := enc G ad s_6 τ) (by rw [hs_6, nI_clamp (show 5 * u + 2 < 2 ^ 31 by omega)]; exact enc_i (sh_141 G ad _ _)) d_MD_place_62 (fun H locs hO => ?_)
      subst hs_6
      subst hs_5
      subst hs_4
      subst hs_2
      exact im_v S hk hr hO ⟨rfl, by simp [mPl, fcd, q_28]; try rw [nI_clamp (by omega)], rfl⟩ (Nat.le_of_ble_eq_true rfl) (Nat.le_of_ble_eq_true rfl) d_MD_place_63
  refine lv_iload_n S.1 S.2.1 d_MD_place_1 rfl (lv_at hl 1 rfl) ?_
  refine g_SP (As := [.int a]) (rest := [.ref (ad 140)]) S hO (k_MD_isPlace l G ad σ τ a) cw_MD_71 g_cfC hl.1 (Nat.le_of_ble_eq_true rfl) ⟨(Nat.le_of_ble_eq_true rfl), (Nat.le_of_ble_eq_true rfl)⟩ ⟨(Nat.le_of_ble_eq_true rfl), (Nat.le_of_ble_eq_true rfl)⟩ d_MD_place_2 (fun q x ce H h9 => h9.elim) (fun v H v_7 hO => ?_)
  subst v_7
  refine W.eq (g2 := F0 m 5 ls [.int (bI (inB a 0 11)), .ref (ad 140)]) rfl ?_
  refine lv_if_eq (tgt := 18) S.1 S.2.1 d_MD_place_5 (by decide) (fun c_5 => ?_) (fun c_5 => ?_)
  · skip
    have q_5 : (inB a 0 11) = false := b_0 c_5
    refine lv_iconst (v := 1) S.1 S.2.1 d_MD_place_18 (by decide) ?_
    refine lv_goto (tgt := 23) S.1 S.2.1 d_MD_place_19 (by decide) ?_
    exact J_23 _ (by simp [bI, bdP, q_5]) _ _ hO ls (lv_sub hl [0, 1, 2, 3, 4] rfl)
  · skip
    have q_5 : (inB a 0 11) = true := b_1 c_5
    refine lv_iload_n S.1 S.2.1 d_MD_place_8 rfl (lv_at hl 2 rfl) ?_
    refine lv_iload_n S.1 S.2.1 d_MD_place_9 rfl (lv_at hl 3 rfl) ?_
    refine lv_iload S.1 S.2.1 d_MD_place_10 (lv_at hl 4 rfl) ?_
    refine g_SP (As := [.int b, .int d, .int f]) (rest := [.ref (ad 140)]) S hO (k_MD_isSize l G ad σ τ b d f) cw_MD_75 g_cfC hl.1 (Nat.le_of_ble_eq_true rfl) ⟨(Nat.le_of_ble_eq_true rfl), (Nat.le_of_ble_eq_true rfl)⟩ ⟨(Nat.le_of_ble_eq_true rfl), (Nat.le_of_ble_eq_true rfl)⟩ d_MD_place_12 (fun q x ce H h9 => h9.elim) (fun v H v_8 hO => ?_)
    subst v_8
    refine W.eq (g2 := F0 m 15 ls [.int (bI (szB b d f)), .ref (ad 140)]) rfl ?_
    refine lv_if_ne (tgt := 22) S.1 S.2.1 d_MD_place_15 (by decide) (fun c_15 => ?_) (fun c_15 => ?_)
    · skip
      have q_15 : (szB b d f) = true := b_1 c_15
      refine lv_iconst (v := 0) S.1 S.2.1 d_MD_place_22 (by decide) ?_
      exact J_23 _ (by simp [bI, bdP, q_5, q_15]) _ _ hO ls (lv_sub hl [0, 1, 2, 3, 4] rfl)
    · skip
      have q_15 : (szB b d f) = false := b_0 c_15
      refine lv_iconst (v := 1) S.1 S.2.1 d_MD_place_18 (by decide) ?_
      refine lv_goto (tgt := 23) S.1 S.2.1 d_MD_place_19 (by decide) ?_
      exact J_23 _ (by simp [bI, bdP, q_5, q_15]) _ _ hO ls (lv_sub hl [0, 1, 2, 3, 4] rfl)
def bdL (a b d : Int32) : Bool := !inB a 0 11 || !inB b 0 10000000 || !inB d 0 7
def mLi (σ : Nat → Nat → Int32) (a b d : Int32) : Nat → Nat → Int32 := if bdL a b d = true then up2 σ 140 0 (fcd (bdL a b d) false false) else up2 (up2 (up2 σ 140 0 (fcd (bdL a b d) false false)) 141 (5 * a.toNatClampNeg + 3) b) 141 (5 * a.toNatClampNeg + 4) d
theorem bdL_1 {a b d : Int32} (h : bdL a b d = false) : inB a 0 11 = true := by
  simp only [bdL, Bool.or_eq_false_iff, Bool.not_eq_false'] at h
  exact h.1.1
set_option maxHeartbeats 4000000 in
set_option maxRecDepth 100000 in
theorem k_MD_limit (l : Launch) (G : gP) (ad : Nat → Nat) (σ : Nat → Nat → Int32) (τ : Nat → Nat → Int64) (a b d : Int32) : gim l y_MD_limit c_MD_limit 4 none { frames := 2, cells := 0, slots := 0, locals := 42 } G ad σ τ [.ref (ad 140), .int a, .int b, .int d] 0 0 (fun v σ1 τ1 => v = none ∧ σ1 = mLi σ a b d ∧ τ1 = τ) (fun _ => False) := by
  refine gs_of (fun _ h => h) (by decide) (Nat.le_of_ble_eq_true rfl) ?_
  intro p e s m args below meth c ls S hk hr hx hl hO
  have hl : lv_has ls 4 [(0, .ref (ad 140)), (1, .int a), (2, .int b), (3, .int d)] := hl
  refine lv_aload_n S.1 S.2.1 d_MD_limit_0 rfl (lv_at hl 0 rfl) ?_
  have J_33 : ∀ (z : Int32), z = (bI (bdL a b d)) → ∀ (H : Heap) (locs : List Loc), gO G (gA G) 159 ad (enc G ad σ τ) s H locs → ∀ ls : Array Slot, lv_has ls 4 [(0, .ref (ad 140)), (1, .int a), (2, .int b), (3, .int d)] → W p l e { frames := 2, cells := 0, slots := 0, locals := 42 } s m args below meth c H locs 0 0 (gM below (gA G) 0 0 (fun v t => ∃ E1, (∃ σ1 τ1, E1 = enc G ad σ1 τ1 ∧ (fun v σ1 τ1 => v = none ∧ σ1 = mLi σ a b d ∧ τ1 = τ) v σ1 τ1) ∧ va_P G.1 gcl (gw 159 ad E1) t.heap) (fun x t => (fun _ => False) x ∧ va_P G.1 gcl (gw 159 ad (enc G ad σ τ)) t.heap) args s) (F0 m 33 ls (.int z :: [.ref (ad 140)])) := by
    intro z ez H locs hO ls hl
    subst ez
    refine lv_iconst (v := 0) S.1 S.2.1 d_MD_limit_33 (by decide) ?_
    refine lv_iconst (v := 0) S.1 S.2.1 d_MD_limit_34 (by decide) ?_
    refine g_VI (As := [.int (bI (bdL a b d)), .int 0, .int 0]) (rest := []) S hO (fun _ h => h) (k_MD_fails1 l G ad σ τ (bdL a b d)) cw_MD_78 (by decide) (sh_140 G ad _ _) rfl rfl hl.1 (Nat.le_of_ble_eq_true rfl) ⟨(Nat.le_of_ble_eq_true rfl), (Nat.le_of_ble_eq_true rfl)⟩ ⟨(Nat.le_of_ble_eq_true rfl), (Nat.le_of_ble_eq_true rfl)⟩ d_MD_limit_35 (fun q x ce H locs h9 => h9.elim) (fun v E1 H locs v_1 hO => ?_)
    obtain ⟨s_2, t_3, rfl, rfl, hs_2, ht_3⟩ := v_1
    rw [ht_3] at hO
    refine W.eq (g2 := F0 m 38 ls [.int (bI (bdL a b d))]) rfl ?_
    refine lv_if_ne (tgt := 63) S.1 S.2.1 d_MD_limit_38 (by decide) (fun c_38 => ?_) (fun c_38 => ?_)
    · skip
      have q_38 : (bdL a b d) = true := b_1 c_38
      subst hs_2
      exact im_v S hk hr hO ⟨rfl, by simp [mLi, fcd, q_38]; try rw [nI_clamp (by omega)], rfl⟩ (Nat.le_of_ble_eq_true rfl) (Nat.le_of_ble_eq_true rfl) d_MD_limit_63
    · skip
      have q_38 : (bdL a b d) = false := b_0 c_38
      obtain ⟨u, hu, rfl⟩ := inB_n (n := 11) (by decide) (bdL_1 q_38)
      refine lv_aload_n S.1 S.2.1 d_MD_limit_41 rfl (lv_at hl 0 rfl) ?_
      refine g_get S hO fl_MD_7 (by decide) (sh_140 G ad _ _) (v := .ref (ad 141)) rfl d_MD_limit_42 ?_
      refine lv_iconst (v := 5) S.1 S.2.1 d_MD_limit_45 (by decide) ?_
      refine lv_iload_n S.1 S.2.1 d_MD_limit_46 rfl (lv_at hl 1 rfl) ?_
      refine lv_imul S.1 S.2.1 d_MD_limit_47 ?_
      refine W.eq (g2 := F0 m 48 ls [.int (nI (5 * u)), .ref (ad 141)]) (by rw [show (5 : Int32) * (nI u) = nI (5 * u) from pk_mul 5 u]) ?_
      refine lv_iconst (v := 3) S.1 S.2.1 d_MD_limit_48 (by decide) ?_
      refine lv_iadd S.1 S.2.1 d_MD_limit_49 ?_
      refine W.eq (g2 := F0 m 50 ls [.int (nI (5 * u + 3)), .ref (ad 141)]) (by rw [show (nI (5 * u)) + (3 : Int32) = nI (5 * u + 3) from nI_add (5 * u) 3]) ?_
      refine lv_iload_n S.1 S.2.1 d_MD_limit_50 rfl (lv_at hl 2 rfl) ?_
      obtain ⟨s_4, hs_4⟩ : ∃ z : Nat → Nat → Int32, z = up2 s_2 141 (5 * u + 3) b := ⟨_, rfl⟩
      refine g_ias S hO (fun _ h => h) (by decide) (sh_141 G ad _ _) (vp_in_nI (show 5 * u + 3 < 60 by omega) (by decide)) (E2 := enc G ad s_4 τ) (by rw [hs_4, nI_clamp (show 5 * u + 3 < 2 ^ 31 by omega)]; exact enc_i (sh_141 G ad _ _)) d_MD_limit_51 (fun H locs hO => ?_)
      refine lv_aload_n S.1 S.2.1 d_MD_limit_52 rfl (lv_at hl 0 rfl) ?_
      refine g_get S hO fl_MD_7 (by decide) (sh_140 G ad _ _) (v := .ref (ad 141)) rfl d_MD_limit_53 ?_
      refine lv_iconst (v := 5) S.1 S.2.1 d_MD_limit_56 (by decide) ?_
      refine lv_iload_n S.1 S.2.1 d_MD_limit_57 rfl (lv_at hl 1 rfl) ?_
      refine lv_imul S.1 S.2.1 d_MD_limit_58 ?_
      refine W.eq (g2 := F0 m 59 ls [.int (nI (5 * u)), .ref (ad 141)]) (by rw [show (5 : Int32) * (nI u) = nI (5 * u) from pk_mul 5 u]) ?_
      refine lv_iconst (v := 4) S.1 S.2.1 d_MD_limit_59 (by decide) ?_
      refine lv_iadd S.1 S.2.1 d_MD_limit_60 ?_
      refine W.eq (g2 := F0 m 61 ls [.int (nI (5 * u + 4)), .ref (ad 141)]) (by rw [show (nI (5 * u)) + (4 : Int32) = nI (5 * u + 4) from nI_add (5 * u) 4]) ?_
      refine lv_iload_n S.1 S.2.1 d_MD_limit_61 rfl (lv_at hl 3 rfl) ?_
      obtain ⟨s_5, hs_5⟩ : ∃ z : Nat → Nat → Int32, z = up2 s_4 141 (5 * u + 4) d := ⟨_, rfl⟩
      refine g_ias S hO (fun _ h => h) (by decide) (sh_141 G ad _ _) (vp_in_nI (show 5 * u + 4 < 60 by omega) (by decide)) (E2 := enc G ad s_5 τ) (by rw [hs_5, nI_clamp (show 5 * u + 4 < 2 ^ 31 by omega)]; exact enc_i (sh_141 G ad _ _)) d_MD_limit_62 (fun H locs hO => ?_)
      subst hs_5
      subst hs_4
      subst hs_2
      exact im_v S hk hr hO ⟨rfl, by simp [mLi, fcd, q_38]; try rw [nI_clamp (by omega)], rfl⟩ (Nat.le_of_ble_eq_true rfl) (Nat.le_of_ble_eq_true rfl) d_MD_limit_63
  refine lv_iload_n S.1 S.2.1 d_MD_limit_1 rfl (lv_at hl 1 rfl) ?_
  refine g_SP (As := [.int a]) (rest := [.ref (ad 140)]) S hO (k_MD_isPlace l G ad σ τ a) cw_MD_71 g_cfC hl.1 (Nat.le_of_ble_eq_true rfl) ⟨(Nat.le_of_ble_eq_true rfl), (Nat.le_of_ble_eq_true rfl)⟩ ⟨(Nat.le_of_ble_eq_true rfl), (Nat.le_of_ble_eq_true rfl)⟩ d_MD_limit_2 (fun q x ce H h9 => h9.elim) (fun v H v_6 hO => ?_)
  subst v_6
  refine W.eq (g2 := F0 m 5 ls [.int (bI (inB a 0 11)), .ref (ad 140)]) rfl ?_
  refine lv_if_eq (tgt := 28) S.1 S.2.1 d_MD_limit_5 (by decide) (fun c_5 => ?_) (fun c_5 => ?_)
  · skip
    have q_5 : (inB a 0 11) = false := b_0 c_5
    refine lv_iconst (v := 1) S.1 S.2.1 d_MD_limit_28 (by decide) ?_
    refine lv_goto (tgt := 33) S.1 S.2.1 d_MD_limit_29 (by decide) ?_
    exact J_33 _ (by simp [bI, bdL, q_5]) _ _ hO ls (lv_sub hl [0, 1, 2, 3] rfl)
  · skip
    have q_5 : (inB a 0 11) = true := b_1 c_5
    refine lv_iload_n S.1 S.2.1 d_MD_limit_8 rfl (lv_at hl 2 rfl) ?_
    refine lv_iconst (v := 0) S.1 S.2.1 d_MD_limit_9 (by decide) ?_
    refine lv_ldc (v := 10000000) S.1 S.2.1 S.2.2.2.1 (S.2.2.2.2 _ kv_MD_82) d_MD_limit_10 ?_
    refine g_SP (As := [.int b, .int 0, .int 10000000]) (rest := [.ref (ad 140)]) S hO (k_MD_in l G ad σ τ b 0 10000000) cw_MD_67 g_cfC hl.1 (Nat.le_of_ble_eq_true rfl) ⟨(Nat.le_of_ble_eq_true rfl), (Nat.le_of_ble_eq_true rfl)⟩ ⟨(Nat.le_of_ble_eq_true rfl), (Nat.le_of_ble_eq_true rfl)⟩ d_MD_limit_12 (fun q x ce H h9 => h9.elim) (fun v H v_7 hO => ?_)
    subst v_7
    refine W.eq (g2 := F0 m 15 ls [.int (bI (inB b 0 10000000)), .ref (ad 140)]) rfl ?_
    refine lv_if_eq (tgt := 28) S.1 S.2.1 d_MD_limit_15 (by decide) (fun c_15 => ?_) (fun c_15 => ?_)
    · skip
      have q_15 : (inB b 0 10000000) = false := b_0 c_15
      refine lv_iconst (v := 1) S.1 S.2.1 d_MD_limit_28 (by decide) ?_
      refine lv_goto (tgt := 33) S.1 S.2.1 d_MD_limit_29 (by decide) ?_
      exact J_33 _ (by simp [bI, bdL, q_5, q_15]) _ _ hO ls (lv_sub hl [0, 1, 2, 3] rfl)
    · skip
      have q_15 : (inB b 0 10000000) = true := b_1 c_15
      refine lv_iload_n S.1 S.2.1 d_MD_limit_18 rfl (lv_at hl 3 rfl) ?_
      refine lv_iconst (v := 0) S.1 S.2.1 d_MD_limit_19 (by decide) ?_
      refine lv_bipush (v := 7) S.1 S.2.1 d_MD_limit_20 (by decide) ?_
      refine g_SP (As := [.int d, .int 0, .int 7]) (rest := [.ref (ad 140)]) S hO (k_MD_in l G ad σ τ d 0 7) cw_MD_67 g_cfC hl.1 (Nat.le_of_ble_eq_true rfl) ⟨(Nat.le_of_ble_eq_true rfl), (Nat.le_of_ble_eq_true rfl)⟩ ⟨(Nat.le_of_ble_eq_true rfl), (Nat.le_of_ble_eq_true rfl)⟩ d_MD_limit_22 (fun q x ce H h9 => h9.elim) (fun v H v_8 hO => ?_)
      subst v_8
      refine W.eq (g2 := F0 m 25 ls [.int (bI (inB d 0 7)), .ref (ad 140)]) rfl ?_
      refine lv_if_ne (tgt := 32) S.1 S.2.1 d_MD_limit_25 (by decide) (fun c_25 => ?_) (fun c_25 => ?_)
      · skip
        have q_25 : (inB d 0 7) = true := b_1 c_25
        refine lv_iconst (v := 0) S.1 S.2.1 d_MD_limit_32 (by decide) ?_
        exact J_33 _ (by simp [bI, bdL, q_5, q_15, q_25]) _ _ hO ls (lv_sub hl [0, 1, 2, 3] rfl)
      · skip
        have q_25 : (inB d 0 7) = false := b_0 c_25
        refine lv_iconst (v := 1) S.1 S.2.1 d_MD_limit_28 (by decide) ?_
        refine lv_goto (tgt := 33) S.1 S.2.1 d_MD_limit_29 (by decide) ?_
        exact J_33 _ (by simp [bI, bdL, q_5, q_15, q_25]) _ _ hO ls (lv_sub hl [0, 1, 2, 3] rfl)
def lyS (σ : Nat → Nat → Int32) (u k : Nat) (a b d : Int32) : Nat → Nat → Int32 := up2 (up2 (up2 σ 142 (10 * u + k) a) 142 (10 * u + k + 1) b) 142 (10 * u + k + 2) d
set_option maxHeartbeats 4000000 in
set_option maxRecDepth 100000 in
theorem k_MD_lay (l : Launch) (G : gP) (ad : Nat → Nat) (σ : Nat → Nat → Int32) (τ : Nat → Nat → Int64) (u k : Nat) (hu : u < 40) (hk7 : k < 8) (a b d : Int32) : gim l y_MD_lay c_MD_lay 6 none { frames := 0, cells := 0, slots := 0, locals := 0 } G ad σ τ [.ref (ad 140), .int (nI u), .int (nI k), .int a, .int b, .int d] 0 0 (fun v σ1 τ1 => v = none ∧ σ1 = lyS σ u k a b d ∧ τ1 = τ) (fun _ => False) := by
  refine gs_of (fun _ h => h) (by decide) (Nat.le_of_ble_eq_true rfl) ?_
  intro p e s m args below meth c ls S hk hr hx hl hO
  have hl : lv_has ls 6 [(0, .ref (ad 140)), (1, .int (nI u)), (2, .int (nI k)), (3, .int a), (4, .int b), (5, .int d)] := hl
  refine lv_aload_n S.1 S.2.1 d_MD_lay_0 rfl (lv_at hl 0 rfl) ?_
  refine g_get S hO fl_MD_13 (by decide) (sh_140 G ad _ _) (v := .ref (ad 142)) rfl d_MD_lay_1 ?_
  refine lv_bipush (v := 10) S.1 S.2.1 d_MD_lay_4 (by decide) ?_
  refine lv_iload_n S.1 S.2.1 d_MD_lay_6 rfl (lv_at hl 1 rfl) ?_
  refine lv_imul S.1 S.2.1 d_MD_lay_7 ?_
  refine W.eq (g2 := F0 m 8 ls [.int (nI (10 * u)), .ref (ad 142)]) (by rw [show (10 : Int32) * (nI u) = nI (10 * u) from pk_mul 10 u]) ?_
  refine lv_iload_n S.1 S.2.1 d_MD_lay_8 rfl (lv_at hl 2 rfl) ?_
  refine lv_iadd S.1 S.2.1 d_MD_lay_9 ?_
  refine W.eq (g2 := F0 m 10 ls [.int (nI (10 * u + k)), .ref (ad 142)]) (by rw [show (nI (10 * u)) + (nI k) = nI (10 * u + k) from nI_add (10 * u) k]) ?_
  refine lv_iload_n S.1 S.2.1 d_MD_lay_10 rfl (lv_at hl 3 rfl) ?_
  obtain ⟨s_1, hs_1⟩ : ∃ z : Nat → Nat → Int32, z = up2 σ 142 (10 * u + k) a := ⟨_, rfl⟩
  refine g_ias S hO (fun _ h => h) (by decide) (sh_142 G ad _ _) (vp_in_nI (show 10 * u + k < 400 by omega) (by decide)) (E2 := enc G ad s_1 τ) (by rw [hs_1, nI_clamp (show 10 * u + k < 2 ^ 31 by omega)]; exact enc_i (sh_142 G ad _ _)) d_MD_lay_11 (fun H locs hO => ?_)
  refine lv_aload_n S.1 S.2.1 d_MD_lay_12 rfl (lv_at hl 0 rfl) ?_
  refine g_get S hO fl_MD_13 (by decide) (sh_140 G ad _ _) (v := .ref (ad 142)) rfl d_MD_lay_13 ?_
  refine lv_bipush (v := 10) S.1 S.2.1 d_MD_lay_16 (by decide) ?_
  refine lv_iload_n S.1 S.2.1 d_MD_lay_18 rfl (lv_at hl 1 rfl) ?_
  refine lv_imul S.1 S.2.1 d_MD_lay_19 ?_
  refine W.eq (g2 := F0 m 20 ls [.int (nI (10 * u)), .ref (ad 142)]) (by rw [show (10 : Int32) * (nI u) = nI (10 * u) from pk_mul 10 u]) ?_
  refine lv_iload_n S.1 S.2.1 d_MD_lay_20 rfl (lv_at hl 2 rfl) ?_
  refine lv_iadd S.1 S.2.1 d_MD_lay_21 ?_
  refine W.eq (g2 := F0 m 22 ls [.int (nI (10 * u + k)), .ref (ad 142)]) (by rw [show (nI (10 * u)) + (nI k) = nI (10 * u + k) from nI_add (10 * u) k]) ?_
  refine lv_iconst (v := 1) S.1 S.2.1 d_MD_lay_22 (by decide) ?_
  refine lv_iadd S.1 S.2.1 d_MD_lay_23 ?_
  refine W.eq (g2 := F0 m 24 ls [.int (nI (10 * u + k + 1)), .ref (ad 142)]) (by rw [show (nI (10 * u + k)) + (1 : Int32) = nI (10 * u + k + 1) from nI_add (10 * u + k) 1]) ?_
  refine lv_iload S.1 S.2.1 d_MD_lay_24 (lv_at hl 4 rfl) ?_
  obtain ⟨s_2, hs_2⟩ : ∃ z : Nat → Nat → Int32, z = up2 s_1 142 (10 * u + k + 1) b := ⟨_, rfl⟩
  refine g_ias S hO (fun _ h => h) (by decide) (sh_142 G ad _ _) (vp_in_nI (show 10 * u + k + 1 < 400 by omega) (by decide)) (E2 := enc G ad s_2 τ) (by rw [hs_2, nI_clamp (show 10 * u + k + 1 < 2 ^ 31 by omega)]; exact enc_i (sh_142 G ad _ _)) d_MD_lay_26 (fun H locs hO => ?_)
  refine lv_aload_n S.1 S.2.1 d_MD_lay_27 rfl (lv_at hl 0 rfl) ?_
  refine g_get S hO fl_MD_13 (by decide) (sh_140 G ad _ _) (v := .ref (ad 142)) rfl d_MD_lay_28 ?_
  refine lv_bipush (v := 10) S.1 S.2.1 d_MD_lay_31 (by decide) ?_
  refine lv_iload_n S.1 S.2.1 d_MD_lay_33 rfl (lv_at hl 1 rfl) ?_
  refine lv_imul S.1 S.2.1 d_MD_lay_34 ?_
  refine W.eq (g2 := F0 m 35 ls [.int (nI (10 * u)), .ref (ad 142)]) (by rw [show (10 : Int32) * (nI u) = nI (10 * u) from pk_mul 10 u]) ?_
  refine lv_iload_n S.1 S.2.1 d_MD_lay_35 rfl (lv_at hl 2 rfl) ?_
  refine lv_iadd S.1 S.2.1 d_MD_lay_36 ?_
  refine W.eq (g2 := F0 m 37 ls [.int (nI (10 * u + k)), .ref (ad 142)]) (by rw [show (nI (10 * u)) + (nI k) = nI (10 * u + k) from nI_add (10 * u) k]) ?_
  refine lv_iconst (v := 2) S.1 S.2.1 d_MD_lay_37 (by decide) ?_
  refine lv_iadd S.1 S.2.1 d_MD_lay_38 ?_
  refine W.eq (g2 := F0 m 39 ls [.int (nI (10 * u + k + 2)), .ref (ad 142)]) (by rw [show (nI (10 * u + k)) + (2 : Int32) = nI (10 * u + k + 2) from nI_add (10 * u + k) 2]) ?_
  refine lv_iload S.1 S.2.1 d_MD_lay_39 (lv_at hl 5 rfl) ?_
  obtain ⟨s_3, hs_3⟩ : ∃ z : Nat → Nat → Int32, z = up2 s_2 142 (10 * u + k + 2) d := ⟨_, rfl⟩
  refine g_ias S hO (fun _ h => h) (by decide) (sh_142 G ad _ _) (vp_in_nI (show 10 * u + k + 2 < 400 by omega) (by decide)) (E2 := enc G ad s_3 τ) (by rw [hs_3, nI_clamp (show 10 * u + k + 2 < 2 ^ 31 by omega)]; exact enc_i (sh_142 G ad _ _)) d_MD_lay_41 (fun H locs hO => ?_)
  subst hs_3
  subst hs_2
  subst hs_1
  exact im_v S hk hr hO ⟨rfl, rfl, rfl⟩ (Nat.le_of_ble_eq_true rfl) (Nat.le_of_ble_eq_true rfl) d_MD_lay_42
def bdU (a b d : Int32) : Bool := !inB a 0 99 || !inB b 0 99 || !inB d 0 7
def mUo (a b d : Int32) (nu : Nat) : Bool := bdU a b d || decide (nI nu = 40)
def mUn (σ : Nat → Nat → Int32) (a b d : Int32) (nu : Nat) : Nat → Nat → Int32 := if (bdU a b d || decide (nI nu = 40)) = true then up2 σ 140 0 (fcd (bdU a b d) (decide (nI nu = 40)) false) else
  up2 (up2 (lyS (up2 (lyS (lyS (up2 σ 140 0 (fcd (bdU a b d) (decide (nI nu = 40)) false)) nu 0 a b d) nu 3 100 100 100) 142 (10 * nu + 6) 1000) nu 7 0 0 1000) 143 nu (-1)) 140 2 (nI (nu + 1))
theorem nu40 {b : Bool} {n N : Nat} {M : Int32} (hM : M = nI N) (hN : n ≤ N) (h : (b || decide (nI n = M)) = false) : n < N := by
  rcases Nat.lt_or_ge n N with q | q
  · exact q
  · have e : n = N := by omega
    subst e
    rw [hM] at h
    simp at h
set_option maxHeartbeats 4000000 in
set_option maxRecDepth 100000 in
theorem k_MD_unit (l : Launch) (G : gP) (ad : Nat → Nat) (σ : Nat → Nat → Int32) (τ : Nat → Nat → Int64) (a b d : Int32) (nu : Nat) (hmu : σ 140 2 = nI nu) (hn4 : nu ≤ 40) : gim l y_MD_unit c_MD_unit 4 (some .int) { frames := 1, cells := 0, slots := 0, locals := 25 } G ad σ τ [.ref (ad 140), .int a, .int b, .int d] 0 0 (fun v σ1 τ1 => v = some (.int (if (bdU a b d || decide (nI nu = 40)) = true then 0 else nI nu)) ∧ σ1 = mUn σ a b d nu ∧ τ1 = τ) (fun _ => False) := by
  refine gs_of (fun _ h => h) (by decide) (Nat.le_of_ble_eq_true rfl) ?_
  intro p e s m args below meth c ls S hk hr hx hl hO
  have hl : lv_has ls 4 [(0, .ref (ad 140)), (1, .int a), (2, .int b), (3, .int d)] := hl
  refine lv_aload_n S.1 S.2.1 d_MD_unit_0 rfl (lv_at hl 0 rfl) ?_
  have J_36 : ∀ (z : Int32), z = (bI (bdU a b d)) → ∀ (H : Heap) (locs : List Loc), gO G (gA G) 159 ad (enc G ad σ τ) s H locs → ∀ ls : Array Slot, lv_has ls 4 [(0, .ref (ad 140)), (1, .int a), (2, .int b), (3, .int d)] → W p l e { frames := 1, cells := 0, slots := 0, locals := 25 } s m args below meth c H locs 0 0 (gM below (gA G) 0 0 (fun v t => ∃ E1, (∃ σ1 τ1, E1 = enc G ad σ1 τ1 ∧ (fun v σ1 τ1 => v = some (.int (if (bdU a b d || decide (nI nu = 40)) = true then 0 else nI nu)) ∧ σ1 = mUn σ a b d nu ∧ τ1 = τ) v σ1 τ1) ∧ va_P G.1 gcl (gw 159 ad E1) t.heap) (fun x t => (fun _ => False) x ∧ va_P G.1 gcl (gw 159 ad (enc G ad σ τ)) t.heap) args s) (F0 m 36 ls (.int z :: [.ref (ad 140)])) := by
    intro z ez H locs hO ls hl
    subst ez
    have J_50 : ∀ (z : Int32), z = (bI (decide (nI nu = 40))) → ∀ (H : Heap) (locs : List Loc), gO G (gA G) 159 ad (enc G ad σ τ) s H locs → ∀ ls : Array Slot, lv_has ls 4 [(0, .ref (ad 140)), (1, .int a), (2, .int b), (3, .int d)] → W p l e { frames := 1, cells := 0, slots := 0, locals := 25 } s m args below meth c H locs 0 0 (gM below (gA G) 0 0 (fun v t => ∃ E1, (∃ σ1 τ1, E1 = enc G ad σ1 τ1 ∧ (fun v σ1 τ1 => v = some (.int (if (bdU a b d || decide (nI nu = 40)) = true then 0 else nI nu)) ∧ σ1 = mUn σ a b d nu ∧ τ1 = τ) v σ1 τ1) ∧ va_P G.1 gcl (gw 159 ad E1) t.heap) (fun x t => (fun _ => False) x ∧ va_P G.1 gcl (gw 159 ad (enc G ad σ τ)) t.heap) args s) (F0 m 50 ls (.int z :: [.int (bI (bdU a b d)), .ref (ad 140)])) := by
      intro z ez H locs hO ls hl
      subst ez
      refine lv_iconst (v := 0) S.1 S.2.1 d_MD_unit_50 (by decide) ?_
      refine g_VI (As := [.int (bI (bdU a b d)), .int (bI (decide (nI nu = 40))), .int 0]) (rest := []) S hO (fun _ h => h) (k_MD_fails2 l G ad σ τ (bdU a b d) (decide (nI nu = 40))) cw_MD_78 (by decide) (sh_140 G ad _ _) rfl rfl hl.1 (Nat.le_of_ble_eq_true rfl) ⟨(Nat.le_of_ble_eq_true rfl), (Nat.le_of_ble_eq_true rfl)⟩ ⟨(Nat.le_of_ble_eq_true rfl), (Nat.le_of_ble_eq_true rfl)⟩ d_MD_unit_51 (fun q x ce H locs h9 => h9.elim) (fun v E1 H locs v_1 hO => ?_)
      obtain ⟨s_2, t_3, rfl, rfl, hs_2, ht_3⟩ := v_1
      rw [ht_3] at hO
      refine W.eq (g2 := F0 m 54 ls [.int (bI ((bdU a b d) || (decide (nI nu = 40))))]) rfl ?_
      refine lv_if_eq (tgt := 59) S.1 S.2.1 d_MD_unit_54 (by decide) (fun c_54 => ?_) (fun c_54 => ?_)
      · skip
        have q_54 : ((bdU a b d) || (decide (nI nu = 40))) = false := b_0 c_54
        have hu : nu < 40 := nu40 rfl hn4 q_54
        refine lv_aload_n S.1 S.2.1 d_MD_unit_59 rfl (lv_at hl 0 rfl) ?_
        refine lv_aload_n S.1 S.2.1 d_MD_unit_60 rfl (lv_at hl 0 rfl) ?_
        refine g_get S hO fl_MD_83 (by decide) (sh_140 G ad _ _) (v := .int (s_2 140 2)) rfl d_MD_unit_61 ?_
        refine W.eq (g2 := F0 m 64 ls [.int (nI nu), .ref (ad 140)]) (by rw [show s_2 140 2 = nI nu from (by simp [hs_2, up2_at, hmu, lyS])]) ?_
        refine lv_iconst (v := 0) S.1 S.2.1 d_MD_unit_64 (by decide) ?_
        refine lv_iload_n S.1 S.2.1 d_MD_unit_65 rfl (lv_at hl 1 rfl) ?_
        refine lv_iload_n S.1 S.2.1 d_MD_unit_66 rfl (lv_at hl 2 rfl) ?_
        refine lv_iload_n S.1 S.2.1 d_MD_unit_67 rfl (lv_at hl 3 rfl) ?_
        refine g_VI (As := [.int (nI nu), .int 0, .int a, .int b, .int d]) (rest := []) S hO (fun _ h => h) (k_MD_lay l G ad s_2 τ nu 0 (by omega) (by omega) a b d) cw_MD_86 (by decide) (sh_140 G ad _ _) rfl rfl hl.1 (Nat.le_of_ble_eq_true rfl) ⟨(Nat.le_of_ble_eq_true rfl), (Nat.le_of_ble_eq_true rfl)⟩ ⟨(Nat.le_of_ble_eq_true rfl), (Nat.le_of_ble_eq_true rfl)⟩ d_MD_unit_68 (fun q x ce H locs h9 => h9.elim) (fun v E1 H locs v_4 hO => ?_)
        obtain ⟨s_5, t_6, rfl, rfl, hs_5, ht_6⟩ := v_4
        rw [ht_6] at hO
        refine W.eq (g2 := F0 m 71 ls []) rfl ?_
        refine lv_aload_n S.1 S.2.1 d_MD_unit_71 rfl (lv_at hl 0 rfl) ?_
        refine lv_aload_n S.1 S.2.1 d_MD_unit_72 rfl (lv_at hl 0 rfl) ?_
        refine g_get S hO fl_MD_83 (by decide) (sh_140 G ad _ _) (v := .int (s_5 140 2)) rfl d_MD_unit_73 ?_
        refine W.eq (g2 := F0 m 76 ls [.int (nI nu), .ref (ad 140)]) (by rw [show s_5 140 2 = nI nu from (by simp [hs_5, hs_2, up2_at, hmu, lyS])]) ?_
        refine lv_iconst (v := 3) S.1 S.2.1 d_MD_unit_76 (by decide) ?_
        refine lv_bipush (v := 100) S.1 S.2.1 d_MD_unit_77 (by decide) ?_
        refine lv_bipush (v := 100) S.1 S.2.1 d_MD_unit_79 (by decide) ?_
        refine lv_bipush (v := 100) S.1 S.2.1 d_MD_unit_81 (by decide) ?_
        refine g_VI (As := [.int (nI nu), .int 3, .int 100, .int 100, .int 100]) (rest := []) S hO (fun _ h => h) (k_MD_lay l G ad s_5 τ nu 3 (by omega) (by omega) 100 100 100) cw_MD_86 (by decide) (sh_140 G ad _ _) rfl rfl hl.1 (Nat.le_of_ble_eq_true rfl) ⟨(Nat.le_of_ble_eq_true rfl), (Nat.le_of_ble_eq_true rfl)⟩ ⟨(Nat.le_of_ble_eq_true rfl), (Nat.le_of_ble_eq_true rfl)⟩ d_MD_unit_83 (fun q x ce H locs h9 => h9.elim) (fun v E1 H locs v_7 hO => ?_)
        obtain ⟨s_8, t_9, rfl, rfl, hs_8, ht_9⟩ := v_7
        rw [ht_9] at hO
        refine W.eq (g2 := F0 m 86 ls []) rfl ?_
        refine lv_aload_n S.1 S.2.1 d_MD_unit_86 rfl (lv_at hl 0 rfl) ?_
        refine g_get S hO fl_MD_13 (by decide) (sh_140 G ad _ _) (v := .ref (ad 142)) rfl d_MD_unit_87 ?_
        refine lv_bipush (v := 10) S.1 S.2.1 d_MD_unit_90 (by decide) ?_
        refine lv_aload_n S.1 S.2.1 d_MD_unit_92 rfl (lv_at hl 0 rfl) ?_
        refine g_get S hO fl_MD_83 (by decide) (sh_140 G ad _ _) (v := .int (s_8 140 2)) rfl d_MD_unit_93 ?_
        refine W.eq (g2 := F0 m 96 ls [.int (nI nu), .int 10, .ref (ad 142)]) (by rw [show s_8 140 2 = nI nu from (by simp [hs_8, hs_5, hs_2, up2_at, hmu, lyS])]) ?_
        refine lv_imul S.1 S.2.1 d_MD_unit_96 ?_
        refine W.eq (g2 := F0 m 97 ls [.int (nI (10 * nu)), .ref (ad 142)]) (by rw [show (10 : Int32) * (nI nu) = nI (10 * nu) from pk_mul 10 nu]) ?_
        refine lv_bipush (v := 6) S.1 S.2.1 d_MD_unit_97 (by decide) ?_
        refine lv_iadd S.1 S.2.1 d_MD_unit_99 ?_
        refine W.eq (g2 := F0 m 100 ls [.int (nI (10 * nu + 6)), .ref (ad 142)]) (by rw [show (nI (10 * nu)) + (6 : Int32) = nI (10 * nu + 6) from nI_add (10 * nu) 6]) ?_
        refine lv_sipush (v := 1000) S.1 S.2.1 d_MD_unit_100 (by decide) ?_
        obtain ⟨s_10, hs_10⟩ : ∃ z : Nat → Nat → Int32, z = up2 s_8 142 (10 * nu + 6) 1000 := ⟨_, rfl⟩
        refine g_ias S hO (fun _ h => h) (by decide) (sh_142 G ad _ _) (vp_in_nI (show 10 * nu + 6 < 400 by omega) (by decide)) (E2 := enc G ad s_10 τ) (by rw [hs_10, nI_clamp (show 10 * nu + 6 < 2 ^ 31 by omega)]; exact enc_i (sh_142 G ad _ _)) d_MD_unit_103 (fun H locs hO => ?_)
        refine lv_aload_n S.1 S.2.1 d_MD_unit_104 rfl (lv_at hl 0 rfl) ?_
        refine lv_aload_n S.1 S.2.1 d_MD_unit_105 rfl (lv_at hl 0 rfl) ?_
        refine g_get S hO fl_MD_83 (by decide) (sh_140 G ad _ _) (v := .int (s_10 140 2)) rfl d_MD_unit_106 ?_
        refine W.eq (g2 := F0 m 109 ls [.int (nI nu), .ref (ad 140)]) (by rw [show s_10 140 2 = nI nu from (by simp [hs_10, hs_8, hs_5, hs_2, up2_at, hmu, lyS])]) ?_
        refine lv_bipush (v := 7) S.1 S.2.1 d_MD_unit_109 (by decide) ?_
        refine lv_iconst (v := 0) S.1 S.2.1 d_MD_unit_111 (by decide) ?_
        refine lv_iconst (v := 0) S.1 S.2.1 d_MD_unit_112 (by decide) ?_
        refine lv_sipush (v := 1000) S.1 S.2.1 d_MD_unit_113 (by decide) ?_
        refine g_VI (As := [.int (nI nu), .int 7, .int 0, .int 0, .int 1000]) (rest := []) S hO (fun _ h => h) (k_MD_lay l G ad s_10 τ nu 7 (by omega) (by omega) 0 0 1000) cw_MD_86 (by decide) (sh_140 G ad _ _) rfl rfl hl.1 (Nat.le_of_ble_eq_true rfl) ⟨(Nat.le_of_ble_eq_true rfl), (Nat.le_of_ble_eq_true rfl)⟩ ⟨(Nat.le_of_ble_eq_true rfl), (Nat.le_of_ble_eq_true rfl)⟩ d_MD_unit_116 (fun q x ce H locs h9 => h9.elim) (fun v E1 H locs v_11 hO => ?_)
        obtain ⟨s_12, t_13, rfl, rfl, hs_12, ht_13⟩ := v_11
        rw [ht_13] at hO
        refine W.eq (g2 := F0 m 119 ls []) rfl ?_
        refine lv_aload_n S.1 S.2.1 d_MD_unit_119 rfl (lv_at hl 0 rfl) ?_
        refine g_get S hO fl_MD_16 (by decide) (sh_140 G ad _ _) (v := .ref (ad 143)) rfl d_MD_unit_120 ?_
        refine lv_aload_n S.1 S.2.1 d_MD_unit_123 rfl (lv_at hl 0 rfl) ?_
        refine g_get S hO fl_MD_83 (by decide) (sh_140 G ad _ _) (v := .int (s_12 140 2)) rfl d_MD_unit_124 ?_
        refine W.eq (g2 := F0 m 127 ls [.int (nI nu), .ref (ad 143)]) (by rw [show s_12 140 2 = nI nu from (by simp [hs_12, hs_10, hs_8, hs_5, hs_2, up2_at, hmu, lyS])]) ?_
        refine lv_iconst (v := (-1)) S.1 S.2.1 d_MD_unit_127 (by decide) ?_
        obtain ⟨s_14, hs_14⟩ : ∃ z : Nat → Nat → Int32, z = up2 s_12 143 nu (-1) := ⟨_, rfl⟩
        refine g_ias S hO (fun _ h => h) (by decide) (sh_143 G ad _ _) (vp_in_nI (show nu < 40 by omega) (by decide)) (E2 := enc G ad s_14 τ) (by rw [hs_14, nI_clamp (show nu < 2 ^ 31 by omega)]; exact enc_i (sh_143 G ad _ _)) d_MD_unit_128 (fun H locs hO => ?_)
        refine lv_aload_n S.1 S.2.1 d_MD_unit_129 rfl (lv_at hl 0 rfl) ?_
        refine lv_dup S.1 S.2.1 d_MD_unit_130 rfl ?_
        refine g_get S hO fl_MD_83 (by decide) (sh_140 G ad _ _) (v := .int (s_14 140 2)) rfl d_MD_unit_131 ?_
        refine W.eq (g2 := F0 m 134 ls [.int (nI nu), .ref (ad 140)]) (by rw [show s_14 140 2 = nI nu from (by simp [hs_14, hs_12, hs_10, hs_8, hs_5, hs_2, up2_at, hmu, lyS])]) ?_
        refine lv_iconst (v := 1) S.1 S.2.1 d_MD_unit_134 (by decide) ?_
        refine lv_iadd S.1 S.2.1 d_MD_unit_135 ?_
        refine W.eq (g2 := F0 m 136 ls [.int (nI (nu + 1)), .ref (ad 140)]) (by rw [show (nI nu) + (1 : Int32) = nI (nu + 1) from nI_add nu 1]) ?_
        obtain ⟨s_15, hs_15⟩ : ∃ z : Nat → Nat → Int32, z = up2 s_14 140 2 (nI (nu + 1)) := ⟨_, rfl⟩
        refine g_put S hO (fun _ h => h) fp_MD_83 (by decide) (sh_140 G ad _ _) (v := .int (nI (nu + 1))) rfl rfl (Nat.le_of_ble_eq_true rfl) (E2 := enc G ad s_15 τ) (by rw [hs_15]; exact enc_i (sh_140 G ad _ _)) d_MD_unit_136 (fun H locs hO => ?_)
        refine lv_aload_n S.1 S.2.1 d_MD_unit_139 rfl (lv_at hl 0 rfl) ?_
        refine g_get S hO fl_MD_83 (by decide) (sh_140 G ad _ _) (v := .int (s_15 140 2)) rfl d_MD_unit_140 ?_
        refine W.eq (g2 := F0 m 143 ls [.int (nI (nu + 1))]) (by rw [show s_15 140 2 = nI (nu + 1) from (by simp [hs_15, hs_14, hs_12, hs_10, hs_8, hs_5, hs_2, up2_at, lyS])]) ?_
        refine lv_iconst (v := 1) S.1 S.2.1 d_MD_unit_143 (by decide) ?_
        refine lv_isub S.1 S.2.1 d_MD_unit_144 ?_
        refine W.eq (g2 := F0 m 145 ls [.int (nI nu)]) (by rw [show (nI (nu + 1)) - (1 : Int32) = nI nu from nI_pred nu]) ?_
        subst hs_15
        subst hs_14
        subst hs_12
        subst hs_10
        subst hs_8
        subst hs_5
        subst hs_2
        exact im_i S hk hr hO ⟨by rw [q_54]; rfl, by rw [mUn, q_54]; rfl, rfl⟩ (Nat.le_of_ble_eq_true rfl) (Nat.le_of_ble_eq_true rfl) d_MD_unit_145
      · skip
        have q_54 : ((bdU a b d) || (decide (nI nu = 40))) = true := b_1 c_54
        refine lv_iconst (v := 0) S.1 S.2.1 d_MD_unit_57 (by decide) ?_
        subst hs_2
        exact im_i S hk hr hO ⟨by rw [if_pos q_54], by rw [mUn, if_pos q_54], rfl⟩ (Nat.le_of_ble_eq_true rfl) (Nat.le_of_ble_eq_true rfl) d_MD_unit_58
    refine lv_aload_n S.1 S.2.1 d_MD_unit_36 rfl (lv_at hl 0 rfl) ?_
    refine g_get S hO fl_MD_83 (by decide) (sh_140 G ad _ _) (v := .int (σ 140 2)) rfl d_MD_unit_37 ?_
    refine W.eq (g2 := F0 m 40 ls [.int (nI nu), .int (bI (bdU a b d)), .ref (ad 140)]) (by rw [show σ 140 2 = nI nu from hmu]) ?_
    refine lv_bipush (v := 40) S.1 S.2.1 d_MD_unit_40 (by decide) ?_
    refine lv_icmp_ne (tgt := 49) S.1 S.2.1 d_MD_unit_42 (by decide) (fun c_42 => ?_) (fun c_42 => ?_)
    · skip
      refine lv_iconst (v := 0) S.1 S.2.1 d_MD_unit_49 (by decide) ?_
      exact J_50 _ (by simp [bI, c_42]) _ _ hO ls (lv_sub hl [0, 1, 2, 3] rfl)
    · skip
      refine lv_iconst (v := 1) S.1 S.2.1 d_MD_unit_45 (by decide) ?_
      refine lv_goto (tgt := 50) S.1 S.2.1 d_MD_unit_46 (by decide) ?_
      exact J_50 _ (by simp [bI, c_42]) _ _ hO ls (lv_sub hl [0, 1, 2, 3] rfl)
  refine lv_iload_n S.1 S.2.1 d_MD_unit_1 rfl (lv_at hl 1 rfl) ?_
  refine lv_iconst (v := 0) S.1 S.2.1 d_MD_unit_2 (by decide) ?_
  refine lv_bipush (v := 99) S.1 S.2.1 d_MD_unit_3 (by decide) ?_
  refine g_SP (As := [.int a, .int 0, .int 99]) (rest := [.ref (ad 140)]) S hO (k_MD_in l G ad σ τ a 0 99) cw_MD_67 g_cfC hl.1 (Nat.le_of_ble_eq_true rfl) ⟨(Nat.le_of_ble_eq_true rfl), (Nat.le_of_ble_eq_true rfl)⟩ ⟨(Nat.le_of_ble_eq_true rfl), (Nat.le_of_ble_eq_true rfl)⟩ d_MD_unit_5 (fun q x ce H h9 => h9.elim) (fun v H v_16 hO => ?_)
  subst v_16
  refine W.eq (g2 := F0 m 8 ls [.int (bI (inB a 0 99)), .ref (ad 140)]) rfl ?_
  refine lv_if_eq (tgt := 31) S.1 S.2.1 d_MD_unit_8 (by decide) (fun c_8 => ?_) (fun c_8 => ?_)
  · skip
    have q_8 : (inB a 0 99) = false := b_0 c_8
    refine lv_iconst (v := 1) S.1 S.2.1 d_MD_unit_31 (by decide) ?_
    refine lv_goto (tgt := 36) S.1 S.2.1 d_MD_unit_32 (by decide) ?_
    exact J_36 _ (by simp [bI, bdU, q_8]) _ _ hO ls (lv_sub hl [0, 1, 2, 3] rfl)
  · skip
    have q_8 : (inB a 0 99) = true := b_1 c_8
    refine lv_iload_n S.1 S.2.1 d_MD_unit_11 rfl (lv_at hl 2 rfl) ?_
    refine lv_iconst (v := 0) S.1 S.2.1 d_MD_unit_12 (by decide) ?_
    refine lv_bipush (v := 99) S.1 S.2.1 d_MD_unit_13 (by decide) ?_
    refine g_SP (As := [.int b, .int 0, .int 99]) (rest := [.ref (ad 140)]) S hO (k_MD_in l G ad σ τ b 0 99) cw_MD_67 g_cfC hl.1 (Nat.le_of_ble_eq_true rfl) ⟨(Nat.le_of_ble_eq_true rfl), (Nat.le_of_ble_eq_true rfl)⟩ ⟨(Nat.le_of_ble_eq_true rfl), (Nat.le_of_ble_eq_true rfl)⟩ d_MD_unit_15 (fun q x ce H h9 => h9.elim) (fun v H v_17 hO => ?_)
    subst v_17
    refine W.eq (g2 := F0 m 18 ls [.int (bI (inB b 0 99)), .ref (ad 140)]) rfl ?_
    refine lv_if_eq (tgt := 31) S.1 S.2.1 d_MD_unit_18 (by decide) (fun c_18 => ?_) (fun c_18 => ?_)
    · skip
      have q_18 : (inB b 0 99) = false := b_0 c_18
      refine lv_iconst (v := 1) S.1 S.2.1 d_MD_unit_31 (by decide) ?_
      refine lv_goto (tgt := 36) S.1 S.2.1 d_MD_unit_32 (by decide) ?_
      exact J_36 _ (by simp [bI, bdU, q_8, q_18]) _ _ hO ls (lv_sub hl [0, 1, 2, 3] rfl)
    · skip
      have q_18 : (inB b 0 99) = true := b_1 c_18
      refine lv_iload_n S.1 S.2.1 d_MD_unit_21 rfl (lv_at hl 3 rfl) ?_
      refine lv_iconst (v := 0) S.1 S.2.1 d_MD_unit_22 (by decide) ?_
      refine lv_bipush (v := 7) S.1 S.2.1 d_MD_unit_23 (by decide) ?_
      refine g_SP (As := [.int d, .int 0, .int 7]) (rest := [.ref (ad 140)]) S hO (k_MD_in l G ad σ τ d 0 7) cw_MD_67 g_cfC hl.1 (Nat.le_of_ble_eq_true rfl) ⟨(Nat.le_of_ble_eq_true rfl), (Nat.le_of_ble_eq_true rfl)⟩ ⟨(Nat.le_of_ble_eq_true rfl), (Nat.le_of_ble_eq_true rfl)⟩ d_MD_unit_25 (fun q x ce H h9 => h9.elim) (fun v H v_18 hO => ?_)
      subst v_18
      refine W.eq (g2 := F0 m 28 ls [.int (bI (inB d 0 7)), .ref (ad 140)]) rfl ?_
      refine lv_if_ne (tgt := 35) S.1 S.2.1 d_MD_unit_28 (by decide) (fun c_28 => ?_) (fun c_28 => ?_)
      · skip
        have q_28 : (inB d 0 7) = true := b_1 c_28
        refine lv_iconst (v := 0) S.1 S.2.1 d_MD_unit_35 (by decide) ?_
        exact J_36 _ (by simp [bI, bdU, q_8, q_18, q_28]) _ _ hO ls (lv_sub hl [0, 1, 2, 3] rfl)
      · skip
        have q_28 : (inB d 0 7) = false := b_0 c_28
        refine lv_iconst (v := 1) S.1 S.2.1 d_MD_unit_31 (by decide) ?_
        refine lv_goto (tgt := 36) S.1 S.2.1 d_MD_unit_32 (by decide) ?_
        exact J_36 _ (by simp [bI, bdU, q_8, q_18, q_28]) _ _ hO ls (lv_sub hl [0, 1, 2, 3] rfl)
def unB (nu : Nat) (a : Int32) : Bool := inB a 0 (nI nu - 1)
theorem unB_n {nu : Nat} {a : Int32} (hn : nu < 2 ^ 31) (h : unB nu a = true) : ∃ u : Nat, u < nu ∧ a = nI u := by
  cases nu with
  | zero =>
    exfalso
    simp only [unB, inB, Bool.and_eq_true, decide_eq_true_eq] at h
    have h2 := Int32.le_trans h.1 h.2
    exact absurd h2 (by decide)
  | succ n =>
    rw [unB, nI_pred] at h
    simp only [inB, Bool.and_eq_true, decide_eq_true_eq] at h
    obtain ⟨j, h1, rfl⟩ := nI_of (Int32.not_lt.mpr h.1)
    exact ⟨j, by have := (nI_leI h1 (by omega)).mp h.2; omega, rfl⟩
theorem unB_of {nu u : Nat} (hn : nu < 2 ^ 31) (h : u < nu) : unB nu (nI u) = true := by
  obtain ⟨n, rfl⟩ : ∃ n, nu = n + 1 := ⟨nu - 1, by omega⟩
  rw [unB, nI_pred]
  simp only [inB, Bool.and_eq_true, decide_eq_true_eq]
  exact ⟨nI_pos' (by omega), nI_le (by omega) (by omega)⟩
set_option maxHeartbeats 4000000 in
set_option maxRecDepth 100000 in
theorem k_MD_isUnit (l : Launch) (G : gP) (ad : Nat → Nat) (σ : Nat → Nat → Int32) (τ : Nat → Nat → Int64) (a : Int32) (nu : Nat) (hmu : σ 140 2 = nI nu) : gpu l y_MD_isUnit c_MD_isUnit 2 (some .boolean) { frames := 1, cells := 0, slots := 0, locals := 22 } G ad σ τ [.ref (ad 140), .int a] 0 0 (fun v => v = some (.int (bI (unB nu a)))) (fun _ => False) := by
  refine gs_of (fun _ h => h.elim) (by decide) (Nat.le_of_ble_eq_true rfl) ?_
  intro p e s m args below meth c ls S hk hr hx hl hO
  have hl : lv_has ls 2 [(0, .ref (ad 140)), (1, .int a)] := hl
  refine lv_iload_n S.1 S.2.1 d_MD_isUnit_0 rfl (lv_at hl 1 rfl) ?_
  refine lv_iconst (v := 0) S.1 S.2.1 d_MD_isUnit_1 (by decide) ?_
  refine lv_aload_n S.1 S.2.1 d_MD_isUnit_2 rfl (lv_at hl 0 rfl) ?_
  refine g_get S hO fl_MD_83 (by decide) (sh_140 G ad _ _) (v := .int (σ 140 2)) rfl d_MD_isUnit_3 ?_
  refine W.eq (g2 := F0 m 6 ls [.int (nI nu), .int 0, .int a]) (by rw [show σ 140 2 = nI nu from hmu]) ?_
  refine lv_iconst (v := 1) S.1 S.2.1 d_MD_isUnit_6 (by decide) ?_
  refine lv_isub S.1 S.2.1 d_MD_isUnit_7 ?_
  refine g_SP (As := [.int a, .int 0, .int ((nI nu) - 1)]) (rest := []) S hO (k_MD_in l G ad σ τ a 0 ((nI nu) - 1)) cw_MD_67 g_cfC hl.1 (Nat.le_of_ble_eq_true rfl) ⟨(Nat.le_of_ble_eq_true rfl), (Nat.le_of_ble_eq_true rfl)⟩ ⟨(Nat.le_of_ble_eq_true rfl), (Nat.le_of_ble_eq_true rfl)⟩ d_MD_isUnit_8 (fun q x ce H h9 => h9.elim) (fun v H v_1 hO => ?_)
  subst v_1
  refine W.eq (g2 := F0 m 11 ls [.int (bI (inB a 0 ((nI nu) - 1)))]) rfl ?_
  exact pu_z S hk hr hO (by first | exact Or.inl rfl | exact Or.inr rfl | exact b_01) (by rfl) (Nat.le_of_ble_eq_true rfl) (Nat.le_of_ble_eq_true rfl) d_MD_isUnit_11
/-- it stands somewhere -/
def sdB (σ : Nat → Nat → Int32) (nu : Nat) (a : Int32) : Bool := unB nu a && !decide (σ 143 a.toNatClampNeg < 0)
def bdS (b d f g : Int32) : Bool := !szB b d f || !inB g 1 1000000
def mSz (σ : Nat → Nat → Int32) (nu : Nat) (a b d f g : Int32) : Nat → Nat → Int32 := if (!unB nu a || bdS b d f g || sdB σ nu a) = true then up2 σ 140 0 (fcd (!unB nu a) (bdS b d f g) (sdB σ nu a)) else up2 (lyS (up2 σ 140 0 (fcd (!unB nu a) (bdS b d f g) (sdB σ nu a))) a.toNatClampNeg 3 b d f) 142 (10 * a.toNatClampNeg + 6) g
def bdN (b d f : Int32) : Bool := !inB b 0 7 || !inB d 0 7 || !inB f 0 1000
def mNt (σ : Nat → Nat → Int32) (nu : Nat) (a b d f : Int32) : Nat → Nat → Int32 := if (!unB nu a || bdN b d f || sdB σ nu a) = true then up2 σ 140 0 (fcd (!unB nu a) (bdN b d f) (sdB σ nu a)) else lyS (up2 σ 140 0 (fcd (!unB nu a) (bdN b d f) (sdB σ nu a))) a.toNatClampNeg 7 b d f
theorem or3_1 {a b c : Bool} (h : (!a || b || c) = false) : a = true := by
  cases a with
  | false => simp at h
  | true => rfl
theorem or2_1 {a b : Bool} (h : (!a || b) = false) : a = true := by
  cases a with
  | false => simp at h
  | true => rfl
set_option maxHeartbeats 4000000 in
set_option maxRecDepth 100000 in
theorem k_MD_size (l : Launch) (G : gP) (ad : Nat → Nat) (σ : Nat → Nat → Int32) (τ : Nat → Nat → Int64) (a b d f g : Int32) (nu : Nat) (hmu : σ 140 2 = nI nu) (hn4 : nu ≤ 40) : gim l y_MD_size c_MD_size 7 none { frames := 2, cells := 0, slots := 0, locals := 44 } G ad σ τ [.ref (ad 140), .int a, .int b, .int d, .int f, .int g] 0 0 (fun v σ1 τ1 => v = none ∧ σ1 = mSz σ nu a b d f g ∧ τ1 = τ) (fun _ => False) := by
  refine gs_of (fun _ h => h) (by decide) (Nat.le_of_ble_eq_true rfl) ?_
  intro p e s m args below meth c ls S hk hr hx hl hO
  have hl : lv_has ls 7 [(0, .ref (ad 140)), (1, .int a), (2, .int b), (3, .int d), (4, .int f), (5, .int g)] := hl
  have J_26 : ∀ (z : Int32), z = (bI (bdS b d f g)) → ∀ (H : Heap) (locs : List Loc), gO G (gA G) 159 ad (enc G ad σ τ) s H locs → ∀ ls : Array Slot, lv_has ls 7 [(0, .ref (ad 140)), (1, .int a), (2, .int b), (3, .int d), (4, .int f), (5, .int g)] → W p l e { frames := 2, cells := 0, slots := 0, locals := 44 } s m args below meth c H locs 0 0 (gM below (gA G) 0 0 (fun v t => ∃ E1, (∃ σ1 τ1, E1 = enc G ad σ1 τ1 ∧ (fun v σ1 τ1 => v = none ∧ σ1 = mSz σ nu a b d f g ∧ τ1 = τ) v σ1 τ1) ∧ va_P G.1 gcl (gw 159 ad E1) t.heap) (fun x t => (fun _ => False) x ∧ va_P G.1 gcl (gw 159 ad (enc G ad σ τ)) t.heap) args s) (F0 m 26 ls (.int z :: [])) := by
    intro z ez H locs hO ls hl
    subst ez
    refine lv_istore (lv' := [(6, .int (bI (bdS b d f g))), (0, .ref (ad 140)), (1, .int a), (2, .int b), (3, .int d), (4, .int f), (5, .int g)]) S.1 S.2.1 d_MD_size_26 hl (by decide) rfl (fun ls hl => ?_)
    refine lv_aload_n S.1 S.2.1 d_MD_size_28 rfl (lv_at hl 1 rfl) ?_
    have J_42 : ∀ (z : Int32), z = (bI (!unB nu a)) → ∀ (H : Heap) (locs : List Loc), gO G (gA G) 159 ad (enc G ad σ τ) s H locs → ∀ ls : Array Slot, lv_has ls 7 [(6, .int (bI (bdS b d f g))), (0, .ref (ad 140)), (1, .int a), (2, .int b), (3, .int d), (4, .int f), (5, .int g)] → W p l e { frames := 2, cells := 0, slots := 0, locals := 44 } s m args below meth c H locs 0 0 (gM below (gA G) 0 0 (fun v t => ∃ E1, (∃ σ1 τ1, E1 = enc G ad σ1 τ1 ∧ (fun v σ1 τ1 => v = none ∧ σ1 = mSz σ nu a b d f g ∧ τ1 = τ) v σ1 τ1) ∧ va_P G.1 gcl (gw 159 ad E1) t.heap) (fun x t => (fun _ => False) x ∧ va_P G.1 gcl (gw 159 ad (enc G ad σ τ)) t.heap) args s) (F0 m 42 ls (.int z :: [.ref (ad 140)])) := by
      intro z ez H locs hO ls hl
      subst ez
      refine lv_iload S.1 S.2.1 d_MD_size_42 (lv_at hl 0 rfl) ?_
      have J_66 : ∀ (z : Int32), z = (bI (sdB σ nu a)) → ∀ (H : Heap) (locs : List Loc), gO G (gA G) 159 ad (enc G ad σ τ) s H locs → ∀ ls : Array Slot, lv_has ls 7 [(6, .int (bI (bdS b d f g))), (0, .ref (ad 140)), (1, .int a), (2, .int b), (3, .int d), (4, .int f), (5, .int g)] → W p l e { frames := 2, cells := 0, slots := 0, locals := 44 } s m args below meth c H locs 0 0 (gM below (gA G) 0 0 (fun v t => ∃ E1, (∃ σ1 τ1, E1 = enc G ad σ1 τ1 ∧ (fun v σ1 τ1 => v = none ∧ σ1 = mSz σ nu a b d f g ∧ τ1 = τ) v σ1 τ1) ∧ va_P G.1 gcl (gw 159 ad E1) t.heap) (fun x t => (fun _ => False) x ∧ va_P G.1 gcl (gw 159 ad (enc G ad σ τ)) t.heap) args s) (F0 m 66 ls (.int z :: [.int (bI (bdS b d f g)), .int (bI (!unB nu a)), .ref (ad 140)])) := by
        intro z ez H locs hO ls hl
        subst ez
        refine g_VI (As := [.int (bI (!unB nu a)), .int (bI (bdS b d f g)), .int (bI (sdB σ nu a))]) (rest := []) S hO (fun _ h => h) (k_MD_fails l G ad σ τ (!unB nu a) (bdS b d f g) (sdB σ nu a)) cw_MD_78 (by decide) (sh_140 G ad _ _) rfl rfl hl.1 (Nat.le_of_ble_eq_true rfl) ⟨(Nat.le_of_ble_eq_true rfl), (Nat.le_of_ble_eq_true rfl)⟩ ⟨(Nat.le_of_ble_eq_true rfl), (Nat.le_of_ble_eq_true rfl)⟩ d_MD_size_66 (fun q x ce H locs h9 => h9.elim) (fun v E1 H locs v_1 hO => ?_)
        obtain ⟨s_2, t_3, rfl, rfl, hs_2, ht_3⟩ := v_1
        rw [ht_3] at hO
        refine W.eq (g2 := F0 m 69 ls [.int (bI ((!unB nu a) || (bdS b d f g) || (sdB σ nu a)))]) rfl ?_
        refine lv_if_ne (tgt := 96) S.1 S.2.1 d_MD_size_69 (by decide) (fun c_69 => ?_) (fun c_69 => ?_)
        · skip
          have q_69 : ((!unB nu a) || (bdS b d f g) || (sdB σ nu a)) = true := b_1 c_69
          subst hs_2
          exact im_v S hk hr hO ⟨rfl, by rw [mSz, if_pos q_69], rfl⟩ (Nat.le_of_ble_eq_true rfl) (Nat.le_of_ble_eq_true rfl) d_MD_size_96
        · skip
          have q_69 : ((!unB nu a) || (bdS b d f g) || (sdB σ nu a)) = false := b_0 c_69
          obtain ⟨u, hu, rfl⟩ := unB_n (by omega) (or3_1 q_69)
          refine lv_aload_n S.1 S.2.1 d_MD_size_72 rfl (lv_at hl 1 rfl) ?_
          refine lv_iload_n S.1 S.2.1 d_MD_size_73 rfl (lv_at hl 2 rfl) ?_
          refine lv_iconst (v := 3) S.1 S.2.1 d_MD_size_74 (by decide) ?_
          refine lv_iload_n S.1 S.2.1 d_MD_size_75 rfl (lv_at hl 3 rfl) ?_
          refine lv_iload_n S.1 S.2.1 d_MD_size_76 rfl (lv_at hl 4 rfl) ?_
          refine lv_iload S.1 S.2.1 d_MD_size_77 (lv_at hl 5 rfl) ?_
          refine g_VI (As := [.int (nI u), .int 3, .int b, .int d, .int f]) (rest := []) S hO (fun _ h => h) (k_MD_lay l G ad s_2 τ u 3 (by omega) (by omega) b d f) cw_MD_86 (by decide) (sh_140 G ad _ _) rfl rfl hl.1 (Nat.le_of_ble_eq_true rfl) ⟨(Nat.le_of_ble_eq_true rfl), (Nat.le_of_ble_eq_true rfl)⟩ ⟨(Nat.le_of_ble_eq_true rfl), (Nat.le_of_ble_eq_true rfl)⟩ d_MD_size_79 (fun q x ce H locs h9 => h9.elim) (fun v E1 H locs v_4 hO => ?_)
          obtain ⟨s_5, t_6, rfl, rfl, hs_5, ht_6⟩ := v_4
          rw [ht_6] at hO
          refine W.eq (g2 := F0 m 82 ls []) rfl ?_
          refine lv_aload_n S.1 S.2.1 d_MD_size_82 rfl (lv_at hl 1 rfl) ?_
          refine g_get S hO fl_MD_13 (by decide) (sh_140 G ad _ _) (v := .ref (ad 142)) rfl d_MD_size_83 ?_
          refine lv_bipush (v := 10) S.1 S.2.1 d_MD_size_86 (by decide) ?_
          refine lv_iload_n S.1 S.2.1 d_MD_size_88 rfl (lv_at hl 2 rfl) ?_
          refine lv_imul S.1 S.2.1 d_MD_size_89 ?_
          refine W.eq (g2 := F0 m 90 ls [.int (nI (10 * u)), .ref (ad 142)]) (by rw [show (10 : Int32) * (nI u) = nI (10 * u) from pk_mul 10 u]) ?_
          refine lv_bipush (v := 6) S.1 S.2.1 d_MD_size_90 (by decide) ?_
          refine lv_iadd S.1 S.2.1 d_MD_size_92 ?_
          refine W.eq (g2 := F0 m 93 ls [.int (nI (10 * u + 6)), .ref (ad 142)]) (by rw [show (nI (10 * u)) + (6 : Int32) = nI (10 * u + 6) from nI_add (10 * u) 6]) ?_
          refine lv_iload S.1 S.2.1 d_MD_size_93 (lv_at hl 6 rfl) ?_
          obtain ⟨s_7, hs_7⟩ : ∃ z : Nat → Nat → Int32, z = up2 s_5 142 (10 * u + 6) g := ⟨_, rfl⟩
          refine g_ias S hO (fun _ h => h) (by decide) (sh_142 G ad _ _) (vp_in_nI (show 10 * u + 6 < 400 by omega) (by decide)) (E2 := enc G ad s_7 τ) (by rw [hs_7, nI_clamp (show 10 * u + 6 < 2 ^ 31 by omega)]; exact enc_i (sh_142 G ad _ _)) d_MD_size_95 (fun H locs hO => ?_)
          subst hs_7
          subst hs_5
          subst hs_2
          exact im_v S hk hr hO ⟨rfl, by rw [mSz, q_69, nI_clamp (show u < 2 ^ 31 by omega)]; rfl, rfl⟩ (Nat.le_of_ble_eq_true rfl) (Nat.le_of_ble_eq_true rfl) d_MD_size_96
      refine lv_aload_n S.1 S.2.1 d_MD_size_44 rfl (lv_at hl 1 rfl) ?_
      refine lv_iload_n S.1 S.2.1 d_MD_size_45 rfl (lv_at hl 2 rfl) ?_
      refine g_VP (As := [.int a]) (rest := [.int (bI (bdS b d f g)), .int (bI (!unB nu a)), .ref (ad 140)]) S hO (k_MD_isUnit l G ad σ τ a nu hmu) cw_MD_91 (by decide) (sh_140 G ad _ _) rfl rfl hl.1 (Nat.le_of_ble_eq_true rfl) ⟨(Nat.le_of_ble_eq_true rfl), (Nat.le_of_ble_eq_true rfl)⟩ ⟨(Nat.le_of_ble_eq_true rfl), (Nat.le_of_ble_eq_true rfl)⟩ d_MD_size_46 (fun q x ce H h9 => h9.elim) (fun v H v_8 hO => ?_)
      subst v_8
      refine W.eq (g2 := F0 m 49 ls [.int (bI (unB nu a)), .int (bI (bdS b d f g)), .int (bI (!unB nu a)), .ref (ad 140)]) rfl ?_
      refine lv_if_eq (tgt := 65) S.1 S.2.1 d_MD_size_49 (by decide) (fun c_49 => ?_) (fun c_49 => ?_)
      · skip
        have q_49 : (unB nu a) = false := b_0 c_49
        refine lv_iconst (v := 0) S.1 S.2.1 d_MD_size_65 (by decide) ?_
        exact J_66 _ (by simp [bI, sdB, q_49]) _ _ hO ls (lv_sub hl [0, 1, 2, 3, 4, 5, 6] rfl)
      · skip
        have q_49 : (unB nu a) = true := b_1 c_49
        obtain ⟨u, hu, rfl⟩ := unB_n (by omega) q_49
        refine lv_aload_n S.1 S.2.1 d_MD_size_52 rfl (lv_at hl 1 rfl) ?_
        refine g_get S hO fl_MD_16 (by decide) (sh_140 G ad _ _) (v := .ref (ad 143)) rfl d_MD_size_53 ?_
        refine lv_iload_n S.1 S.2.1 d_MD_size_56 rfl (lv_at hl 2 rfl) ?_
        refine g_ial S hO (by decide) (sh_143 G ad _ _) (vp_in_nI (show u < 40 by omega) (by decide)) d_MD_size_57 ?_
        refine W.eq (g2 := F0 m 58 ls [.int (σ 143 u), .int (bI (bdS b d f g)), .int (bI (!unB nu (nI u))), .ref (ad 140)]) (by rw [nI_clamp (show u < 2 ^ 31 by omega)]) ?_
        refine lv_if_lt (tgt := 65) S.1 S.2.1 d_MD_size_58 (by decide) (fun c_58 => ?_) (fun c_58 => ?_)
        · skip
          refine lv_iconst (v := 0) S.1 S.2.1 d_MD_size_65 (by decide) ?_
          exact J_66 _ (by simp [bI, sdB, q_49, nI_clamp (show u < 2 ^ 31 by omega), c_58]; try exact Int32.not_lt.mp c_58) _ _ hO ls (lv_sub hl [0, 1, 2, 3, 4, 5, 6] rfl)
        · skip
          refine lv_iconst (v := 1) S.1 S.2.1 d_MD_size_61 (by decide) ?_
          refine lv_goto (tgt := 66) S.1 S.2.1 d_MD_size_62 (by decide) ?_
          exact J_66 _ (by simp [bI, sdB, q_49, nI_clamp (show u < 2 ^ 31 by omega), c_58]; try exact Int32.not_lt.mp c_58) _ _ hO ls (lv_sub hl [0, 1, 2, 3, 4, 5, 6] rfl)
    refine lv_aload_n S.1 S.2.1 d_MD_size_29 rfl (lv_at hl 1 rfl) ?_
    refine lv_iload_n S.1 S.2.1 d_MD_size_30 rfl (lv_at hl 2 rfl) ?_
    refine g_VP (As := [.int a]) (rest := [.ref (ad 140)]) S hO (k_MD_isUnit l G ad σ τ a nu hmu) cw_MD_91 (by decide) (sh_140 G ad _ _) rfl rfl hl.1 (Nat.le_of_ble_eq_true rfl) ⟨(Nat.le_of_ble_eq_true rfl), (Nat.le_of_ble_eq_true rfl)⟩ ⟨(Nat.le_of_ble_eq_true rfl), (Nat.le_of_ble_eq_true rfl)⟩ d_MD_size_31 (fun q x ce H h9 => h9.elim) (fun v H v_9 hO => ?_)
    subst v_9
    refine W.eq (g2 := F0 m 34 ls [.int (bI (unB nu a)), .ref (ad 140)]) rfl ?_
    refine lv_if_ne (tgt := 41) S.1 S.2.1 d_MD_size_34 (by decide) (fun c_34 => ?_) (fun c_34 => ?_)
    · skip
      have q_34 : (unB nu a) = true := b_1 c_34
      refine lv_iconst (v := 0) S.1 S.2.1 d_MD_size_41 (by decide) ?_
      exact J_42 _ (by simp [bI, q_34]) _ _ hO ls (lv_sub hl [0, 1, 2, 3, 4, 5, 6] rfl)
    · skip
      have q_34 : (unB nu a) = false := b_0 c_34
      refine lv_iconst (v := 1) S.1 S.2.1 d_MD_size_37 (by decide) ?_
      refine lv_goto (tgt := 42) S.1 S.2.1 d_MD_size_38 (by decide) ?_
      exact J_42 _ (by simp [bI, q_34]) _ _ hO ls (lv_sub hl [0, 1, 2, 3, 4, 5, 6] rfl)
  refine lv_iload_n S.1 S.2.1 d_MD_size_0 rfl (lv_at hl 2 rfl) ?_
  refine lv_iload_n S.1 S.2.1 d_MD_size_1 rfl (lv_at hl 3 rfl) ?_
  refine lv_iload S.1 S.2.1 d_MD_size_2 (lv_at hl 4 rfl) ?_
  refine g_SP (As := [.int b, .int d, .int f]) (rest := []) S hO (k_MD_isSize l G ad σ τ b d f) cw_MD_75 g_cfC hl.1 (Nat.le_of_ble_eq_true rfl) ⟨(Nat.le_of_ble_eq_true rfl), (Nat.le_of_ble_eq_true rfl)⟩ ⟨(Nat.le_of_ble_eq_true rfl), (Nat.le_of_ble_eq_true rfl)⟩ d_MD_size_4 (fun q x ce H h9 => h9.elim) (fun v H v_10 hO => ?_)
  subst v_10
  refine W.eq (g2 := F0 m 7 ls [.int (bI (szB b d f))]) rfl ?_
  refine lv_if_eq (tgt := 21) S.1 S.2.1 d_MD_size_7 (by decide) (fun c_7 => ?_) (fun c_7 => ?_)
  · skip
    have q_7 : (szB b d f) = false := b_0 c_7
    refine lv_iconst (v := 1) S.1 S.2.1 d_MD_size_21 (by decide) ?_
    refine lv_goto (tgt := 26) S.1 S.2.1 d_MD_size_22 (by decide) ?_
    exact J_26 _ (by simp [bI, bdS, q_7]) _ _ hO ls (lv_sub hl [0, 1, 2, 3, 4, 5] rfl)
  · skip
    have q_7 : (szB b d f) = true := b_1 c_7
    refine lv_iload S.1 S.2.1 d_MD_size_10 (lv_at hl 5 rfl) ?_
    refine lv_iconst (v := 1) S.1 S.2.1 d_MD_size_12 (by decide) ?_
    refine lv_ldc (v := 1000000) S.1 S.2.1 S.2.2.2.1 (S.2.2.2.2 _ kv_MD_90) d_MD_size_13 ?_
    refine g_SP (As := [.int g, .int 1, .int 1000000]) (rest := []) S hO (k_MD_in l G ad σ τ g 1 1000000) cw_MD_67 g_cfC hl.1 (Nat.le_of_ble_eq_true rfl) ⟨(Nat.le_of_ble_eq_true rfl), (Nat.le_of_ble_eq_true rfl)⟩ ⟨(Nat.le_of_ble_eq_true rfl), (Nat.le_of_ble_eq_true rfl)⟩ d_MD_size_15 (fun q x ce H h9 => h9.elim) (fun v H v_11 hO => ?_)
    subst v_11
    refine W.eq (g2 := F0 m 18 ls [.int (bI (inB g 1 1000000))]) rfl ?_
    refine lv_if_ne (tgt := 25) S.1 S.2.1 d_MD_size_18 (by decide) (fun c_18 => ?_) (fun c_18 => ?_)
    · skip
      have q_18 : (inB g 1 1000000) = true := b_1 c_18
      refine lv_iconst (v := 0) S.1 S.2.1 d_MD_size_25 (by decide) ?_
      exact J_26 _ (by simp [bI, bdS, q_7, q_18]) _ _ hO ls (lv_sub hl [0, 1, 2, 3, 4, 5] rfl)
    · skip
      have q_18 : (inB g 1 1000000) = false := b_0 c_18
      refine lv_iconst (v := 1) S.1 S.2.1 d_MD_size_21 (by decide) ?_
      refine lv_goto (tgt := 26) S.1 S.2.1 d_MD_size_22 (by decide) ?_
      exact J_26 _ (by simp [bI, bdS, q_7, q_18]) _ _ hO ls (lv_sub hl [0, 1, 2, 3, 4, 5] rfl)
set_option maxHeartbeats 4000000 in
set_option maxRecDepth 100000 in
theorem k_MD_nature (l : Launch) (G : gP) (ad : Nat → Nat) (σ : Nat → Nat → Int32) (τ : Nat → Nat → Int64) (a b d f : Int32) (nu : Nat) (hmu : σ 140 2 = nI nu) (hn4 : nu ≤ 40) : gim l y_MD_nature c_MD_nature 6 none { frames := 2, cells := 0, slots := 0, locals := 43 } G ad σ τ [.ref (ad 140), .int a, .int b, .int d, .int f] 0 0 (fun v σ1 τ1 => v = none ∧ σ1 = mNt σ nu a b d f ∧ τ1 = τ) (fun _ => False) := by
  refine gs_of (fun _ h => h) (by decide) (Nat.le_of_ble_eq_true rfl) ?_
  intro p e s m args below meth c ls S hk hr hx hl hO
  have hl : lv_has ls 6 [(0, .ref (ad 140)), (1, .int a), (2, .int b), (3, .int d), (4, .int f)] := hl
  have J_37 : ∀ (z : Int32), z = (bI (bdN b d f)) → ∀ (H : Heap) (locs : List Loc), gO G (gA G) 159 ad (enc G ad σ τ) s H locs → ∀ ls : Array Slot, lv_has ls 6 [(0, .ref (ad 140)), (1, .int a), (2, .int b), (3, .int d), (4, .int f)] → W p l e { frames := 2, cells := 0, slots := 0, locals := 43 } s m args below meth c H locs 0 0 (gM below (gA G) 0 0 (fun v t => ∃ E1, (∃ σ1 τ1, E1 = enc G ad σ1 τ1 ∧ (fun v σ1 τ1 => v = none ∧ σ1 = mNt σ nu a b d f ∧ τ1 = τ) v σ1 τ1) ∧ va_P G.1 gcl (gw 159 ad E1) t.heap) (fun x t => (fun _ => False) x ∧ va_P G.1 gcl (gw 159 ad (enc G ad σ τ)) t.heap) args s) (F0 m 37 ls (.int z :: [])) := by
    intro z ez H locs hO ls hl
    subst ez
    refine lv_istore (lv' := [(5, .int (bI (bdN b d f))), (0, .ref (ad 140)), (1, .int a), (2, .int b), (3, .int d), (4, .int f)]) S.1 S.2.1 d_MD_nature_37 hl (by decide) rfl (fun ls hl => ?_)
    refine lv_aload_n S.1 S.2.1 d_MD_nature_39 rfl (lv_at hl 1 rfl) ?_
    have J_53 : ∀ (z : Int32), z = (bI (!unB nu a)) → ∀ (H : Heap) (locs : List Loc), gO G (gA G) 159 ad (enc G ad σ τ) s H locs → ∀ ls : Array Slot, lv_has ls 6 [(5, .int (bI (bdN b d f))), (0, .ref (ad 140)), (1, .int a), (2, .int b), (3, .int d), (4, .int f)] → W p l e { frames := 2, cells := 0, slots := 0, locals := 43 } s m args below meth c H locs 0 0 (gM below (gA G) 0 0 (fun v t => ∃ E1, (∃ σ1 τ1, E1 = enc G ad σ1 τ1 ∧ (fun v σ1 τ1 => v = none ∧ σ1 = mNt σ nu a b d f ∧ τ1 = τ) v σ1 τ1) ∧ va_P G.1 gcl (gw 159 ad E1) t.heap) (fun x t => (fun _ => False) x ∧ va_P G.1 gcl (gw 159 ad (enc G ad σ τ)) t.heap) args s) (F0 m 53 ls (.int z :: [.ref (ad 140)])) := by
      intro z ez H locs hO ls hl
      subst ez
      refine lv_iload S.1 S.2.1 d_MD_nature_53 (lv_at hl 0 rfl) ?_
      have J_77 : ∀ (z : Int32), z = (bI (sdB σ nu a)) → ∀ (H : Heap) (locs : List Loc), gO G (gA G) 159 ad (enc G ad σ τ) s H locs → ∀ ls : Array Slot, lv_has ls 6 [(5, .int (bI (bdN b d f))), (0, .ref (ad 140)), (1, .int a), (2, .int b), (3, .int d), (4, .int f)] → W p l e { frames := 2, cells := 0, slots := 0, locals := 43 } s m args below meth c H locs 0 0 (gM below (gA G) 0 0 (fun v t => ∃ E1, (∃ σ1 τ1, E1 = enc G ad σ1 τ1 ∧ (fun v σ1 τ1 => v = none ∧ σ1 = mNt σ nu a b d f ∧ τ1 = τ) v σ1 τ1) ∧ va_P G.1 gcl (gw 159 ad E1) t.heap) (fun x t => (fun _ => False) x ∧ va_P G.1 gcl (gw 159 ad (enc G ad σ τ)) t.heap) args s) (F0 m 77 ls (.int z :: [.int (bI (bdN b d f)), .int (bI (!unB nu a)), .ref (ad 140)])) := by
        intro z ez H locs hO ls hl
        subst ez
        refine g_VI (As := [.int (bI (!unB nu a)), .int (bI (bdN b d f)), .int (bI (sdB σ nu a))]) (rest := []) S hO (fun _ h => h) (k_MD_fails l G ad σ τ (!unB nu a) (bdN b d f) (sdB σ nu a)) cw_MD_78 (by decide) (sh_140 G ad _ _) rfl rfl hl.1 (Nat.le_of_ble_eq_true rfl) ⟨(Nat.le_of_ble_eq_true rfl), (Nat.le_of_ble_eq_true rfl)⟩ ⟨(Nat.le_of_ble_eq_true rfl), (Nat.le_of_ble_eq_true rfl)⟩ d_MD_nature_77 (fun q x ce H locs h9 => h9.elim) (fun v E1 H locs v_1 hO => ?_)
        obtain ⟨s_2, t_3, rfl, rfl, hs_2, ht_3⟩ := v_1
        rw [ht_3] at hO
        refine W.eq (g2 := F0 m 80 ls [.int (bI ((!unB nu a) || (bdN b d f) || (sdB σ nu a)))]) rfl ?_
        refine lv_if_ne (tgt := 94) S.1 S.2.1 d_MD_nature_80 (by decide) (fun c_80 => ?_) (fun c_80 => ?_)
        · skip
          have q_80 : ((!unB nu a) || (bdN b d f) || (sdB σ nu a)) = true := b_1 c_80
          subst hs_2
          exact im_v S hk hr hO ⟨rfl, by rw [mNt, if_pos q_80], rfl⟩ (Nat.le_of_ble_eq_true rfl) (Nat.le_of_ble_eq_true rfl) d_MD_nature_94
        · skip
          have q_80 : ((!unB nu a) || (bdN b d f) || (sdB σ nu a)) = false := b_0 c_80
          obtain ⟨u, hu, rfl⟩ := unB_n (by omega) (or3_1 q_80)
          refine lv_aload_n S.1 S.2.1 d_MD_nature_83 rfl (lv_at hl 1 rfl) ?_
          refine lv_iload_n S.1 S.2.1 d_MD_nature_84 rfl (lv_at hl 2 rfl) ?_
          refine lv_bipush (v := 7) S.1 S.2.1 d_MD_nature_85 (by decide) ?_
          refine lv_iload_n S.1 S.2.1 d_MD_nature_87 rfl (lv_at hl 3 rfl) ?_
          refine lv_iload_n S.1 S.2.1 d_MD_nature_88 rfl (lv_at hl 4 rfl) ?_
          refine lv_iload S.1 S.2.1 d_MD_nature_89 (lv_at hl 5 rfl) ?_
          refine g_VI (As := [.int (nI u), .int 7, .int b, .int d, .int f]) (rest := []) S hO (fun _ h => h) (k_MD_lay l G ad s_2 τ u 7 (by omega) (by omega) b d f) cw_MD_86 (by decide) (sh_140 G ad _ _) rfl rfl hl.1 (Nat.le_of_ble_eq_true rfl) ⟨(Nat.le_of_ble_eq_true rfl), (Nat.le_of_ble_eq_true rfl)⟩ ⟨(Nat.le_of_ble_eq_true rfl), (Nat.le_of_ble_eq_true rfl)⟩ d_MD_nature_91 (fun q x ce H locs h9 => h9.elim) (fun v E1 H locs v_4 hO => ?_)
          obtain ⟨s_5, t_6, rfl, rfl, hs_5, ht_6⟩ := v_4
          rw [ht_6] at hO
          refine W.eq (g2 := F0 m 94 ls []) rfl ?_
          subst hs_5
          subst hs_2
          exact im_v S hk hr hO ⟨rfl, by rw [mNt, q_80, nI_clamp (show u < 2 ^ 31 by omega)]; rfl, rfl⟩ (Nat.le_of_ble_eq_true rfl) (Nat.le_of_ble_eq_true rfl) d_MD_nature_94
      refine lv_aload_n S.1 S.2.1 d_MD_nature_55 rfl (lv_at hl 1 rfl) ?_
      refine lv_iload_n S.1 S.2.1 d_MD_nature_56 rfl (lv_at hl 2 rfl) ?_
      refine g_VP (As := [.int a]) (rest := [.int (bI (bdN b d f)), .int (bI (!unB nu a)), .ref (ad 140)]) S hO (k_MD_isUnit l G ad σ τ a nu hmu) cw_MD_91 (by decide) (sh_140 G ad _ _) rfl rfl hl.1 (Nat.le_of_ble_eq_true rfl) ⟨(Nat.le_of_ble_eq_true rfl), (Nat.le_of_ble_eq_true rfl)⟩ ⟨(Nat.le_of_ble_eq_true rfl), (Nat.le_of_ble_eq_true rfl)⟩ d_MD_nature_57 (fun q x ce H h9 => h9.elim) (fun v H v_7 hO => ?_)
      subst v_7
      refine W.eq (g2 := F0 m 60 ls [.int (bI (unB nu a)), .int (bI (bdN b d f)), .int (bI (!unB nu a)), .ref (ad 140)]) rfl ?_
      refine lv_if_eq (tgt := 76) S.1 S.2.1 d_MD_nature_60 (by decide) (fun c_60 => ?_) (fun c_60 => ?_)
      · skip
        have q_60 : (unB nu a) = false := b_0 c_60
        refine lv_iconst (v := 0) S.1 S.2.1 d_MD_nature_76 (by decide) ?_
        exact J_77 _ (by simp [bI, sdB, q_60]) _ _ hO ls (lv_sub hl [0, 1, 2, 3, 4, 5] rfl)
      · skip
        have q_60 : (unB nu a) = true := b_1 c_60
        obtain ⟨u, hu, rfl⟩ := unB_n (by omega) q_60
        refine lv_aload_n S.1 S.2.1 d_MD_nature_63 rfl (lv_at hl 1 rfl) ?_
        refine g_get S hO fl_MD_16 (by decide) (sh_140 G ad _ _) (v := .ref (ad 143)) rfl d_MD_nature_64 ?_
        refine lv_iload_n S.1 S.2.1 d_MD_nature_67 rfl (lv_at hl 2 rfl) ?_
        refine g_ial S hO (by decide) (sh_143 G ad _ _) (vp_in_nI (show u < 40 by omega) (by decide)) d_MD_nature_68 ?_
        refine W.eq (g2 := F0 m 69 ls [.int (σ 143 u), .int (bI (bdN b d f)), .int (bI (!unB nu (nI u))), .ref (ad 140)]) (by rw [nI_clamp (show u < 2 ^ 31 by omega)]) ?_
        refine lv_if_lt (tgt := 76) S.1 S.2.1 d_MD_nature_69 (by decide) (fun c_69 => ?_) (fun c_69 => ?_)
        · skip
          refine lv_iconst (v := 0) S.1 S.2.1 d_MD_nature_76 (by decide) ?_
          exact J_77 _ (by simp [bI, sdB, q_60, nI_clamp (show u < 2 ^ 31 by omega), c_69]; try exact Int32.not_lt.mp c_69) _ _ hO ls (lv_sub hl [0, 1, 2, 3, 4, 5] rfl)
        · skip
          refine lv_iconst (v := 1) S.1 S.2.1 d_MD_nature_72 (by decide) ?_
          refine lv_goto (tgt := 77) S.1 S.2.1 d_MD_nature_73 (by decide) ?_
          exact J_77 _ (by simp [bI, sdB, q_60, nI_clamp (show u < 2 ^ 31 by omega), c_69]; try exact Int32.not_lt.mp c_69) _ _ hO ls (lv_sub hl [0, 1, 2, 3, 4, 5] rfl)
    refine lv_aload_n S.1 S.2.1 d_MD_nature_40 rfl (lv_at hl 1 rfl) ?_
    refine lv_iload_n S.1 S.2.1 d_MD_nature_41 rfl (lv_at hl 2 rfl) ?_
    refine g_VP (As := [.int a]) (rest := [.ref (ad 140)]) S hO (k_MD_isUnit l G ad σ τ a nu hmu) cw_MD_91 (by decide) (sh_140 G ad _ _) rfl rfl hl.1 (Nat.le_of_ble_eq_true rfl) ⟨(Nat.le_of_ble_eq_true rfl), (Nat.le_of_ble_eq_true rfl)⟩ ⟨(Nat.le_of_ble_eq_true rfl), (Nat.le_of_ble_eq_true rfl)⟩ d_MD_nature_42 (fun q x ce H h9 => h9.elim) (fun v H v_8 hO => ?_)
    subst v_8
    refine W.eq (g2 := F0 m 45 ls [.int (bI (unB nu a)), .ref (ad 140)]) rfl ?_
    refine lv_if_ne (tgt := 52) S.1 S.2.1 d_MD_nature_45 (by decide) (fun c_45 => ?_) (fun c_45 => ?_)
    · skip
      have q_45 : (unB nu a) = true := b_1 c_45
      refine lv_iconst (v := 0) S.1 S.2.1 d_MD_nature_52 (by decide) ?_
      exact J_53 _ (by simp [bI, q_45]) _ _ hO ls (lv_sub hl [0, 1, 2, 3, 4, 5] rfl)
    · skip
      have q_45 : (unB nu a) = false := b_0 c_45
      refine lv_iconst (v := 1) S.1 S.2.1 d_MD_nature_48 (by decide) ?_
      refine lv_goto (tgt := 53) S.1 S.2.1 d_MD_nature_49 (by decide) ?_
      exact J_53 _ (by simp [bI, q_45]) _ _ hO ls (lv_sub hl [0, 1, 2, 3, 4, 5] rfl)
  refine lv_iload_n S.1 S.2.1 d_MD_nature_0 rfl (lv_at hl 2 rfl) ?_
  refine lv_iconst (v := 0) S.1 S.2.1 d_MD_nature_1 (by decide) ?_
  refine lv_bipush (v := 7) S.1 S.2.1 d_MD_nature_2 (by decide) ?_
  refine g_SP (As := [.int b, .int 0, .int 7]) (rest := []) S hO (k_MD_in l G ad σ τ b 0 7) cw_MD_67 g_cfC hl.1 (Nat.le_of_ble_eq_true rfl) ⟨(Nat.le_of_ble_eq_true rfl), (Nat.le_of_ble_eq_true rfl)⟩ ⟨(Nat.le_of_ble_eq_true rfl), (Nat.le_of_ble_eq_true rfl)⟩ d_MD_nature_4 (fun q x ce H h9 => h9.elim) (fun v H v_9 hO => ?_)
  subst v_9
  refine W.eq (g2 := F0 m 7 ls [.int (bI (inB b 0 7))]) rfl ?_
  refine lv_if_eq (tgt := 32) S.1 S.2.1 d_MD_nature_7 (by decide) (fun c_7 => ?_) (fun c_7 => ?_)
  · skip
    have q_7 : (inB b 0 7) = false := b_0 c_7
    refine lv_iconst (v := 1) S.1 S.2.1 d_MD_nature_32 (by decide) ?_
    refine lv_goto (tgt := 37) S.1 S.2.1 d_MD_nature_33 (by decide) ?_
    exact J_37 _ (by simp [bI, bdN, q_7]) _ _ hO ls (lv_sub hl [0, 1, 2, 3, 4] rfl)
  · skip
    have q_7 : (inB b 0 7) = true := b_1 c_7
    refine lv_iload_n S.1 S.2.1 d_MD_nature_10 rfl (lv_at hl 3 rfl) ?_
    refine lv_iconst (v := 0) S.1 S.2.1 d_MD_nature_11 (by decide) ?_
    refine lv_bipush (v := 7) S.1 S.2.1 d_MD_nature_12 (by decide) ?_
    refine g_SP (As := [.int d, .int 0, .int 7]) (rest := []) S hO (k_MD_in l G ad σ τ d 0 7) cw_MD_67 g_cfC hl.1 (Nat.le_of_ble_eq_true rfl) ⟨(Nat.le_of_ble_eq_true rfl), (Nat.le_of_ble_eq_true rfl)⟩ ⟨(Nat.le_of_ble_eq_true rfl), (Nat.le_of_ble_eq_true rfl)⟩ d_MD_nature_14 (fun q x ce H h9 => h9.elim) (fun v H v_10 hO => ?_)
    subst v_10
    refine W.eq (g2 := F0 m 17 ls [.int (bI (inB d 0 7))]) rfl ?_
    refine lv_if_eq (tgt := 32) S.1 S.2.1 d_MD_nature_17 (by decide) (fun c_17 => ?_) (fun c_17 => ?_)
    · skip
      have q_17 : (inB d 0 7) = false := b_0 c_17
      refine lv_iconst (v := 1) S.1 S.2.1 d_MD_nature_32 (by decide) ?_
      refine lv_goto (tgt := 37) S.1 S.2.1 d_MD_nature_33 (by decide) ?_
      exact J_37 _ (by simp [bI, bdN, q_7, q_17]) _ _ hO ls (lv_sub hl [0, 1, 2, 3, 4] rfl)
    · skip
      have q_17 : (inB d 0 7) = true := b_1 c_17
      refine lv_iload S.1 S.2.1 d_MD_nature_20 (lv_at hl 4 rfl) ?_
      refine lv_iconst (v := 0) S.1 S.2.1 d_MD_nature_22 (by decide) ?_
      refine lv_sipush (v := 1000) S.1 S.2.1 d_MD_nature_23 (by decide) ?_
      refine g_SP (As := [.int f, .int 0, .int 1000]) (rest := []) S hO (k_MD_in l G ad σ τ f 0 1000) cw_MD_67 g_cfC hl.1 (Nat.le_of_ble_eq_true rfl) ⟨(Nat.le_of_ble_eq_true rfl), (Nat.le_of_ble_eq_true rfl)⟩ ⟨(Nat.le_of_ble_eq_true rfl), (Nat.le_of_ble_eq_true rfl)⟩ d_MD_nature_26 (fun q x ce H h9 => h9.elim) (fun v H v_11 hO => ?_)
      subst v_11
      refine W.eq (g2 := F0 m 29 ls [.int (bI (inB f 0 1000))]) rfl ?_
      refine lv_if_ne (tgt := 36) S.1 S.2.1 d_MD_nature_29 (by decide) (fun c_29 => ?_) (fun c_29 => ?_)
      · skip
        have q_29 : (inB f 0 1000) = true := b_1 c_29
        refine lv_iconst (v := 0) S.1 S.2.1 d_MD_nature_36 (by decide) ?_
        exact J_37 _ (by simp [bI, bdN, q_7, q_17, q_29]) _ _ hO ls (lv_sub hl [0, 1, 2, 3, 4] rfl)
      · skip
        have q_29 : (inB f 0 1000) = false := b_0 c_29
        refine lv_iconst (v := 1) S.1 S.2.1 d_MD_nature_32 (by decide) ?_
        refine lv_goto (tgt := 37) S.1 S.2.1 d_MD_nature_33 (by decide) ?_
        exact J_37 _ (by simp [bI, bdN, q_7, q_17, q_29]) _ _ hO ls (lv_sub hl [0, 1, 2, 3, 4] rfl)
theorem sw010 {x : Int32} (h0 : ¬ x = 0) (h1 : ¬ x = 1) (h2 : ¬ x = 2) (h3 : ¬ x = 3) (h4 : ¬ x = 4) (h5 : ¬ x = 5) (h6 : ¬ x = 6) (h7 : ¬ x = 7) (h8 : ¬ x = 8) (h9 : ¬ x = 9) (h10 : ¬ x = 10) : x.toInt < 0 ∨ 10 < x.toInt := by
  by_cases hc : x.toInt < 0 ∨ 10 < x.toInt
  · exact hc
  · exfalso
    have e : ∀ k : Int32, x.toInt = k.toInt → x = k := fun k h => Int32.toInt_inj.mp h
    have hx : x.toInt = 0 ∨ x.toInt = 1 ∨ x.toInt = 2 ∨ x.toInt = 3 ∨ x.toInt = 4 ∨ x.toInt = 5 ∨ x.toInt = 6 ∨ x.toInt = 7 ∨ x.toInt = 8 ∨ x.toInt = 9 ∨ x.toInt = 10 := by omega
    rcases hx with h | h | h | h | h | h | h | h | h | h | h
    · exact h0 (e 0 h)
    · exact h1 (e 1 h)
    · exact h2 (e 2 h)
    · exact h3 (e 3 h)
    · exact h4 (e 4 h)
    · exact h5 (e 5 h)
    · exact h6 (e 6 h)
    · exact h7 (e 7 h)
    · exact h8 (e 8 h)
    · exact h9 (e 9 h)
    · exact h10 (e 10 h)
def isAB (k a : Int32) : Bool := if k = 0 then inB a 0 1 else if k = 1 then inB a 0 100000 else if k = 2 then inB a 1 20 else if k = 3 then inB a 1 20 else if k = 4 then inB a 1 20 else if k = 5 then inB a 0 7 else if k = 6 then inB a 0 7 else if k = 7 then inB a 1 40 else if k = 8 then inB a 0 1000 else if k = 9 then inB a 0 1000 else if k = 10 then inB a 0 3 else false
set_option maxHeartbeats 4000000 in
set_option maxRecDepth 100000 in
theorem k_MD_isA (l : Launch) (G : gP) (ad : Nat → Nat) (σ : Nat → Nat → Int32) (τ : Nat → Nat → Int64) (k a : Int32) : gpu l y_MD_isA c_MD_isA 2 (some .boolean) { frames := 1, cells := 0, slots := 0, locals := 22 } G ad σ τ [.int k, .int a] 0 0 (fun v => v = some (.int (bI (isAB k a)))) (fun _ => False) := by
  refine gs_of (fun _ h => h.elim) (by decide) (Nat.le_of_ble_eq_true rfl) ?_
  intro p e s m args below meth c ls S hk hr hx hl hO
  have hl : lv_has ls 2 [(0, .int k), (1, .int a)] := hl
  refine lv_iload_n S.1 S.2.1 d_MD_isA_0 rfl (lv_at hl 0 rfl) ?_
  by_cases w_1_0 : k = 0
  · refine W.eq (g2 := F0 m 1 ls [.int 0]) (by rw [w_1_0]) ?_
    refine lv_tableIn (tgt := 60) S.1 S.2.1 d_MD_isA_1 (by decide) (by decide) rfl (by decide) ?_
    refine lv_iload_n S.1 S.2.1 d_MD_isA_60 rfl (lv_at hl 1 rfl) ?_
    refine lv_iconst (v := 0) S.1 S.2.1 d_MD_isA_61 (by decide) ?_
    refine lv_iconst (v := 1) S.1 S.2.1 d_MD_isA_62 (by decide) ?_
    refine g_SP (As := [.int a, .int 0, .int 1]) (rest := []) S hO (k_MD_in l G ad σ τ a 0 1) cw_MD_67 g_cfC hl.1 (Nat.le_of_ble_eq_true rfl) ⟨(Nat.le_of_ble_eq_true rfl), (Nat.le_of_ble_eq_true rfl)⟩ ⟨(Nat.le_of_ble_eq_true rfl), (Nat.le_of_ble_eq_true rfl)⟩ d_MD_isA_63 (fun q x ce H h9 => h9.elim) (fun v H v_1 hO => ?_)
    subst v_1
    refine W.eq (g2 := F0 m 66 ls [.int (bI (inB a 0 1))]) rfl ?_
    exact pu_z S hk hr hO (by first | exact Or.inl rfl | exact Or.inr rfl | exact b_01) (by first | (subst w_1_0; rfl)) (Nat.le_of_ble_eq_true rfl) (Nat.le_of_ble_eq_true rfl) d_MD_isA_66
  by_cases w_1_1 : k = 1
  · refine W.eq (g2 := F0 m 1 ls [.int 1]) (by rw [w_1_1]) ?_
    refine lv_tableIn (tgt := 67) S.1 S.2.1 d_MD_isA_1 (by decide) (by decide) rfl (by decide) ?_
    refine lv_iload_n S.1 S.2.1 d_MD_isA_67 rfl (lv_at hl 1 rfl) ?_
    refine lv_iconst (v := 0) S.1 S.2.1 d_MD_isA_68 (by decide) ?_
    refine lv_ldc (v := 100000) S.1 S.2.1 S.2.2.2.1 (S.2.2.2.2 _ kv_MD_62) d_MD_isA_69 ?_
    refine g_SP (As := [.int a, .int 0, .int 100000]) (rest := []) S hO (k_MD_in l G ad σ τ a 0 100000) cw_MD_67 g_cfC hl.1 (Nat.le_of_ble_eq_true rfl) ⟨(Nat.le_of_ble_eq_true rfl), (Nat.le_of_ble_eq_true rfl)⟩ ⟨(Nat.le_of_ble_eq_true rfl), (Nat.le_of_ble_eq_true rfl)⟩ d_MD_isA_71 (fun q x ce H h9 => h9.elim) (fun v H v_2 hO => ?_)
    subst v_2
    refine W.eq (g2 := F0 m 74 ls [.int (bI (inB a 0 100000))]) rfl ?_
    exact pu_z S hk hr hO (by first | exact Or.inl rfl | exact Or.inr rfl | exact b_01) (by first | (subst w_1_1; rfl)) (Nat.le_of_ble_eq_true rfl) (Nat.le_of_ble_eq_true rfl) d_MD_isA_74
  by_cases w_1_2 : k = 2
  · refine W.eq (g2 := F0 m 1 ls [.int 2]) (by rw [w_1_2]) ?_
    refine lv_tableIn (tgt := 75) S.1 S.2.1 d_MD_isA_1 (by decide) (by decide) rfl (by decide) ?_
    refine lv_iload_n S.1 S.2.1 d_MD_isA_75 rfl (lv_at hl 1 rfl) ?_
    refine lv_iconst (v := 1) S.1 S.2.1 d_MD_isA_76 (by decide) ?_
    refine lv_bipush (v := 20) S.1 S.2.1 d_MD_isA_77 (by decide) ?_
    refine g_SP (As := [.int a, .int 1, .int 20]) (rest := []) S hO (k_MD_in l G ad σ τ a 1 20) cw_MD_67 g_cfC hl.1 (Nat.le_of_ble_eq_true rfl) ⟨(Nat.le_of_ble_eq_true rfl), (Nat.le_of_ble_eq_true rfl)⟩ ⟨(Nat.le_of_ble_eq_true rfl), (Nat.le_of_ble_eq_true rfl)⟩ d_MD_isA_79 (fun q x ce H h9 => h9.elim) (fun v H v_3 hO => ?_)
    subst v_3
    refine W.eq (g2 := F0 m 82 ls [.int (bI (inB a 1 20))]) rfl ?_
    exact pu_z S hk hr hO (by first | exact Or.inl rfl | exact Or.inr rfl | exact b_01) (by first | (subst w_1_2; rfl) | (subst w_1_3; rfl) | (subst w_1_4; rfl)) (Nat.le_of_ble_eq_true rfl) (Nat.le_of_ble_eq_true rfl) d_MD_isA_82
  by_cases w_1_3 : k = 3
  · refine W.eq (g2 := F0 m 1 ls [.int 3]) (by rw [w_1_3]) ?_
    refine lv_tableIn (tgt := 75) S.1 S.2.1 d_MD_isA_1 (by decide) (by decide) rfl (by decide) ?_
    refine lv_iload_n S.1 S.2.1 d_MD_isA_75 rfl (lv_at hl 1 rfl) ?_
    refine lv_iconst (v := 1) S.1 S.2.1 d_MD_isA_76 (by decide) ?_
    refine lv_bipush (v := 20) S.1 S.2.1 d_MD_isA_77 (by decide) ?_
    refine g_SP (As := [.int a, .int 1, .int 20]) (rest := []) S hO (k_MD_in l G ad σ τ a 1 20) cw_MD_67 g_cfC hl.1 (Nat.le_of_ble_eq_true rfl) ⟨(Nat.le_of_ble_eq_true rfl), (Nat.le_of_ble_eq_true rfl)⟩ ⟨(Nat.le_of_ble_eq_true rfl), (Nat.le_of_ble_eq_true rfl)⟩ d_MD_isA_79 (fun q x ce H h9 => h9.elim) (fun v H v_4 hO => ?_)
    subst v_4
    refine W.eq (g2 := F0 m 82 ls [.int (bI (inB a 1 20))]) rfl ?_
    exact pu_z S hk hr hO (by first | exact Or.inl rfl | exact Or.inr rfl | exact b_01) (by first | (subst w_1_2; rfl) | (subst w_1_3; rfl) | (subst w_1_4; rfl)) (Nat.le_of_ble_eq_true rfl) (Nat.le_of_ble_eq_true rfl) d_MD_isA_82
  by_cases w_1_4 : k = 4
  · refine W.eq (g2 := F0 m 1 ls [.int 4]) (by rw [w_1_4]) ?_
    refine lv_tableIn (tgt := 75) S.1 S.2.1 d_MD_isA_1 (by decide) (by decide) rfl (by decide) ?_
    refine lv_iload_n S.1 S.2.1 d_MD_isA_75 rfl (lv_at hl 1 rfl) ?_
    refine lv_iconst (v := 1) S.1 S.2.1 d_MD_isA_76 (by decide) ?_
    refine lv_bipush (v := 20) S.1 S.2.1 d_MD_isA_77 (by decide) ?_
    refine g_SP (As := [.int a, .int 1, .int 20]) (rest := []) S hO (k_MD_in l G ad σ τ a 1 20) cw_MD_67 g_cfC hl.1 (Nat.le_of_ble_eq_true rfl) ⟨(Nat.le_of_ble_eq_true rfl), (Nat.le_of_ble_eq_true rfl)⟩ ⟨(Nat.le_of_ble_eq_true rfl), (Nat.le_of_ble_eq_true rfl)⟩ d_MD_isA_79 (fun q x ce H h9 => h9.elim) (fun v H v_5 hO => ?_)
    subst v_5
    refine W.eq (g2 := F0 m 82 ls [.int (bI (inB a 1 20))]) rfl ?_
    exact pu_z S hk hr hO (by first | exact Or.inl rfl | exact Or.inr rfl | exact b_01) (by first | (subst w_1_2; rfl) | (subst w_1_3; rfl) | (subst w_1_4; rfl)) (Nat.le_of_ble_eq_true rfl) (Nat.le_of_ble_eq_true rfl) d_MD_isA_82
  by_cases w_1_5 : k = 5
  · refine W.eq (g2 := F0 m 1 ls [.int 5]) (by rw [w_1_5]) ?_
    refine lv_tableIn (tgt := 83) S.1 S.2.1 d_MD_isA_1 (by decide) (by decide) rfl (by decide) ?_
    refine lv_iload_n S.1 S.2.1 d_MD_isA_83 rfl (lv_at hl 1 rfl) ?_
    refine lv_iconst (v := 0) S.1 S.2.1 d_MD_isA_84 (by decide) ?_
    refine lv_bipush (v := 7) S.1 S.2.1 d_MD_isA_85 (by decide) ?_
    refine g_SP (As := [.int a, .int 0, .int 7]) (rest := []) S hO (k_MD_in l G ad σ τ a 0 7) cw_MD_67 g_cfC hl.1 (Nat.le_of_ble_eq_true rfl) ⟨(Nat.le_of_ble_eq_true rfl), (Nat.le_of_ble_eq_true rfl)⟩ ⟨(Nat.le_of_ble_eq_true rfl), (Nat.le_of_ble_eq_true rfl)⟩ d_MD_isA_87 (fun q x ce H h9 => h9.elim) (fun v H v_6 hO => ?_)
    subst v_6
    refine W.eq (g2 := F0 m 90 ls [.int (bI (inB a 0 7))]) rfl ?_
    exact pu_z S hk hr hO (by first | exact Or.inl rfl | exact Or.inr rfl | exact b_01) (by first | (subst w_1_5; rfl) | (subst w_1_6; rfl)) (Nat.le_of_ble_eq_true rfl) (Nat.le_of_ble_eq_true rfl) d_MD_isA_90
  by_cases w_1_6 : k = 6
  · refine W.eq (g2 := F0 m 1 ls [.int 6]) (by rw [w_1_6]) ?_
    refine lv_tableIn (tgt := 83) S.1 S.2.1 d_MD_isA_1 (by decide) (by decide) rfl (by decide) ?_
    refine lv_iload_n S.1 S.2.1 d_MD_isA_83 rfl (lv_at hl 1 rfl) ?_
    refine lv_iconst (v := 0) S.1 S.2.1 d_MD_isA_84 (by decide) ?_
    refine lv_bipush (v := 7) S.1 S.2.1 d_MD_isA_85 (by decide) ?_
    refine g_SP (As := [.int a, .int 0, .int 7]) (rest := []) S hO (k_MD_in l G ad σ τ a 0 7) cw_MD_67 g_cfC hl.1 (Nat.le_of_ble_eq_true rfl) ⟨(Nat.le_of_ble_eq_true rfl), (Nat.le_of_ble_eq_true rfl)⟩ ⟨(Nat.le_of_ble_eq_true rfl), (Nat.le_of_ble_eq_true rfl)⟩ d_MD_isA_87 (fun q x ce H h9 => h9.elim) (fun v H v_7 hO => ?_)
    subst v_7
    refine W.eq (g2 := F0 m 90 ls [.int (bI (inB a 0 7))]) rfl ?_
    exact pu_z S hk hr hO (by first | exact Or.inl rfl | exact Or.inr rfl | exact b_01) (by first | (subst w_1_5; rfl) | (subst w_1_6; rfl)) (Nat.le_of_ble_eq_true rfl) (Nat.le_of_ble_eq_true rfl) d_MD_isA_90
  by_cases w_1_7 : k = 7
  · refine W.eq (g2 := F0 m 1 ls [.int 7]) (by rw [w_1_7]) ?_
    refine lv_tableIn (tgt := 91) S.1 S.2.1 d_MD_isA_1 (by decide) (by decide) rfl (by decide) ?_
    refine lv_iload_n S.1 S.2.1 d_MD_isA_91 rfl (lv_at hl 1 rfl) ?_
    refine lv_iconst (v := 1) S.1 S.2.1 d_MD_isA_92 (by decide) ?_
    refine lv_bipush (v := 40) S.1 S.2.1 d_MD_isA_93 (by decide) ?_
    refine g_SP (As := [.int a, .int 1, .int 40]) (rest := []) S hO (k_MD_in l G ad σ τ a 1 40) cw_MD_67 g_cfC hl.1 (Nat.le_of_ble_eq_true rfl) ⟨(Nat.le_of_ble_eq_true rfl), (Nat.le_of_ble_eq_true rfl)⟩ ⟨(Nat.le_of_ble_eq_true rfl), (Nat.le_of_ble_eq_true rfl)⟩ d_MD_isA_95 (fun q x ce H h9 => h9.elim) (fun v H v_8 hO => ?_)
    subst v_8
    refine W.eq (g2 := F0 m 98 ls [.int (bI (inB a 1 40))]) rfl ?_
    exact pu_z S hk hr hO (by first | exact Or.inl rfl | exact Or.inr rfl | exact b_01) (by first | (subst w_1_7; rfl)) (Nat.le_of_ble_eq_true rfl) (Nat.le_of_ble_eq_true rfl) d_MD_isA_98
  by_cases w_1_8 : k = 8
  · refine W.eq (g2 := F0 m 1 ls [.int 8]) (by rw [w_1_8]) ?_
    refine lv_tableIn (tgt := 99) S.1 S.2.1 d_MD_isA_1 (by decide) (by decide) rfl (by decide) ?_
    refine lv_iload_n S.1 S.2.1 d_MD_isA_99 rfl (lv_at hl 1 rfl) ?_
    refine lv_iconst (v := 0) S.1 S.2.1 d_MD_isA_100 (by decide) ?_
    refine lv_sipush (v := 1000) S.1 S.2.1 d_MD_isA_101 (by decide) ?_
    refine g_SP (As := [.int a, .int 0, .int 1000]) (rest := []) S hO (k_MD_in l G ad σ τ a 0 1000) cw_MD_67 g_cfC hl.1 (Nat.le_of_ble_eq_true rfl) ⟨(Nat.le_of_ble_eq_true rfl), (Nat.le_of_ble_eq_true rfl)⟩ ⟨(Nat.le_of_ble_eq_true rfl), (Nat.le_of_ble_eq_true rfl)⟩ d_MD_isA_104 (fun q x ce H h9 => h9.elim) (fun v H v_9 hO => ?_)
    subst v_9
    refine W.eq (g2 := F0 m 107 ls [.int (bI (inB a 0 1000))]) rfl ?_
    exact pu_z S hk hr hO (by first | exact Or.inl rfl | exact Or.inr rfl | exact b_01) (by first | (subst w_1_8; rfl) | (subst w_1_9; rfl)) (Nat.le_of_ble_eq_true rfl) (Nat.le_of_ble_eq_true rfl) d_MD_isA_107
  by_cases w_1_9 : k = 9
  · refine W.eq (g2 := F0 m 1 ls [.int 9]) (by rw [w_1_9]) ?_
    refine lv_tableIn (tgt := 99) S.1 S.2.1 d_MD_isA_1 (by decide) (by decide) rfl (by decide) ?_
    refine lv_iload_n S.1 S.2.1 d_MD_isA_99 rfl (lv_at hl 1 rfl) ?_
    refine lv_iconst (v := 0) S.1 S.2.1 d_MD_isA_100 (by decide) ?_
    refine lv_sipush (v := 1000) S.1 S.2.1 d_MD_isA_101 (by decide) ?_
    refine g_SP (As := [.int a, .int 0, .int 1000]) (rest := []) S hO (k_MD_in l G ad σ τ a 0 1000) cw_MD_67 g_cfC hl.1 (Nat.le_of_ble_eq_true rfl) ⟨(Nat.le_of_ble_eq_true rfl), (Nat.le_of_ble_eq_true rfl)⟩ ⟨(Nat.le_of_ble_eq_true rfl), (Nat.le_of_ble_eq_true rfl)⟩ d_MD_isA_104 (fun q x ce H h9 => h9.elim) (fun v H v_10 hO => ?_)
    subst v_10
    refine W.eq (g2 := F0 m 107 ls [.int (bI (inB a 0 1000))]) rfl ?_
    exact pu_z S hk hr hO (by first | exact Or.inl rfl | exact Or.inr rfl | exact b_01) (by first | (subst w_1_8; rfl) | (subst w_1_9; rfl)) (Nat.le_of_ble_eq_true rfl) (Nat.le_of_ble_eq_true rfl) d_MD_isA_107
  by_cases w_1_10 : k = 10
  · refine W.eq (g2 := F0 m 1 ls [.int 10]) (by rw [w_1_10]) ?_
    refine lv_tableIn (tgt := 108) S.1 S.2.1 d_MD_isA_1 (by decide) (by decide) rfl (by decide) ?_
    refine lv_iload_n S.1 S.2.1 d_MD_isA_108 rfl (lv_at hl 1 rfl) ?_
    refine lv_iconst (v := 0) S.1 S.2.1 d_MD_isA_109 (by decide) ?_
    refine lv_iconst (v := 3) S.1 S.2.1 d_MD_isA_110 (by decide) ?_
    refine g_SP (As := [.int a, .int 0, .int 3]) (rest := []) S hO (k_MD_in l G ad σ τ a 0 3) cw_MD_67 g_cfC hl.1 (Nat.le_of_ble_eq_true rfl) ⟨(Nat.le_of_ble_eq_true rfl), (Nat.le_of_ble_eq_true rfl)⟩ ⟨(Nat.le_of_ble_eq_true rfl), (Nat.le_of_ble_eq_true rfl)⟩ d_MD_isA_111 (fun q x ce H h9 => h9.elim) (fun v H v_11 hO => ?_)
    subst v_11
    refine W.eq (g2 := F0 m 114 ls [.int (bI (inB a 0 3))]) rfl ?_
    exact pu_z S hk hr hO (by first | exact Or.inl rfl | exact Or.inr rfl | exact b_01) (by first | (subst w_1_10; rfl)) (Nat.le_of_ble_eq_true rfl) (Nat.le_of_ble_eq_true rfl) d_MD_isA_114
  refine lv_tableOut (tgt := 115) S.1 S.2.1 d_MD_isA_1 (sw010 w_1_0 w_1_1 w_1_2 w_1_3 w_1_4 w_1_5 w_1_6 w_1_7 w_1_8 w_1_9 w_1_10) (by decide) ?_
  refine lv_iconst (v := 0) S.1 S.2.1 d_MD_isA_115 (by decide) ?_
  exact pu_z S hk hr hO (by first | exact Or.inl rfl | exact Or.inr rfl | exact b_01) (by rw [isAB, if_neg w_1_0, if_neg w_1_1, if_neg w_1_2, if_neg w_1_3, if_neg w_1_4, if_neg w_1_5, if_neg w_1_6, if_neg w_1_7, if_neg w_1_8, if_neg w_1_9, if_neg w_1_10]; rfl) (Nat.le_of_ble_eq_true rfl) (Nat.le_of_ble_eq_true rfl) d_MD_isA_116
def twB (k : Int32) : Bool := decide (k = 5) || decide (k = 6)
set_option maxHeartbeats 4000000 in
set_option maxRecDepth 100000 in
theorem k_MD_isTwo (l : Launch) (G : gP) (ad : Nat → Nat) (σ : Nat → Nat → Int32) (τ : Nat → Nat → Int64) (k : Int32) : gpu l y_MD_isTwo c_MD_isTwo 1 (some .boolean) { frames := 0, cells := 0, slots := 0, locals := 0 } G ad σ τ [.int k] 0 0 (fun v => v = some (.int (bI (twB k)))) (fun _ => False) := by
  refine gs_of (fun _ h => h.elim) (by decide) (Nat.le_of_ble_eq_true rfl) ?_
  intro p e s m args below meth c ls S hk hr hx hl hO
  have hl : lv_has ls 1 [(0, .int k)] := hl
  have J_16 : ∀ (z : Int32), z = (bI (twB k)) → ∀ (H : Heap) (locs : List Loc), gO G (fun _ => False) 159 ad (enc G ad σ τ) s H locs → ∀ ls : Array Slot, lv_has ls 1 [(0, .int k)] → W p l e { frames := 0, cells := 0, slots := 0, locals := 0 } s m args below meth c H locs 0 0 (gM below (fun _ => False) 0 0 (fun v _ => (fun v => v = some (.int (bI (twB k)))) v) (fun x _ => (fun _ => False) x) args s) (F0 m 16 ls (.int z :: [])) := by
    intro z ez H locs hO ls hl
    subst ez
    exact pu_z S hk hr hO (by first | exact Or.inl rfl | exact Or.inr rfl | exact b_01) (by rfl) (Nat.le_of_ble_eq_true rfl) (Nat.le_of_ble_eq_true rfl) d_MD_isTwo_16
  refine lv_iload_n S.1 S.2.1 d_MD_isTwo_0 rfl (lv_at hl 0 rfl) ?_
  refine lv_iconst (v := 5) S.1 S.2.1 d_MD_isTwo_1 (by decide) ?_
  refine lv_icmp_eq (tgt := 11) S.1 S.2.1 d_MD_isTwo_2 (by decide) (fun c_2 => ?_) (fun c_2 => ?_)
  · skip
    refine lv_iconst (v := 1) S.1 S.2.1 d_MD_isTwo_11 (by decide) ?_
    refine lv_goto (tgt := 16) S.1 S.2.1 d_MD_isTwo_12 (by decide) ?_
    exact J_16 _ (by simp [bI, twB, c_2]) _ _ hO ls (lv_sub hl [0] rfl)
  · skip
    refine lv_iload_n S.1 S.2.1 d_MD_isTwo_5 rfl (lv_at hl 0 rfl) ?_
    refine lv_bipush (v := 6) S.1 S.2.1 d_MD_isTwo_6 (by decide) ?_
    refine lv_icmp_ne (tgt := 15) S.1 S.2.1 d_MD_isTwo_8 (by decide) (fun c_8 => ?_) (fun c_8 => ?_)
    · skip
      refine lv_iconst (v := 0) S.1 S.2.1 d_MD_isTwo_15 (by decide) ?_
      exact J_16 _ (by simp [bI, twB, c_2, c_8]) _ _ hO ls (lv_sub hl [0] rfl)
    · skip
      refine lv_iconst (v := 1) S.1 S.2.1 d_MD_isTwo_11 (by decide) ?_
      refine lv_goto (tgt := 16) S.1 S.2.1 d_MD_isTwo_12 (by decide) ?_
      exact J_16 _ (by simp [bI, twB, c_2, c_8]) _ _ hO ls (lv_sub hl [0] rfl)
/-- the reference's clashes of the rule n with the rule i -/
def mcn (n : Nat) (rk k : Int32) (σ : Nat → Nat → Int32) (i : Nat) : Nat → Nat → Int32 :=
  if σ 144 i = rk ∧ σ 145 i = k then up2 (up2 (up2 σ 154 (2 * (σ 140 18).toNatClampNeg) (nI i)) 154 (2 * (σ 140 18).toNatClampNeg + 1) (nI n)) 140 18 (nI ((σ 140 18).toNatClampNeg + 1)) else σ
def mcx (n : Nat) (rk k : Int32) (σ : Nat → Nat → Int32) : Nat → Nat → Nat → Int32
  | 0 => σ
  | i + 1 => mcn n rk k (mcx n rk k σ i) i
theorem mcx_k {n : Nat} {rk k : Int32} {σ : Nat → Nat → Int32} {q i : Nat} (h : q ≠ 154) (h2 : q ≠ 140 ∨ i ≠ 18) : ∀ j, mcx n rk k σ j q i = σ q i
  | 0 => rfl
  | j + 1 => by
    refine Eq.trans ?_ (mcx_k (n := n) (rk := rk) (k := k) h h2 j)
    show mcn n rk k (mcx n rk k σ j) j q i = _
    unfold mcn
    split
    · rw [up2_at, if_neg (by omega), up2_k h, up2_k h]
    · rfl
theorem mcx_c {n nc : Nat} {rk k : Int32} {σ : Nat → Nat → Int32} (hn : n < 24) (hc : nc + n < 300) (h : σ 140 18 = nI nc) : ∀ i, i ≤ n → ∃ c, c ≤ nc + i ∧ nc ≤ c ∧ mcx n rk k σ i 140 18 = nI c
  | 0, _ => ⟨nc, by omega, by omega, h⟩
  | i + 1, hi => by
    obtain ⟨c, h1, h2, h3⟩ := mcx_c (rk := rk) (k := k) hn hc h i (by omega)
    show ∃ c, c ≤ nc + (i + 1) ∧ nc ≤ c ∧ mcn n rk k (mcx n rk k σ i) i 140 18 = nI c
    unfold mcn
    split
    · refine ⟨c + 1, by omega, by omega, ?_⟩
      rw [up2_s, h3, nI_clamp (by omega)]
    · exact ⟨c, by omega, h2, h3⟩
def mCm (σ : Nat → Nat → Int32) (n : Nat) (rk k a b : Int32) : Nat → Nat → Int32 := up2 (up2 (up2 (up2 (up2 (up2 (mcx n rk k σ n) 144 n rk) 145 n k) 146 n a) 147 n b) 148 n 0) 140 5 (nI (n + 1))
theorem mCm_5 {σ : Nat → Nat → Int32} {n : Nat} {rk k a b : Int32} : mCm σ n rk k a b 140 5 = nI (n + 1) := up2_s
set_option maxHeartbeats 4000000 in
set_option maxRecDepth 100000 in
theorem k_MD_comes (l : Launch) (G : gP) (ad : Nat → Nat) (σ : Nat → Nat → Int32) (τ : Nat → Nat → Int64) (rk k a b : Int32) (n : Nat) (hn : n < 24) (hmr : σ 140 5 = nI n) (nc : Nat) (hmc : σ 140 18 = nI nc) (hn2 : 2 * nc ≤ n * (n - 1)) : gim l y_MD_comes c_MD_comes 6 none { frames := 0, cells := 0, slots := 0, locals := 0 } G ad σ τ [.ref (ad 140), .int rk, .int k, .int a, .int b] 0 0 (fun v σ1 τ1 => v = none ∧ σ1 = mCm σ n rk k a b ∧ τ1 = τ) (fun _ => False) := by
  refine gs_of (fun _ h => h) (by decide) (Nat.le_of_ble_eq_true rfl) ?_
  intro p e s m args below meth c ls S hk hr hx hl hO
  have hl : lv_has ls 6 [(0, .ref (ad 140)), (1, .int rk), (2, .int k), (3, .int a), (4, .int b)] := hl
  have hnc3 : nc + n < 300 := by
    have h1 : n * (n - 1) ≤ 23 * 22 := Nat.mul_le_mul (by omega) (by omega)
    omega
  refine lv_iconst (v := 0) S.1 S.2.1 d_MD_comes_0 (by decide) ?_
  refine lv_istore (lv' := [(5, .int 0), (0, .ref (ad 140)), (1, .int rk), (2, .int k), (3, .int a), (4, .int b)]) S.1 S.2.1 d_MD_comes_1 hl (by decide) rfl (fun ls hl => ?_)
  have K_3 : ∀ (n9 : Nat) (j : Nat) (s9 : Nat → Nat → Int32), n - j < n9 → (j ≤ n) → (s9 = mcx n rk k σ j) → ∀ (H : Heap) (locs : List Loc), gO G (gA G) 159 ad (enc G ad s9 τ) s H locs → ∀ ls : Array Slot, lv_has ls 6 [(5, .int (nI j)), (0, .ref (ad 140)), (1, .int rk), (2, .int k), (3, .int a), (4, .int b)] → W p l e { frames := 0, cells := 0, slots := 0, locals := 0 } s m args below meth c H locs 0 0 (gM below (gA G) 0 0 (fun v t => ∃ E1, (∃ σ1 τ1, E1 = enc G ad σ1 τ1 ∧ (fun v σ1 τ1 => v = none ∧ σ1 = mCm σ n rk k a b ∧ τ1 = τ) v σ1 τ1) ∧ va_P G.1 gcl (gw 159 ad E1) t.heap) (fun x t => (fun _ => False) x ∧ va_P G.1 gcl (gw 159 ad (enc G ad σ τ)) t.heap) args s) (F0 m 3 ls []) := by
    intro n9
    induction n9 with
    | zero =>
      intro j s9 hn9 hj hs9 H locs hO ls hl
      exact absurd hn9 (Nat.not_lt_zero _)
    | succ n9 ih_3 =>
      intro j s9 hn9 hj hs9 H locs hO ls hl
      have h5 : s9 140 5 = nI n := by rw [hs9, mcx_k (by decide) (by decide)]; exact hmr
      obtain ⟨c, hc1, hc2, hc⟩ := mcx_c (rk := rk) (k := k) hn hnc3 hmc j hj
      rw [← hs9] at hc
      refine lv_iload S.1 S.2.1 d_MD_comes_3 (lv_at hl 0 rfl) ?_
      refine lv_aload_n S.1 S.2.1 d_MD_comes_5 rfl (lv_at hl 1 rfl) ?_
      refine g_get S hO fl_MD_94 (by decide) (sh_140 G ad _ _) (v := .int (s9 140 5)) rfl d_MD_comes_6 ?_
      refine W.eq (g2 := F0 m 9 ls [.int (nI n), .int (nI j)]) (by rw [show s9 140 5 = nI n from h5]) ?_
      refine lv_icmp_ge (tgt := 80) S.1 S.2.1 d_MD_comes_9 (by decide) (fun c_9 => ?_) (fun c_9 => ?_)
      · skip
        have hw : j = n := by have h9 := ge_nI (x := nI n) rfl rfl (by omega) (by omega) c_9; omega
        refine lv_aload_n S.1 S.2.1 d_MD_comes_80 rfl (lv_at hl 1 rfl) ?_
        refine g_get S hO fl_MD_19 (by decide) (sh_140 G ad _ _) (v := .ref (ad 144)) rfl d_MD_comes_81 ?_
        refine lv_aload_n S.1 S.2.1 d_MD_comes_84 rfl (lv_at hl 1 rfl) ?_
        refine g_get S hO fl_MD_94 (by decide) (sh_140 G ad _ _) (v := .int (s9 140 5)) rfl d_MD_comes_85 ?_
        refine W.eq (g2 := F0 m 88 ls [.int (nI n), .ref (ad 144)]) (by rw [show s9 140 5 = nI n from h5]) ?_
        refine lv_iload_n S.1 S.2.1 d_MD_comes_88 rfl (lv_at hl 2 rfl) ?_
        obtain ⟨s_1, hs_1⟩ : ∃ z : Nat → Nat → Int32, z = up2 s9 144 n rk := ⟨_, rfl⟩
        refine g_ias S hO (fun _ h => h) (by decide) (sh_144 G ad _ _) (vp_in_nI (show n < 24 by omega) (by decide)) (E2 := enc G ad s_1 τ) (by rw [hs_1, nI_clamp (show n < 2 ^ 31 by omega)]; exact enc_i (sh_144 G ad _ _)) d_MD_comes_89 (fun H locs hO => ?_)
        refine lv_aload_n S.1 S.2.1 d_MD_comes_90 rfl (lv_at hl 1 rfl) ?_
        refine g_get S hO fl_MD_22 (by decide) (sh_140 G ad _ _) (v := .ref (ad 145)) rfl d_MD_comes_91 ?_
        refine lv_aload_n S.1 S.2.1 d_MD_comes_94 rfl (lv_at hl 1 rfl) ?_
        refine g_get S hO fl_MD_94 (by decide) (sh_140 G ad _ _) (v := .int (s_1 140 5)) rfl d_MD_comes_95 ?_
        refine W.eq (g2 := F0 m 98 ls [.int (nI n), .ref (ad 145)]) (by rw [show s_1 140 5 = nI n from (by simp [hs_1, up2_at, h5])]) ?_
        refine lv_iload_n S.1 S.2.1 d_MD_comes_98 rfl (lv_at hl 3 rfl) ?_
        obtain ⟨s_2, hs_2⟩ : ∃ z : Nat → Nat → Int32, z = up2 s_1 145 n k := ⟨_, rfl⟩
        refine g_ias S hO (fun _ h => h) (by decide) (sh_145 G ad _ _) (vp_in_nI (show n < 24 by omega) (by decide)) (E2 := enc G ad s_2 τ) (by rw [hs_2, nI_clamp (show n < 2 ^ 31 by omega)]; exact enc_i (sh_145 G ad _ _)) d_MD_comes_99 (fun H locs hO => ?_)
        refine lv_aload_n S.1 S.2.1 d_MD_comes_100 rfl (lv_at hl 1 rfl) ?_
        refine g_get S hO fl_MD_25 (by decide) (sh_140 G ad _ _) (v := .ref (ad 146)) rfl d_MD_comes_101 ?_
        refine lv_aload_n S.1 S.2.1 d_MD_comes_104 rfl (lv_at hl 1 rfl) ?_
        refine g_get S hO fl_MD_94 (by decide) (sh_140 G ad _ _) (v := .int (s_2 140 5)) rfl d_MD_comes_105 ?_
        refine W.eq (g2 := F0 m 108 ls [.int (nI n), .ref (ad 146)]) (by rw [show s_2 140 5 = nI n from (by simp [hs_2, hs_1, up2_at, h5])]) ?_
        refine lv_iload_n S.1 S.2.1 d_MD_comes_108 rfl (lv_at hl 4 rfl) ?_
        obtain ⟨s_3, hs_3⟩ : ∃ z : Nat → Nat → Int32, z = up2 s_2 146 n a := ⟨_, rfl⟩
        refine g_ias S hO (fun _ h => h) (by decide) (sh_146 G ad _ _) (vp_in_nI (show n < 24 by omega) (by decide)) (E2 := enc G ad s_3 τ) (by rw [hs_3, nI_clamp (show n < 2 ^ 31 by omega)]; exact enc_i (sh_146 G ad _ _)) d_MD_comes_109 (fun H locs hO => ?_)
        refine lv_aload_n S.1 S.2.1 d_MD_comes_110 rfl (lv_at hl 1 rfl) ?_
        refine g_get S hO fl_MD_28 (by decide) (sh_140 G ad _ _) (v := .ref (ad 147)) rfl d_MD_comes_111 ?_
        refine lv_aload_n S.1 S.2.1 d_MD_comes_114 rfl (lv_at hl 1 rfl) ?_
        refine g_get S hO fl_MD_94 (by decide) (sh_140 G ad _ _) (v := .int (s_3 140 5)) rfl d_MD_comes_115 ?_
        refine W.eq (g2 := F0 m 118 ls [.int (nI n), .ref (ad 147)]) (by rw [show s_3 140 5 = nI n from (by simp [hs_3, hs_2, hs_1, up2_at, h5])]) ?_
        refine lv_iload S.1 S.2.1 d_MD_comes_118 (lv_at hl 5 rfl) ?_
        obtain ⟨s_4, hs_4⟩ : ∃ z : Nat → Nat → Int32, z = up2 s_3 147 n b := ⟨_, rfl⟩
        refine g_ias S hO (fun _ h => h) (by decide) (sh_147 G ad _ _) (vp_in_nI (show n < 24 by omega) (by decide)) (E2 := enc G ad s_4 τ) (by rw [hs_4, nI_clamp (show n < 2 ^ 31 by omega)]; exact enc_i (sh_147 G ad _ _)) d_MD_comes_120 (fun H locs hO => ?_)
        refine lv_aload_n S.1 S.2.1 d_MD_comes_121 rfl (lv_at hl 1 rfl) ?_
        refine g_get S hO fl_MD_31 (by decide) (sh_140 G ad _ _) (v := .ref (ad 148)) rfl d_MD_comes_122 ?_
        refine lv_aload_n S.1 S.2.1 d_MD_comes_125 rfl (lv_at hl 1 rfl) ?_
        refine g_get S hO fl_MD_94 (by decide) (sh_140 G ad _ _) (v := .int (s_4 140 5)) rfl d_MD_comes_126 ?_
        refine W.eq (g2 := F0 m 129 ls [.int (nI n), .ref (ad 148)]) (by rw [show s_4 140 5 = nI n from (by simp [hs_4, hs_3, hs_2, hs_1, up2_at, h5])]) ?_
        refine lv_iconst (v := 0) S.1 S.2.1 d_MD_comes_129 (by decide) ?_
        obtain ⟨s_5, hs_5⟩ : ∃ z : Nat → Nat → Int32, z = up2 s_4 148 n 0 := ⟨_, rfl⟩
        refine g_zas S hO (fun _ h => h) (by decide) (sh_148 G ad _ _) (vp_in_nI (show n < 24 by omega) (by decide)) (E2 := enc G ad s_5 τ) (by rw [hs_5, nI_clamp (show n < 2 ^ 31 by omega)]; exact enc_i (sh_148 G ad _ _)) d_MD_comes_130 (fun H locs hO => ?_)
        refine lv_aload_n S.1 S.2.1 d_MD_comes_131 rfl (lv_at hl 1 rfl) ?_
        refine lv_dup S.1 S.2.1 d_MD_comes_132 rfl ?_
        refine g_get S hO fl_MD_94 (by decide) (sh_140 G ad _ _) (v := .int (s_5 140 5)) rfl d_MD_comes_133 ?_
        refine W.eq (g2 := F0 m 136 ls [.int (nI n), .ref (ad 140)]) (by rw [show s_5 140 5 = nI n from (by simp [hs_5, hs_4, hs_3, hs_2, hs_1, up2_at, h5])]) ?_
        refine lv_iconst (v := 1) S.1 S.2.1 d_MD_comes_136 (by decide) ?_
        refine lv_iadd S.1 S.2.1 d_MD_comes_137 ?_
        refine W.eq (g2 := F0 m 138 ls [.int (nI (n + 1)), .ref (ad 140)]) (by rw [show (nI n) + (1 : Int32) = nI (n + 1) from nI_add n 1]) ?_
        obtain ⟨s_6, hs_6⟩ : ∃ z : Nat → Nat → Int32, z = up2 s_5 140 5 (nI (n + 1)) := ⟨_, rfl⟩
        refine g_put S hO (fun _ h => h) fp_MD_94 (by decide) (sh_140 G ad _ _) (v := .int (nI (n + 1))) rfl rfl (Nat.le_of_ble_eq_true rfl) (E2 := enc G ad s_6 τ) (by rw [hs_6]; exact enc_i (sh_140 G ad _ _)) d_MD_comes_138 (fun H locs hO => ?_)
        subst hs_6
        subst hs_5
        subst hs_4
        subst hs_3
        subst hs_2
        subst hs_1
        exact im_v S hk hr hO ⟨rfl, by rw [hs9, hw]; rfl, rfl⟩ (Nat.le_of_ble_eq_true rfl) (Nat.le_of_ble_eq_true rfl) d_MD_comes_141
      · skip
        have hw : j < n := ngt_nI (x := nI n) rfl rfl (by omega) (by omega) c_9
        have h276 := nc_276 hn hn2 hw
        refine lv_aload_n S.1 S.2.1 d_MD_comes_12 rfl (lv_at hl 1 rfl) ?_
        refine g_get S hO fl_MD_19 (by decide) (sh_140 G ad _ _) (v := .ref (ad 144)) rfl d_MD_comes_13 ?_
        refine lv_iload S.1 S.2.1 d_MD_comes_16 (lv_at hl 0 rfl) ?_
        refine g_ial S hO (by decide) (sh_144 G ad _ _) (vp_in_nI (show j < 24 by omega) (by decide)) d_MD_comes_18 ?_
        refine W.eq (g2 := F0 m 19 ls [.int (s9 144 j)]) (by rw [nI_clamp (show j < 2 ^ 31 by omega)]) ?_
        refine lv_iload_n S.1 S.2.1 d_MD_comes_19 rfl (lv_at hl 2 rfl) ?_
        refine lv_icmp_ne (tgt := 74) S.1 S.2.1 d_MD_comes_20 (by decide) (fun c_20 => ?_) (fun c_20 => ?_)
        · skip
          refine lv_iinc (v := nI (j + 1)) (lv' := [(5, .int (nI (j + 1))), (0, .ref (ad 140)), (1, .int rk), (2, .int k), (3, .int a), (4, .int b)]) S.1 S.2.1 d_MD_comes_74 hl (k := 0) rfl (nI_1 _) (by decide) rfl (fun ls hl => ?_)
          refine lv_goto (tgt := 3) S.1 S.2.1 d_MD_comes_77 (by decide) ?_
          exact ih_3 (j + 1) s9 (by omega) (by omega) (by show s9 = mcn _ _ _ _ _; rw [← hs9, mcn, if_neg (fun z => c_20 z.1)]) _ _ hO ls (lv_sub hl [0, 1, 2, 3, 4, 5] rfl)
        · skip
          refine lv_aload_n S.1 S.2.1 d_MD_comes_23 rfl (lv_at hl 1 rfl) ?_
          refine g_get S hO fl_MD_22 (by decide) (sh_140 G ad _ _) (v := .ref (ad 145)) rfl d_MD_comes_24 ?_
          refine lv_iload S.1 S.2.1 d_MD_comes_27 (lv_at hl 0 rfl) ?_
          refine g_ial S hO (by decide) (sh_145 G ad _ _) (vp_in_nI (show j < 24 by omega) (by decide)) d_MD_comes_29 ?_
          refine W.eq (g2 := F0 m 30 ls [.int (s9 145 j)]) (by rw [nI_clamp (show j < 2 ^ 31 by omega)]) ?_
          refine lv_iload_n S.1 S.2.1 d_MD_comes_30 rfl (lv_at hl 3 rfl) ?_
          refine lv_icmp_ne (tgt := 74) S.1 S.2.1 d_MD_comes_31 (by decide) (fun c_31 => ?_) (fun c_31 => ?_)
          · skip
            refine lv_iinc (v := nI (j + 1)) (lv' := [(5, .int (nI (j + 1))), (0, .ref (ad 140)), (1, .int rk), (2, .int k), (3, .int a), (4, .int b)]) S.1 S.2.1 d_MD_comes_74 hl (k := 0) rfl (nI_1 _) (by decide) rfl (fun ls hl => ?_)
            refine lv_goto (tgt := 3) S.1 S.2.1 d_MD_comes_77 (by decide) ?_
            exact ih_3 (j + 1) s9 (by omega) (by omega) (by show s9 = mcn _ _ _ _ _; rw [← hs9, mcn, if_neg (fun z => c_31 z.2)]) _ _ hO ls (lv_sub hl [0, 1, 2, 3, 4, 5] rfl)
          · skip
            refine lv_aload_n S.1 S.2.1 d_MD_comes_34 rfl (lv_at hl 1 rfl) ?_
            refine g_get S hO fl_MD_50 (by decide) (sh_140 G ad _ _) (v := .ref (ad 154)) rfl d_MD_comes_35 ?_
            refine lv_iconst (v := 2) S.1 S.2.1 d_MD_comes_38 (by decide) ?_
            refine lv_aload_n S.1 S.2.1 d_MD_comes_39 rfl (lv_at hl 1 rfl) ?_
            refine g_get S hO fl_MD_97 (by decide) (sh_140 G ad _ _) (v := .int (s9 140 18)) rfl d_MD_comes_40 ?_
            refine W.eq (g2 := F0 m 43 ls [.int (nI c), .int 2, .ref (ad 154)]) (by rw [show s9 140 18 = nI c from hc]) ?_
            refine lv_imul S.1 S.2.1 d_MD_comes_43 ?_
            refine W.eq (g2 := F0 m 44 ls [.int (nI (2 * c)), .ref (ad 154)]) (by rw [show (2 : Int32) * (nI c) = nI (2 * c) from pk_mul 2 c]) ?_
            refine lv_iload S.1 S.2.1 d_MD_comes_44 (lv_at hl 0 rfl) ?_
            obtain ⟨sa, hsa⟩ : ∃ z : Nat → Nat → Int32, z = up2 s9 154 (2 * c) (nI j) := ⟨_, rfl⟩
            refine g_ias S hO (fun _ h => h) (by decide) (sh_154 G ad _ _) (vp_in_nI (show 2 * c < 552 by omega) (by decide)) (E2 := enc G ad sa τ) (by rw [hsa, nI_clamp (show 2 * c < 2 ^ 31 by omega)]; exact enc_i (sh_154 G ad _ _)) d_MD_comes_46 (fun H locs hO => ?_)
            refine lv_aload_n S.1 S.2.1 d_MD_comes_47 rfl (lv_at hl 1 rfl) ?_
            refine g_get S hO fl_MD_50 (by decide) (sh_140 G ad _ _) (v := .ref (ad 154)) rfl d_MD_comes_48 ?_
            refine lv_iconst (v := 2) S.1 S.2.1 d_MD_comes_51 (by decide) ?_
            refine lv_aload_n S.1 S.2.1 d_MD_comes_52 rfl (lv_at hl 1 rfl) ?_
            refine g_get S hO fl_MD_97 (by decide) (sh_140 G ad _ _) (v := .int (sa 140 18)) rfl d_MD_comes_53 ?_
            refine W.eq (g2 := F0 m 56 ls [.int (nI c), .int 2, .ref (ad 154)]) (by rw [show sa 140 18 = nI c from (by simp [hsa, up2_at, hc])]) ?_
            refine lv_imul S.1 S.2.1 d_MD_comes_56 ?_
            refine W.eq (g2 := F0 m 57 ls [.int (nI (2 * c)), .ref (ad 154)]) (by rw [show (2 : Int32) * (nI c) = nI (2 * c) from pk_mul 2 c]) ?_
            refine lv_iconst (v := 1) S.1 S.2.1 d_MD_comes_57 (by decide) ?_
            refine lv_iadd S.1 S.2.1 d_MD_comes_58 ?_
            refine W.eq (g2 := F0 m 59 ls [.int (nI (2 * c + 1)), .ref (ad 154)]) (by rw [show (nI (2 * c)) + (1 : Int32) = nI (2 * c + 1) from nI_add (2 * c) 1]) ?_
            refine lv_aload_n S.1 S.2.1 d_MD_comes_59 rfl (lv_at hl 1 rfl) ?_
            refine g_get S hO fl_MD_94 (by decide) (sh_140 G ad _ _) (v := .int (sa 140 5)) rfl d_MD_comes_60 ?_
            refine W.eq (g2 := F0 m 63 ls [.int (nI n), .int (nI (2 * c + 1)), .ref (ad 154)]) (by rw [show sa 140 5 = nI n from (by simp [hsa, up2_at, h5])]) ?_
            obtain ⟨sb, hsb⟩ : ∃ z : Nat → Nat → Int32, z = up2 sa 154 (2 * c + 1) (nI n) := ⟨_, rfl⟩
            refine g_ias S hO (fun _ h => h) (by decide) (sh_154 G ad _ _) (vp_in_nI (show 2 * c + 1 < 552 by omega) (by decide)) (E2 := enc G ad sb τ) (by rw [hsb, nI_clamp (show 2 * c + 1 < 2 ^ 31 by omega)]; exact enc_i (sh_154 G ad _ _)) d_MD_comes_63 (fun H locs hO => ?_)
            refine lv_aload_n S.1 S.2.1 d_MD_comes_64 rfl (lv_at hl 1 rfl) ?_
            refine lv_dup S.1 S.2.1 d_MD_comes_65 rfl ?_
            refine g_get S hO fl_MD_97 (by decide) (sh_140 G ad _ _) (v := .int (sb 140 18)) rfl d_MD_comes_66 ?_
            refine W.eq (g2 := F0 m 69 ls [.int (nI c), .ref (ad 140)]) (by rw [show sb 140 18 = nI c from (by simp [hsb, hsa, up2_at, hc])]) ?_
            refine lv_iconst (v := 1) S.1 S.2.1 d_MD_comes_69 (by decide) ?_
            refine lv_iadd S.1 S.2.1 d_MD_comes_70 ?_
            refine W.eq (g2 := F0 m 71 ls [.int (nI (c + 1)), .ref (ad 140)]) (by rw [show (nI c) + (1 : Int32) = nI (c + 1) from nI_add c 1]) ?_
            obtain ⟨sc, hsc⟩ : ∃ z : Nat → Nat → Int32, z = up2 sb 140 18 (nI (c + 1)) := ⟨_, rfl⟩
            refine g_put S hO (fun _ h => h) fp_MD_97 (by decide) (sh_140 G ad _ _) (v := .int (nI (c + 1))) rfl rfl (Nat.le_of_ble_eq_true rfl) (E2 := enc G ad sc τ) (by rw [hsc]; exact enc_i (sh_140 G ad _ _)) d_MD_comes_71 (fun H locs hO => ?_)
            refine lv_iinc (v := nI (j + 1)) (lv' := [(5, .int (nI (j + 1))), (0, .ref (ad 140)), (1, .int rk), (2, .int k), (3, .int a), (4, .int b)]) S.1 S.2.1 d_MD_comes_74 hl (k := 0) rfl (nI_1 _) (by decide) rfl (fun ls hl => ?_)
            refine lv_goto (tgt := 3) S.1 S.2.1 d_MD_comes_77 (by decide) ?_
            exact ih_3 (j + 1) sc (by omega) (by omega) (by show sc = mcn _ _ _ _ _; rw [← hs9, mcn, if_pos ⟨c_20, c_31⟩, hc, nI_clamp (show c < 2 ^ 31 by omega)]; rw [hsc, hsb, hsa]) _ _ hO ls (lv_sub hl [0, 1, 2, 3, 4, 5] rfl)
  exact K_3 (n + 1) 0 σ (by omega) (by omega) rfl _ _ hO ls (lv_sub hl [0, 1, 2, 3, 4, 5] rfl)
def rlB (a b d f : Int32) : Bool := inB a 1 100 && inB b 0 10 && isAB b d && inB f 0 (if twB b = true then 7 else 0)
def mRl (σ : Nat → Nat → Int32) (n : Nat) (a b d f : Int32) : Nat → Nat → Int32 := if (!rlB a b d f || decide (nI n = 24)) = true then up2 σ 140 0 (fcd (!rlB a b d f) (decide (nI n = 24)) false) else mCm (up2 σ 140 0 (fcd (!rlB a b d f) (decide (nI n = 24)) false)) n a b d f
set_option maxHeartbeats 4000000 in
set_option maxRecDepth 100000 in
theorem k_MD_rule (l : Launch) (G : gP) (ad : Nat → Nat) (σ : Nat → Nat → Int32) (τ : Nat → Nat → Int64) (a b d f : Int32) (n : Nat) (hn24 : n ≤ 24) (hmr : σ 140 5 = nI n) (nc : Nat) (hmc : σ 140 18 = nI nc) (hn2 : 2 * nc ≤ n * (n - 1)) : gim l y_MD_rule c_MD_rule 6 (some .int) { frames := 2, cells := 0, slots := 0, locals := 43 } G ad σ τ [.ref (ad 140), .int a, .int b, .int d, .int f] 0 0 (fun v σ1 τ1 => v = some (.int (if (!rlB a b d f || decide (nI n = 24)) = true then 0 else nI n)) ∧ σ1 = mRl σ n a b d f ∧ τ1 = τ) (fun _ => False) := by
  refine gs_of (fun _ h => h) (by decide) (Nat.le_of_ble_eq_true rfl) ?_
  intro p e s m args below meth c ls S hk hr hx hl hO
  have hl : lv_has ls 6 [(0, .ref (ad 140)), (1, .int a), (2, .int b), (3, .int d), (4, .int f)] := hl
  have J_55 : ∀ (z : Int32), z = (bI (rlB a b d f)) → ∀ (H : Heap) (locs : List Loc), gO G (gA G) 159 ad (enc G ad σ τ) s H locs → ∀ ls : Array Slot, lv_has ls 6 [(0, .ref (ad 140)), (1, .int a), (2, .int b), (3, .int d), (4, .int f)] → W p l e { frames := 2, cells := 0, slots := 0, locals := 43 } s m args below meth c H locs 0 0 (gM below (gA G) 0 0 (fun v t => ∃ E1, (∃ σ1 τ1, E1 = enc G ad σ1 τ1 ∧ (fun v σ1 τ1 => v = some (.int (if (!rlB a b d f || decide (nI n = 24)) = true then 0 else nI n)) ∧ σ1 = mRl σ n a b d f ∧ τ1 = τ) v σ1 τ1) ∧ va_P G.1 gcl (gw 159 ad E1) t.heap) (fun x t => (fun _ => False) x ∧ va_P G.1 gcl (gw 159 ad (enc G ad σ τ)) t.heap) args s) (F0 m 55 ls (.int z :: [])) := by
    intro z ez H locs hO ls hl
    subst ez
    refine lv_istore (lv' := [(5, .int (bI (rlB a b d f))), (0, .ref (ad 140)), (1, .int a), (2, .int b), (3, .int d), (4, .int f)]) S.1 S.2.1 d_MD_rule_55 hl (by decide) rfl (fun ls hl => ?_)
    refine lv_aload_n S.1 S.2.1 d_MD_rule_57 rfl (lv_at hl 1 rfl) ?_
    have J_68 : ∀ (z : Int32), z = (bI (!rlB a b d f)) → ∀ (H : Heap) (locs : List Loc), gO G (gA G) 159 ad (enc G ad σ τ) s H locs → ∀ ls : Array Slot, lv_has ls 6 [(5, .int (bI (rlB a b d f))), (0, .ref (ad 140)), (1, .int a), (2, .int b), (3, .int d), (4, .int f)] → W p l e { frames := 2, cells := 0, slots := 0, locals := 43 } s m args below meth c H locs 0 0 (gM below (gA G) 0 0 (fun v t => ∃ E1, (∃ σ1 τ1, E1 = enc G ad σ1 τ1 ∧ (fun v σ1 τ1 => v = some (.int (if (!rlB a b d f || decide (nI n = 24)) = true then 0 else nI n)) ∧ σ1 = mRl σ n a b d f ∧ τ1 = τ) v σ1 τ1) ∧ va_P G.1 gcl (gw 159 ad E1) t.heap) (fun x t => (fun _ => False) x ∧ va_P G.1 gcl (gw 159 ad (enc G ad σ τ)) t.heap) args s) (F0 m 68 ls (.int z :: [.ref (ad 140)])) := by
      intro z ez H locs hO ls hl
      subst ez
      have J_82 : ∀ (z : Int32), z = (bI (decide (nI n = 24))) → ∀ (H : Heap) (locs : List Loc), gO G (gA G) 159 ad (enc G ad σ τ) s H locs → ∀ ls : Array Slot, lv_has ls 6 [(5, .int (bI (rlB a b d f))), (0, .ref (ad 140)), (1, .int a), (2, .int b), (3, .int d), (4, .int f)] → W p l e { frames := 2, cells := 0, slots := 0, locals := 43 } s m args below meth c H locs 0 0 (gM below (gA G) 0 0 (fun v t => ∃ E1, (∃ σ1 τ1, E1 = enc G ad σ1 τ1 ∧ (fun v σ1 τ1 => v = some (.int (if (!rlB a b d f || decide (nI n = 24)) = true then 0 else nI n)) ∧ σ1 = mRl σ n a b d f ∧ τ1 = τ) v σ1 τ1) ∧ va_P G.1 gcl (gw 159 ad E1) t.heap) (fun x t => (fun _ => False) x ∧ va_P G.1 gcl (gw 159 ad (enc G ad σ τ)) t.heap) args s) (F0 m 82 ls (.int z :: [.int (bI (!rlB a b d f)), .ref (ad 140)])) := by
        intro z ez H locs hO ls hl
        subst ez
        refine lv_iconst (v := 0) S.1 S.2.1 d_MD_rule_82 (by decide) ?_
        refine g_VI (As := [.int (bI (!rlB a b d f)), .int (bI (decide (nI n = 24))), .int 0]) (rest := []) S hO (fun _ h => h) (k_MD_fails2 l G ad σ τ (!rlB a b d f) (decide (nI n = 24))) cw_MD_78 (by decide) (sh_140 G ad _ _) rfl rfl hl.1 (Nat.le_of_ble_eq_true rfl) ⟨(Nat.le_of_ble_eq_true rfl), (Nat.le_of_ble_eq_true rfl)⟩ ⟨(Nat.le_of_ble_eq_true rfl), (Nat.le_of_ble_eq_true rfl)⟩ d_MD_rule_83 (fun q x ce H locs h9 => h9.elim) (fun v E1 H locs v_1 hO => ?_)
        obtain ⟨sf, t_2, rfl, rfl, hsf, ht_2⟩ := v_1
        rw [ht_2] at hO
        refine W.eq (g2 := F0 m 86 ls [.int (bI ((!rlB a b d f) || (decide (nI n = 24))))]) rfl ?_
        refine lv_if_eq (tgt := 91) S.1 S.2.1 d_MD_rule_86 (by decide) (fun c_86 => ?_) (fun c_86 => ?_)
        · skip
          have q_86 : ((!rlB a b d f) || (decide (nI n = 24))) = false := b_0 c_86
          have hn : n < 24 := nu40 rfl hn24 q_86
          refine lv_aload_n S.1 S.2.1 d_MD_rule_91 rfl (lv_at hl 1 rfl) ?_
          refine lv_iload_n S.1 S.2.1 d_MD_rule_92 rfl (lv_at hl 2 rfl) ?_
          refine lv_iload_n S.1 S.2.1 d_MD_rule_93 rfl (lv_at hl 3 rfl) ?_
          refine lv_iload_n S.1 S.2.1 d_MD_rule_94 rfl (lv_at hl 4 rfl) ?_
          refine lv_iload S.1 S.2.1 d_MD_rule_95 (lv_at hl 5 rfl) ?_
          refine g_VI (As := [.int a, .int b, .int d, .int f]) (rest := []) S hO (fun _ h => h) (k_MD_comes l G ad sf τ a b d f n hn (by rw [hsf, up2_j (by decide)]; exact hmr) nc (by rw [hsf, up2_j (by decide)]; exact hmc) hn2) cw_MD_107 (by decide) (sh_140 G ad _ _) rfl rfl hl.1 (Nat.le_of_ble_eq_true rfl) ⟨(Nat.le_of_ble_eq_true rfl), (Nat.le_of_ble_eq_true rfl)⟩ ⟨(Nat.le_of_ble_eq_true rfl), (Nat.le_of_ble_eq_true rfl)⟩ d_MD_rule_97 (fun q x ce H locs h9 => h9.elim) (fun v E1 H locs v_3 hO => ?_)
          obtain ⟨s_4, t_5, rfl, rfl, hs_4, ht_5⟩ := v_3
          rw [ht_5] at hO
          refine W.eq (g2 := F0 m 100 ls []) rfl ?_
          refine lv_aload_n S.1 S.2.1 d_MD_rule_100 rfl (lv_at hl 1 rfl) ?_
          refine g_get S hO fl_MD_94 (by decide) (sh_140 G ad _ _) (v := .int (s_4 140 5)) rfl d_MD_rule_101 ?_
          refine W.eq (g2 := F0 m 104 ls [.int (nI (n + 1))]) (by rw [show s_4 140 5 = nI (n + 1) from (by simp [hs_4, hsf, up2_at, mCm_5])]) ?_
          refine lv_iconst (v := 1) S.1 S.2.1 d_MD_rule_104 (by decide) ?_
          refine lv_isub S.1 S.2.1 d_MD_rule_105 ?_
          refine W.eq (g2 := F0 m 106 ls [.int (nI n)]) (by rw [show (nI (n + 1)) - (1 : Int32) = nI n from nI_pred n]) ?_
          subst hs_4
          subst hsf
          exact im_i S hk hr hO ⟨by rw [q_86]; rfl, by rw [mRl, q_86]; rfl, rfl⟩ (Nat.le_of_ble_eq_true rfl) (Nat.le_of_ble_eq_true rfl) d_MD_rule_106
        · skip
          have q_86 : ((!rlB a b d f) || (decide (nI n = 24))) = true := b_1 c_86
          refine lv_iconst (v := 0) S.1 S.2.1 d_MD_rule_89 (by decide) ?_
          subst hsf
          exact im_i S hk hr hO ⟨by rw [if_pos q_86], by rw [mRl, if_pos q_86], rfl⟩ (Nat.le_of_ble_eq_true rfl) (Nat.le_of_ble_eq_true rfl) d_MD_rule_90
      refine lv_aload_n S.1 S.2.1 d_MD_rule_68 rfl (lv_at hl 1 rfl) ?_
      refine g_get S hO fl_MD_94 (by decide) (sh_140 G ad _ _) (v := .int (σ 140 5)) rfl d_MD_rule_69 ?_
      refine W.eq (g2 := F0 m 72 ls [.int (nI n), .int (bI (!rlB a b d f)), .ref (ad 140)]) (by rw [show σ 140 5 = nI n from hmr]) ?_
      refine lv_bipush (v := 24) S.1 S.2.1 d_MD_rule_72 (by decide) ?_
      refine lv_icmp_ne (tgt := 81) S.1 S.2.1 d_MD_rule_74 (by decide) (fun c_74 => ?_) (fun c_74 => ?_)
      · skip
        refine lv_iconst (v := 0) S.1 S.2.1 d_MD_rule_81 (by decide) ?_
        exact J_82 _ (by simp [bI, c_74]) _ _ hO ls (lv_sub hl [0, 1, 2, 3, 4, 5] rfl)
      · skip
        refine lv_iconst (v := 1) S.1 S.2.1 d_MD_rule_77 (by decide) ?_
        refine lv_goto (tgt := 82) S.1 S.2.1 d_MD_rule_78 (by decide) ?_
        exact J_82 _ (by simp [bI, c_74]) _ _ hO ls (lv_sub hl [0, 1, 2, 3, 4, 5] rfl)
    refine lv_iload S.1 S.2.1 d_MD_rule_58 (lv_at hl 0 rfl) ?_
    refine lv_if_ne (tgt := 67) S.1 S.2.1 d_MD_rule_60 (by decide) (fun c_60 => ?_) (fun c_60 => ?_)
    · skip
      have q_60 : (rlB a b d f) = true := b_1 c_60
      refine lv_iconst (v := 0) S.1 S.2.1 d_MD_rule_67 (by decide) ?_
      exact J_68 _ (by simp [bI, q_60]) _ _ hO ls (lv_sub hl [0, 1, 2, 3, 4, 5] rfl)
    · skip
      have q_60 : (rlB a b d f) = false := b_0 c_60
      refine lv_iconst (v := 1) S.1 S.2.1 d_MD_rule_63 (by decide) ?_
      refine lv_goto (tgt := 68) S.1 S.2.1 d_MD_rule_64 (by decide) ?_
      exact J_68 _ (by simp [bI, q_60]) _ _ hO ls (lv_sub hl [0, 1, 2, 3, 4, 5] rfl)
  refine lv_iload_n S.1 S.2.1 d_MD_rule_0 rfl (lv_at hl 1 rfl) ?_
  refine lv_iconst (v := 1) S.1 S.2.1 d_MD_rule_1 (by decide) ?_
  refine lv_bipush (v := 100) S.1 S.2.1 d_MD_rule_2 (by decide) ?_
  refine g_SP (As := [.int a, .int 1, .int 100]) (rest := []) S hO (k_MD_in l G ad σ τ a 1 100) cw_MD_67 g_cfC hl.1 (Nat.le_of_ble_eq_true rfl) ⟨(Nat.le_of_ble_eq_true rfl), (Nat.le_of_ble_eq_true rfl)⟩ ⟨(Nat.le_of_ble_eq_true rfl), (Nat.le_of_ble_eq_true rfl)⟩ d_MD_rule_4 (fun q x ce H h9 => h9.elim) (fun v H v_6 hO => ?_)
  subst v_6
  refine W.eq (g2 := F0 m 7 ls [.int (bI (inB a 1 100))]) rfl ?_
  refine lv_if_eq (tgt := 54) S.1 S.2.1 d_MD_rule_7 (by decide) (fun c_7 => ?_) (fun c_7 => ?_)
  · skip
    have q_7 : (inB a 1 100) = false := b_0 c_7
    refine lv_iconst (v := 0) S.1 S.2.1 d_MD_rule_54 (by decide) ?_
    exact J_55 _ (by simp [bI, rlB, q_7]) _ _ hO ls (lv_sub hl [0, 1, 2, 3, 4] rfl)
  · skip
    have q_7 : (inB a 1 100) = true := b_1 c_7
    refine lv_iload_n S.1 S.2.1 d_MD_rule_10 rfl (lv_at hl 2 rfl) ?_
    refine lv_iconst (v := 0) S.1 S.2.1 d_MD_rule_11 (by decide) ?_
    refine lv_bipush (v := 10) S.1 S.2.1 d_MD_rule_12 (by decide) ?_
    refine g_SP (As := [.int b, .int 0, .int 10]) (rest := []) S hO (k_MD_in l G ad σ τ b 0 10) cw_MD_67 g_cfC hl.1 (Nat.le_of_ble_eq_true rfl) ⟨(Nat.le_of_ble_eq_true rfl), (Nat.le_of_ble_eq_true rfl)⟩ ⟨(Nat.le_of_ble_eq_true rfl), (Nat.le_of_ble_eq_true rfl)⟩ d_MD_rule_14 (fun q x ce H h9 => h9.elim) (fun v H v_7 hO => ?_)
    subst v_7
    refine W.eq (g2 := F0 m 17 ls [.int (bI (inB b 0 10))]) rfl ?_
    refine lv_if_eq (tgt := 54) S.1 S.2.1 d_MD_rule_17 (by decide) (fun c_17 => ?_) (fun c_17 => ?_)
    · skip
      have q_17 : (inB b 0 10) = false := b_0 c_17
      refine lv_iconst (v := 0) S.1 S.2.1 d_MD_rule_54 (by decide) ?_
      exact J_55 _ (by simp [bI, rlB, q_7, q_17]) _ _ hO ls (lv_sub hl [0, 1, 2, 3, 4] rfl)
    · skip
      have q_17 : (inB b 0 10) = true := b_1 c_17
      refine lv_iload_n S.1 S.2.1 d_MD_rule_20 rfl (lv_at hl 2 rfl) ?_
      refine lv_iload_n S.1 S.2.1 d_MD_rule_21 rfl (lv_at hl 3 rfl) ?_
      refine g_SP (As := [.int b, .int d]) (rest := []) S hO (k_MD_isA l G ad σ τ b d) cw_MD_100 g_cfC hl.1 (Nat.le_of_ble_eq_true rfl) ⟨(Nat.le_of_ble_eq_true rfl), (Nat.le_of_ble_eq_true rfl)⟩ ⟨(Nat.le_of_ble_eq_true rfl), (Nat.le_of_ble_eq_true rfl)⟩ d_MD_rule_22 (fun q x ce H h9 => h9.elim) (fun v H v_8 hO => ?_)
      subst v_8
      refine W.eq (g2 := F0 m 25 ls [.int (bI (isAB b d))]) rfl ?_
      refine lv_if_eq (tgt := 54) S.1 S.2.1 d_MD_rule_25 (by decide) (fun c_25 => ?_) (fun c_25 => ?_)
      · skip
        have q_25 : (isAB b d) = false := b_0 c_25
        refine lv_iconst (v := 0) S.1 S.2.1 d_MD_rule_54 (by decide) ?_
        exact J_55 _ (by simp [bI, rlB, q_7, q_17, q_25]) _ _ hO ls (lv_sub hl [0, 1, 2, 3, 4] rfl)
      · skip
        have q_25 : (isAB b d) = true := b_1 c_25
        refine lv_iload S.1 S.2.1 d_MD_rule_28 (lv_at hl 4 rfl) ?_
        refine lv_iconst (v := 0) S.1 S.2.1 d_MD_rule_30 (by decide) ?_
        have J_44 : ∀ (z : Int32), z = (if twB b = true then 7 else 0) → ∀ (H : Heap) (locs : List Loc), gO G (gA G) 159 ad (enc G ad σ τ) s H locs → ∀ ls : Array Slot, lv_has ls 6 [(0, .ref (ad 140)), (1, .int a), (2, .int b), (3, .int d), (4, .int f)] → W p l e { frames := 2, cells := 0, slots := 0, locals := 43 } s m args below meth c H locs 0 0 (gM below (gA G) 0 0 (fun v t => ∃ E1, (∃ σ1 τ1, E1 = enc G ad σ1 τ1 ∧ (fun v σ1 τ1 => v = some (.int (if (!rlB a b d f || decide (nI n = 24)) = true then 0 else nI n)) ∧ σ1 = mRl σ n a b d f ∧ τ1 = τ) v σ1 τ1) ∧ va_P G.1 gcl (gw 159 ad E1) t.heap) (fun x t => (fun _ => False) x ∧ va_P G.1 gcl (gw 159 ad (enc G ad σ τ)) t.heap) args s) (F0 m 44 ls (.int z :: [.int 0, .int f])) := by
          intro z ez H locs hO ls hl
          subst ez
          refine g_SP (As := [.int f, .int 0, .int (if twB b = true then 7 else 0)]) (rest := []) S hO (k_MD_in l G ad σ τ f 0 (if twB b = true then 7 else 0)) cw_MD_67 g_cfC hl.1 (Nat.le_of_ble_eq_true rfl) ⟨(Nat.le_of_ble_eq_true rfl), (Nat.le_of_ble_eq_true rfl)⟩ ⟨(Nat.le_of_ble_eq_true rfl), (Nat.le_of_ble_eq_true rfl)⟩ d_MD_rule_44 (fun q x ce H h9 => h9.elim) (fun v H v_9 hO => ?_)
          subst v_9
          refine W.eq (g2 := F0 m 47 ls [.int (bI (inB f 0 (if twB b = true then 7 else 0)))]) rfl ?_
          refine lv_if_eq (tgt := 54) S.1 S.2.1 d_MD_rule_47 (by decide) (fun c_47 => ?_) (fun c_47 => ?_)
          · skip
            have q_47 : (inB f 0 (if twB b = true then 7 else 0)) = false := b_0 c_47
            refine lv_iconst (v := 0) S.1 S.2.1 d_MD_rule_54 (by decide) ?_
            exact J_55 _ (by simp [bI, rlB, q_7, q_17, q_25, q_47]) _ _ hO ls (lv_sub hl [0, 1, 2, 3, 4] rfl)
          · skip
            have q_47 : (inB f 0 (if twB b = true then 7 else 0)) = true := b_1 c_47
            refine lv_iconst (v := 1) S.1 S.2.1 d_MD_rule_50 (by decide) ?_
            refine lv_goto (tgt := 55) S.1 S.2.1 d_MD_rule_51 (by decide) ?_
            exact J_55 _ (by simp [bI, rlB, q_7, q_17, q_25, q_47]) _ _ hO ls (lv_sub hl [0, 1, 2, 3, 4] rfl)
        refine lv_iload_n S.1 S.2.1 d_MD_rule_31 rfl (lv_at hl 2 rfl) ?_
        refine g_SP (As := [.int b]) (rest := [.int 0, .int f]) S hO (k_MD_isTwo l G ad σ τ b) cw_MD_104 g_cfC hl.1 (Nat.le_of_ble_eq_true rfl) ⟨(Nat.le_of_ble_eq_true rfl), (Nat.le_of_ble_eq_true rfl)⟩ ⟨(Nat.le_of_ble_eq_true rfl), (Nat.le_of_ble_eq_true rfl)⟩ d_MD_rule_32 (fun q x ce H h9 => h9.elim) (fun v H v_10 hO => ?_)
        subst v_10
        refine W.eq (g2 := F0 m 35 ls [.int (bI (twB b)), .int 0, .int f]) rfl ?_
        refine lv_if_eq (tgt := 43) S.1 S.2.1 d_MD_rule_35 (by decide) (fun c_35 => ?_) (fun c_35 => ?_)
        · skip
          have q_35 : (twB b) = false := b_0 c_35
          refine lv_iconst (v := 0) S.1 S.2.1 d_MD_rule_43 (by decide) ?_
          exact J_44 _ (by simp [bI, q_35]) _ _ hO ls (lv_sub hl [0, 1, 2, 3, 4] rfl)
        · skip
          have q_35 : (twB b) = true := b_1 c_35
          refine lv_bipush (v := 7) S.1 S.2.1 d_MD_rule_38 (by decide) ?_
          refine lv_goto (tgt := 44) S.1 S.2.1 d_MD_rule_40 (by decide) ?_
          exact J_44 _ (by simp [bI, q_35]) _ _ hO ls (lv_sub hl [0, 1, 2, 3, 4] rfl)
def mSg (σ : Nat → Nat → Int32) (a : Int32) (ns : Nat) : Nat → Nat → Int32 := if nI ns = 400 then up2 σ 140 0 0 else up2 (up2 (up2 σ 140 0 0) 156 ns (a &&& 255)) 140 22 (nI (ns + 1))
def bdO (a b : Int32) : Bool := !inB a 0 3 || !inB b 0 3
theorem bdO_1 {a b : Int32} (h : bdO a b = false) : inB a 0 3 = true := by
  simp only [bdO, Bool.or_eq_false_iff, Bool.not_eq_false'] at h
  exact h.1
def mOw (σ : Nat → Nat → Int32) (a b : Int32) : Nat → Nat → Int32 := if bdO a b = true then up2 σ 140 0 (fcd (bdO a b) false false) else up2 (up2 σ 140 0 (fcd (bdO a b) false false)) 153 a.toNatClampNeg b
def tkB (σ : Nat → Nat → Int32) (nu : Nat) (a : Int32) : Bool := unB nu a && !decide (0 ≤ σ 143 a.toNatClampNeg)
def mTk (σ : Nat → Nat → Int32) (nu : Nat) (a : Int32) : Nat → Nat → Int32 := if (!unB nu a || tkB σ nu a) = true then up2 σ 140 0 (fcd (!unB nu a) (tkB σ nu a) false) else up2 (up2 σ 140 0 (fcd (!unB nu a) (tkB σ nu a) false)) 143 a.toNatClampNeg (-1)
theorem nn_n {a : Int32} (h : (!decide (0 ≤ a)) = false) : ∃ u : Nat, u < 2 ^ 31 ∧ a = nI u := nI_of (Int32.not_lt.mpr (by simpa using h))
def mEx (σ : Nat → Nat → Int32) (a : Int32) : Int32 := if (!decide (0 ≤ a)) = true then 0 else if a < σ 140 20 then σ 155 a.toNatClampNeg else (-1)
def clB (a b : Int32) : Bool := decide (a < 0) || !inB b 0 1
def mCl (σ : Nat → Nat → Int32) (a b : Int32) : Int32 := if clB a b = true then 0 else if a < σ 140 18 then σ 154 (2 * a.toNatClampNeg + b.toNatClampNeg) else (-1)
theorem clB_1 {a b : Int32} (h : clB a b = false) : ¬ a < 0 := by
  simp only [clB, Bool.or_eq_false_iff, Bool.not_eq_false', decide_eq_false_iff_not] at h
  exact h.1
theorem clB_2 {a b : Int32} (h : clB a b = false) : inB b 0 1 = true := by
  simp only [clB, Bool.or_eq_false_iff, Bool.not_eq_false', decide_eq_false_iff_not] at h
  exact h.2
def cnM (σ : Nat → Nat → Int32) (a : Int32) : Int32 := if a = 0 then σ 140 5 else if a = 1 then σ 140 2 else if a = 2 then σ 140 11 else if a = 3 then σ 140 18 else if a = 4 then σ 140 22 else if a = 5 then σ 140 17 else (-1)
set_option maxHeartbeats 4000000 in
set_option maxRecDepth 100000 in
theorem k_MD_sign (l : Launch) (G : gP) (ad : Nat → Nat) (σ : Nat → Nat → Int32) (τ : Nat → Nat → Int64) (a : Int32) (ns : Nat) (hms : σ 140 22 = nI ns) (hs4 : ns ≤ 400) : gim l y_MD_sign c_MD_sign 2 (some .int) { frames := 0, cells := 0, slots := 0, locals := 0 } G ad σ τ [.ref (ad 140), .int a] 0 0 (fun v σ1 τ1 => v = some (.int (if nI ns = 400 then (-1) else nI (ns + 1))) ∧ σ1 = mSg σ a ns ∧ τ1 = τ) (fun _ => False) := by
  refine gs_of (fun _ h => h) (by decide) (Nat.le_of_ble_eq_true rfl) ?_
  intro p e s m args below meth c ls S hk hr hx hl hO
  have hl : lv_has ls 2 [(0, .ref (ad 140)), (1, .int a)] := hl
  refine lv_aload_n S.1 S.2.1 d_MD_sign_0 rfl (lv_at hl 0 rfl) ?_
  refine lv_iconst (v := 0) S.1 S.2.1 d_MD_sign_1 (by decide) ?_
  obtain ⟨s_1, hs_1⟩ : ∃ z : Nat → Nat → Int32, z = up2 σ 140 0 0 := ⟨_, rfl⟩
  refine g_put S hO (fun _ h => h) fp_MD_63 (by decide) (sh_140 G ad _ _) (v := .int 0) rfl rfl (Nat.le_of_ble_eq_true rfl) (E2 := enc G ad s_1 τ) (by rw [hs_1]; exact enc_i (sh_140 G ad _ _)) d_MD_sign_2 (fun H locs hO => ?_)
  refine lv_aload_n S.1 S.2.1 d_MD_sign_5 rfl (lv_at hl 0 rfl) ?_
  refine g_get S hO fl_MD_111 (by decide) (sh_140 G ad _ _) (v := .int (s_1 140 22)) rfl d_MD_sign_6 ?_
  refine W.eq (g2 := F0 m 9 ls [.int (nI ns)]) (by rw [show s_1 140 22 = nI ns from (by simp [hs_1, up2_at, hms])]) ?_
  refine lv_sipush (v := 400) S.1 S.2.1 d_MD_sign_9 (by decide) ?_
  refine lv_icmp_ne (tgt := 17) S.1 S.2.1 d_MD_sign_12 (by decide) (fun c_12 => ?_) (fun c_12 => ?_)
  · skip
    have hn : ns < 400 := by
      rcases Nat.lt_or_ge ns 400 with q9 | q9
      · exact q9
      · exact absurd (show nI ns = 400 by rw [show ns = 400 by omega]; rfl) c_12
    refine lv_aload_n S.1 S.2.1 d_MD_sign_17 rfl (lv_at hl 0 rfl) ?_
    refine g_get S hO fl_MD_56 (by decide) (sh_140 G ad _ _) (v := .ref (ad 156)) rfl d_MD_sign_18 ?_
    refine lv_aload_n S.1 S.2.1 d_MD_sign_21 rfl (lv_at hl 0 rfl) ?_
    refine g_get S hO fl_MD_111 (by decide) (sh_140 G ad _ _) (v := .int (s_1 140 22)) rfl d_MD_sign_22 ?_
    refine W.eq (g2 := F0 m 25 ls [.int (nI ns), .ref (ad 156)]) (by rw [show s_1 140 22 = nI ns from (by simp [hs_1, up2_at, hms])]) ?_
    refine lv_iload_n S.1 S.2.1 d_MD_sign_25 rfl (lv_at hl 1 rfl) ?_
    refine lv_sipush (v := 255) S.1 S.2.1 d_MD_sign_26 (by decide) ?_
    refine lv_iand S.1 S.2.1 d_MD_sign_29 ?_
    obtain ⟨s_2, hs_2⟩ : ∃ z : Nat → Nat → Int32, z = up2 s_1 156 ns (a &&& 255) := ⟨_, rfl⟩
    refine g_ias S hO (fun _ h => h) (by decide) (sh_156 G ad _ _) (vp_in_nI (show ns < 400 by omega) (by decide)) (E2 := enc G ad s_2 τ) (by rw [hs_2, nI_clamp (show ns < 2 ^ 31 by omega)]; exact enc_i (sh_156 G ad _ _)) d_MD_sign_30 (fun H locs hO => ?_)
    refine lv_aload_n S.1 S.2.1 d_MD_sign_31 rfl (lv_at hl 0 rfl) ?_
    refine lv_dup S.1 S.2.1 d_MD_sign_32 rfl ?_
    refine g_get S hO fl_MD_111 (by decide) (sh_140 G ad _ _) (v := .int (s_2 140 22)) rfl d_MD_sign_33 ?_
    refine W.eq (g2 := F0 m 36 ls [.int (nI ns), .ref (ad 140)]) (by rw [show s_2 140 22 = nI ns from (by simp [hs_2, hs_1, up2_at, hms])]) ?_
    refine lv_iconst (v := 1) S.1 S.2.1 d_MD_sign_36 (by decide) ?_
    refine lv_iadd S.1 S.2.1 d_MD_sign_37 ?_
    refine W.eq (g2 := F0 m 38 ls [.int (nI (ns + 1)), .ref (ad 140)]) (by rw [show (nI ns) + (1 : Int32) = nI (ns + 1) from nI_add ns 1]) ?_
    obtain ⟨s_3, hs_3⟩ : ∃ z : Nat → Nat → Int32, z = up2 s_2 140 22 (nI (ns + 1)) := ⟨_, rfl⟩
    refine g_put S hO (fun _ h => h) fp_MD_111 (by decide) (sh_140 G ad _ _) (v := .int (nI (ns + 1))) rfl rfl (Nat.le_of_ble_eq_true rfl) (E2 := enc G ad s_3 τ) (by rw [hs_3]; exact enc_i (sh_140 G ad _ _)) d_MD_sign_38 (fun H locs hO => ?_)
    refine lv_aload_n S.1 S.2.1 d_MD_sign_41 rfl (lv_at hl 0 rfl) ?_
    refine g_get S hO fl_MD_111 (by decide) (sh_140 G ad _ _) (v := .int (s_3 140 22)) rfl d_MD_sign_42 ?_
    refine W.eq (g2 := F0 m 45 ls [.int (nI (ns + 1))]) (by rw [show s_3 140 22 = nI (ns + 1) from (by simp [hs_3, hs_2, hs_1, up2_at])]) ?_
    subst hs_3
    subst hs_2
    subst hs_1
    exact im_i S hk hr hO ⟨by rw [if_neg c_12], by rw [mSg, if_neg c_12], rfl⟩ (Nat.le_of_ble_eq_true rfl) (Nat.le_of_ble_eq_true rfl) d_MD_sign_45
  · skip
    refine lv_iconst (v := (-1)) S.1 S.2.1 d_MD_sign_15 (by decide) ?_
    subst hs_1
    exact im_i S hk hr hO ⟨by rw [if_pos c_12], by rw [mSg, if_pos c_12], rfl⟩ (Nat.le_of_ble_eq_true rfl) (Nat.le_of_ble_eq_true rfl) d_MD_sign_16
set_option maxHeartbeats 4000000 in
set_option maxRecDepth 100000 in
theorem k_MD_own (l : Launch) (G : gP) (ad : Nat → Nat) (σ : Nat → Nat → Int32) (τ : Nat → Nat → Int64) (a b : Int32) : gim l y_MD_own c_MD_own 3 none { frames := 1, cells := 0, slots := 0, locals := 23 } G ad σ τ [.ref (ad 140), .int a, .int b] 0 0 (fun v σ1 τ1 => v = none ∧ σ1 = mOw σ a b ∧ τ1 = τ) (fun _ => False) := by
  refine gs_of (fun _ h => h) (by decide) (Nat.le_of_ble_eq_true rfl) ?_
  intro p e s m args below meth c ls S hk hr hx hl hO
  have hl : lv_has ls 3 [(0, .ref (ad 140)), (1, .int a), (2, .int b)] := hl
  refine lv_aload_n S.1 S.2.1 d_MD_own_0 rfl (lv_at hl 0 rfl) ?_
  have J_24 : ∀ (z : Int32), z = (bI (bdO a b)) → ∀ (H : Heap) (locs : List Loc), gO G (gA G) 159 ad (enc G ad σ τ) s H locs → ∀ ls : Array Slot, lv_has ls 3 [(0, .ref (ad 140)), (1, .int a), (2, .int b)] → W p l e { frames := 1, cells := 0, slots := 0, locals := 23 } s m args below meth c H locs 0 0 (gM below (gA G) 0 0 (fun v t => ∃ E1, (∃ σ1 τ1, E1 = enc G ad σ1 τ1 ∧ (fun v σ1 τ1 => v = none ∧ σ1 = mOw σ a b ∧ τ1 = τ) v σ1 τ1) ∧ va_P G.1 gcl (gw 159 ad E1) t.heap) (fun x t => (fun _ => False) x ∧ va_P G.1 gcl (gw 159 ad (enc G ad σ τ)) t.heap) args s) (F0 m 24 ls (.int z :: [.ref (ad 140)])) := by
    intro z ez H locs hO ls hl
    subst ez
    refine lv_iconst (v := 0) S.1 S.2.1 d_MD_own_24 (by decide) ?_
    refine lv_iconst (v := 0) S.1 S.2.1 d_MD_own_25 (by decide) ?_
    refine g_VI (As := [.int (bI (bdO a b)), .int 0, .int 0]) (rest := []) S hO (fun _ h => h) (k_MD_fails1 l G ad σ τ (bdO a b)) cw_MD_78 (by decide) (sh_140 G ad _ _) rfl rfl hl.1 (Nat.le_of_ble_eq_true rfl) ⟨(Nat.le_of_ble_eq_true rfl), (Nat.le_of_ble_eq_true rfl)⟩ ⟨(Nat.le_of_ble_eq_true rfl), (Nat.le_of_ble_eq_true rfl)⟩ d_MD_own_26 (fun q x ce H locs h9 => h9.elim) (fun v E1 H locs v_1 hO => ?_)
    obtain ⟨s_2, t_3, rfl, rfl, hs_2, ht_3⟩ := v_1
    rw [ht_3] at hO
    refine W.eq (g2 := F0 m 29 ls [.int (bI (bdO a b))]) rfl ?_
    refine lv_if_ne (tgt := 39) S.1 S.2.1 d_MD_own_29 (by decide) (fun c_29 => ?_) (fun c_29 => ?_)
    · skip
      have q_29 : (bdO a b) = true := b_1 c_29
      subst hs_2
      exact im_v S hk hr hO ⟨rfl, by rw [mOw, if_pos q_29], rfl⟩ (Nat.le_of_ble_eq_true rfl) (Nat.le_of_ble_eq_true rfl) d_MD_own_39
    · skip
      have q_29 : (bdO a b) = false := b_0 c_29
      obtain ⟨u, hu, rfl⟩ := inB_n (n := 3) (by decide) (bdO_1 q_29)
      refine lv_aload_n S.1 S.2.1 d_MD_own_32 rfl (lv_at hl 0 rfl) ?_
      refine g_get S hO fl_MD_47 (by decide) (sh_140 G ad _ _) (v := .ref (ad 153)) rfl d_MD_own_33 ?_
      refine lv_iload_n S.1 S.2.1 d_MD_own_36 rfl (lv_at hl 1 rfl) ?_
      refine lv_iload_n S.1 S.2.1 d_MD_own_37 rfl (lv_at hl 2 rfl) ?_
      obtain ⟨s_4, hs_4⟩ : ∃ z : Nat → Nat → Int32, z = up2 s_2 153 u b := ⟨_, rfl⟩
      refine g_ias S hO (fun _ h => h) (by decide) (sh_153 G ad _ _) (vp_in_nI (show u < 4 by omega) (by decide)) (E2 := enc G ad s_4 τ) (by rw [hs_4, nI_clamp (show u < 2 ^ 31 by omega)]; exact enc_i (sh_153 G ad _ _)) d_MD_own_38 (fun H locs hO => ?_)
      subst hs_4
      subst hs_2
      exact im_v S hk hr hO ⟨rfl, by rw [mOw, q_29, nI_clamp (show u < 2 ^ 31 by omega)]; rfl, rfl⟩ (Nat.le_of_ble_eq_true rfl) (Nat.le_of_ble_eq_true rfl) d_MD_own_39
  refine lv_iload_n S.1 S.2.1 d_MD_own_1 rfl (lv_at hl 1 rfl) ?_
  refine lv_iconst (v := 0) S.1 S.2.1 d_MD_own_2 (by decide) ?_
  refine lv_iconst (v := 3) S.1 S.2.1 d_MD_own_3 (by decide) ?_
  refine g_SP (As := [.int a, .int 0, .int 3]) (rest := [.ref (ad 140)]) S hO (k_MD_in l G ad σ τ a 0 3) cw_MD_67 g_cfC hl.1 (Nat.le_of_ble_eq_true rfl) ⟨(Nat.le_of_ble_eq_true rfl), (Nat.le_of_ble_eq_true rfl)⟩ ⟨(Nat.le_of_ble_eq_true rfl), (Nat.le_of_ble_eq_true rfl)⟩ d_MD_own_4 (fun q x ce H h9 => h9.elim) (fun v H v_5 hO => ?_)
  subst v_5
  refine W.eq (g2 := F0 m 7 ls [.int (bI (inB a 0 3)), .ref (ad 140)]) rfl ?_
  refine lv_if_eq (tgt := 19) S.1 S.2.1 d_MD_own_7 (by decide) (fun c_7 => ?_) (fun c_7 => ?_)
  · skip
    have q_7 : (inB a 0 3) = false := b_0 c_7
    refine lv_iconst (v := 1) S.1 S.2.1 d_MD_own_19 (by decide) ?_
    refine lv_goto (tgt := 24) S.1 S.2.1 d_MD_own_20 (by decide) ?_
    exact J_24 _ (by simp [bI, bdO, q_7]) _ _ hO ls (lv_sub hl [0, 1, 2] rfl)
  · skip
    have q_7 : (inB a 0 3) = true := b_1 c_7
    refine lv_iload_n S.1 S.2.1 d_MD_own_10 rfl (lv_at hl 2 rfl) ?_
    refine lv_iconst (v := 0) S.1 S.2.1 d_MD_own_11 (by decide) ?_
    refine lv_iconst (v := 3) S.1 S.2.1 d_MD_own_12 (by decide) ?_
    refine g_SP (As := [.int b, .int 0, .int 3]) (rest := [.ref (ad 140)]) S hO (k_MD_in l G ad σ τ b 0 3) cw_MD_67 g_cfC hl.1 (Nat.le_of_ble_eq_true rfl) ⟨(Nat.le_of_ble_eq_true rfl), (Nat.le_of_ble_eq_true rfl)⟩ ⟨(Nat.le_of_ble_eq_true rfl), (Nat.le_of_ble_eq_true rfl)⟩ d_MD_own_13 (fun q x ce H h9 => h9.elim) (fun v H v_6 hO => ?_)
    subst v_6
    refine W.eq (g2 := F0 m 16 ls [.int (bI (inB b 0 3)), .ref (ad 140)]) rfl ?_
    refine lv_if_ne (tgt := 23) S.1 S.2.1 d_MD_own_16 (by decide) (fun c_16 => ?_) (fun c_16 => ?_)
    · skip
      have q_16 : (inB b 0 3) = true := b_1 c_16
      refine lv_iconst (v := 0) S.1 S.2.1 d_MD_own_23 (by decide) ?_
      exact J_24 _ (by simp [bI, bdO, q_7, q_16]) _ _ hO ls (lv_sub hl [0, 1, 2] rfl)
    · skip
      have q_16 : (inB b 0 3) = false := b_0 c_16
      refine lv_iconst (v := 1) S.1 S.2.1 d_MD_own_19 (by decide) ?_
      refine lv_goto (tgt := 24) S.1 S.2.1 d_MD_own_20 (by decide) ?_
      exact J_24 _ (by simp [bI, bdO, q_7, q_16]) _ _ hO ls (lv_sub hl [0, 1, 2] rfl)
set_option maxHeartbeats 4000000 in
set_option maxRecDepth 100000 in
theorem k_MD_take (l : Launch) (G : gP) (ad : Nat → Nat) (σ : Nat → Nat → Int32) (τ : Nat → Nat → Int64) (a : Int32) (nu : Nat) (hmu : σ 140 2 = nI nu) (hn4 : nu ≤ 40) : gim l y_MD_take c_MD_take 2 none { frames := 2, cells := 0, slots := 0, locals := 43 } G ad σ τ [.ref (ad 140), .int a] 0 0 (fun v σ1 τ1 => v = none ∧ σ1 = mTk σ nu a ∧ τ1 = τ) (fun _ => False) := by
  refine gs_of (fun _ h => h) (by decide) (Nat.le_of_ble_eq_true rfl) ?_
  intro p e s m args below meth c ls S hk hr hx hl hO
  have hl : lv_has ls 2 [(0, .ref (ad 140)), (1, .int a)] := hl
  refine lv_aload_n S.1 S.2.1 d_MD_take_0 rfl (lv_at hl 0 rfl) ?_
  have J_14 : ∀ (z : Int32), z = (bI (!unB nu a)) → ∀ (H : Heap) (locs : List Loc), gO G (gA G) 159 ad (enc G ad σ τ) s H locs → ∀ ls : Array Slot, lv_has ls 2 [(0, .ref (ad 140)), (1, .int a)] → W p l e { frames := 2, cells := 0, slots := 0, locals := 43 } s m args below meth c H locs 0 0 (gM below (gA G) 0 0 (fun v t => ∃ E1, (∃ σ1 τ1, E1 = enc G ad σ1 τ1 ∧ (fun v σ1 τ1 => v = none ∧ σ1 = mTk σ nu a ∧ τ1 = τ) v σ1 τ1) ∧ va_P G.1 gcl (gw 159 ad E1) t.heap) (fun x t => (fun _ => False) x ∧ va_P G.1 gcl (gw 159 ad (enc G ad σ τ)) t.heap) args s) (F0 m 14 ls (.int z :: [.ref (ad 140)])) := by
    intro z ez H locs hO ls hl
    subst ez
    have J_36 : ∀ (z : Int32), z = (bI (tkB σ nu a)) → ∀ (H : Heap) (locs : List Loc), gO G (gA G) 159 ad (enc G ad σ τ) s H locs → ∀ ls : Array Slot, lv_has ls 2 [(0, .ref (ad 140)), (1, .int a)] → W p l e { frames := 2, cells := 0, slots := 0, locals := 43 } s m args below meth c H locs 0 0 (gM below (gA G) 0 0 (fun v t => ∃ E1, (∃ σ1 τ1, E1 = enc G ad σ1 τ1 ∧ (fun v σ1 τ1 => v = none ∧ σ1 = mTk σ nu a ∧ τ1 = τ) v σ1 τ1) ∧ va_P G.1 gcl (gw 159 ad E1) t.heap) (fun x t => (fun _ => False) x ∧ va_P G.1 gcl (gw 159 ad (enc G ad σ τ)) t.heap) args s) (F0 m 36 ls (.int z :: [.int (bI (!unB nu a)), .ref (ad 140)])) := by
      intro z ez H locs hO ls hl
      subst ez
      refine lv_iconst (v := 0) S.1 S.2.1 d_MD_take_36 (by decide) ?_
      refine g_VI (As := [.int (bI (!unB nu a)), .int (bI (tkB σ nu a)), .int 0]) (rest := []) S hO (fun _ h => h) (k_MD_fails2 l G ad σ τ (!unB nu a) (tkB σ nu a)) cw_MD_78 (by decide) (sh_140 G ad _ _) rfl rfl hl.1 (Nat.le_of_ble_eq_true rfl) ⟨(Nat.le_of_ble_eq_true rfl), (Nat.le_of_ble_eq_true rfl)⟩ ⟨(Nat.le_of_ble_eq_true rfl), (Nat.le_of_ble_eq_true rfl)⟩ d_MD_take_37 (fun q x ce H locs h9 => h9.elim) (fun v E1 H locs v_1 hO => ?_)
      obtain ⟨s_2, t_3, rfl, rfl, hs_2, ht_3⟩ := v_1
      rw [ht_3] at hO
      refine W.eq (g2 := F0 m 40 ls [.int (bI ((!unB nu a) || (tkB σ nu a)))]) rfl ?_
      refine lv_if_ne (tgt := 50) S.1 S.2.1 d_MD_take_40 (by decide) (fun c_40 => ?_) (fun c_40 => ?_)
      · skip
        have q_40 : ((!unB nu a) || (tkB σ nu a)) = true := b_1 c_40
        subst hs_2
        exact im_v S hk hr hO ⟨rfl, by rw [mTk, if_pos q_40], rfl⟩ (Nat.le_of_ble_eq_true rfl) (Nat.le_of_ble_eq_true rfl) d_MD_take_50
      · skip
        have q_40 : ((!unB nu a) || (tkB σ nu a)) = false := b_0 c_40
        obtain ⟨u, hu, rfl⟩ := unB_n (by omega) (or2_1 q_40)
        refine lv_aload_n S.1 S.2.1 d_MD_take_43 rfl (lv_at hl 0 rfl) ?_
        refine g_get S hO fl_MD_16 (by decide) (sh_140 G ad _ _) (v := .ref (ad 143)) rfl d_MD_take_44 ?_
        refine lv_iload_n S.1 S.2.1 d_MD_take_47 rfl (lv_at hl 1 rfl) ?_
        refine lv_iconst (v := (-1)) S.1 S.2.1 d_MD_take_48 (by decide) ?_
        obtain ⟨s_4, hs_4⟩ : ∃ z : Nat → Nat → Int32, z = up2 s_2 143 u (-1) := ⟨_, rfl⟩
        refine g_ias S hO (fun _ h => h) (by decide) (sh_143 G ad _ _) (vp_in_nI (show u < 40 by omega) (by decide)) (E2 := enc G ad s_4 τ) (by rw [hs_4, nI_clamp (show u < 2 ^ 31 by omega)]; exact enc_i (sh_143 G ad _ _)) d_MD_take_49 (fun H locs hO => ?_)
        subst hs_4
        subst hs_2
        exact im_v S hk hr hO ⟨rfl, by rw [mTk, q_40, nI_clamp (show u < 2 ^ 31 by omega)]; rfl, rfl⟩ (Nat.le_of_ble_eq_true rfl) (Nat.le_of_ble_eq_true rfl) d_MD_take_50
    refine lv_aload_n S.1 S.2.1 d_MD_take_14 rfl (lv_at hl 0 rfl) ?_
    refine lv_iload_n S.1 S.2.1 d_MD_take_15 rfl (lv_at hl 1 rfl) ?_
    refine g_VP (As := [.int a]) (rest := [.int (bI (!unB nu a)), .ref (ad 140)]) S hO (k_MD_isUnit l G ad σ τ a nu hmu) cw_MD_91 (by decide) (sh_140 G ad _ _) rfl rfl hl.1 (Nat.le_of_ble_eq_true rfl) ⟨(Nat.le_of_ble_eq_true rfl), (Nat.le_of_ble_eq_true rfl)⟩ ⟨(Nat.le_of_ble_eq_true rfl), (Nat.le_of_ble_eq_true rfl)⟩ d_MD_take_16 (fun q x ce H h9 => h9.elim) (fun v H v_5 hO => ?_)
    subst v_5
    refine W.eq (g2 := F0 m 19 ls [.int (bI (unB nu a)), .int (bI (!unB nu a)), .ref (ad 140)]) rfl ?_
    refine lv_if_eq (tgt := 35) S.1 S.2.1 d_MD_take_19 (by decide) (fun c_19 => ?_) (fun c_19 => ?_)
    · skip
      have q_19 : (unB nu a) = false := b_0 c_19
      refine lv_iconst (v := 0) S.1 S.2.1 d_MD_take_35 (by decide) ?_
      exact J_36 _ (by simp [bI, tkB, q_19]) _ _ hO ls (lv_sub hl [0, 1] rfl)
    · skip
      have q_19 : (unB nu a) = true := b_1 c_19
      obtain ⟨u, hu, rfl⟩ := unB_n (by omega) q_19
      refine lv_aload_n S.1 S.2.1 d_MD_take_22 rfl (lv_at hl 0 rfl) ?_
      refine g_get S hO fl_MD_16 (by decide) (sh_140 G ad _ _) (v := .ref (ad 143)) rfl d_MD_take_23 ?_
      refine lv_iload_n S.1 S.2.1 d_MD_take_26 rfl (lv_at hl 1 rfl) ?_
      refine g_ial S hO (by decide) (sh_143 G ad _ _) (vp_in_nI (show u < 40 by omega) (by decide)) d_MD_take_27 ?_
      refine W.eq (g2 := F0 m 28 ls [.int (σ 143 u), .int (bI (!unB nu (nI u))), .ref (ad 140)]) (by rw [nI_clamp (show u < 2 ^ 31 by omega)]) ?_
      refine lv_if_ge (tgt := 35) S.1 S.2.1 d_MD_take_28 (by decide) (fun c_28 => ?_) (fun c_28 => ?_)
      · skip
        refine lv_iconst (v := 0) S.1 S.2.1 d_MD_take_35 (by decide) ?_
        exact J_36 _ (by simp [bI, tkB, q_19, nI_clamp (show u < 2 ^ 31 by omega), c_28]; try exact Int32.not_le.mp c_28) _ _ hO ls (lv_sub hl [0, 1] rfl)
      · skip
        refine lv_iconst (v := 1) S.1 S.2.1 d_MD_take_31 (by decide) ?_
        refine lv_goto (tgt := 36) S.1 S.2.1 d_MD_take_32 (by decide) ?_
        exact J_36 _ (by simp [bI, tkB, q_19, nI_clamp (show u < 2 ^ 31 by omega), c_28]; try exact Int32.not_le.mp c_28) _ _ hO ls (lv_sub hl [0, 1] rfl)
  refine lv_aload_n S.1 S.2.1 d_MD_take_1 rfl (lv_at hl 0 rfl) ?_
  refine lv_iload_n S.1 S.2.1 d_MD_take_2 rfl (lv_at hl 1 rfl) ?_
  refine g_VP (As := [.int a]) (rest := [.ref (ad 140)]) S hO (k_MD_isUnit l G ad σ τ a nu hmu) cw_MD_91 (by decide) (sh_140 G ad _ _) rfl rfl hl.1 (Nat.le_of_ble_eq_true rfl) ⟨(Nat.le_of_ble_eq_true rfl), (Nat.le_of_ble_eq_true rfl)⟩ ⟨(Nat.le_of_ble_eq_true rfl), (Nat.le_of_ble_eq_true rfl)⟩ d_MD_take_3 (fun q x ce H h9 => h9.elim) (fun v H v_6 hO => ?_)
  subst v_6
  refine W.eq (g2 := F0 m 6 ls [.int (bI (unB nu a)), .ref (ad 140)]) rfl ?_
  refine lv_if_ne (tgt := 13) S.1 S.2.1 d_MD_take_6 (by decide) (fun c_6 => ?_) (fun c_6 => ?_)
  · skip
    have q_6 : (unB nu a) = true := b_1 c_6
    refine lv_iconst (v := 0) S.1 S.2.1 d_MD_take_13 (by decide) ?_
    exact J_14 _ (by simp [bI, q_6]) _ _ hO ls (lv_sub hl [0, 1] rfl)
  · skip
    have q_6 : (unB nu a) = false := b_0 c_6
    refine lv_iconst (v := 1) S.1 S.2.1 d_MD_take_9 (by decide) ?_
    refine lv_goto (tgt := 14) S.1 S.2.1 d_MD_take_10 (by decide) ?_
    exact J_14 _ (by simp [bI, q_6]) _ _ hO ls (lv_sub hl [0, 1] rfl)
set_option maxHeartbeats 4000000 in
set_option maxRecDepth 100000 in
theorem k_MD_explain (l : Launch) (G : gP) (ad : Nat → Nat) (σ : Nat → Nat → Int32) (τ : Nat → Nat → Int64) (a : Int32) (nt : Nat) (hmt : σ 140 20 = nI nt) (hn24 : nt ≤ 24) : gim l y_MD_explain c_MD_explain 2 (some .int) { frames := 1, cells := 0, slots := 0, locals := 23 } G ad σ τ [.ref (ad 140), .int a] 0 0 (fun v σ1 τ1 => v = some (.int (mEx σ a)) ∧ σ1 = up2 σ 140 0 (fcd (!decide (0 ≤ a)) false false) ∧ τ1 = τ) (fun _ => False) := by
  refine gs_of (fun _ h => h) (by decide) (Nat.le_of_ble_eq_true rfl) ?_
  intro p e s m args below meth c ls S hk hr hx hl hO
  have hl : lv_has ls 2 [(0, .ref (ad 140)), (1, .int a)] := hl
  refine lv_aload_n S.1 S.2.1 d_MD_explain_0 rfl (lv_at hl 0 rfl) ?_
  have J_10 : ∀ (z : Int32), z = (bI (!decide (0 ≤ a))) → ∀ (H : Heap) (locs : List Loc), gO G (gA G) 159 ad (enc G ad σ τ) s H locs → ∀ ls : Array Slot, lv_has ls 2 [(0, .ref (ad 140)), (1, .int a)] → W p l e { frames := 1, cells := 0, slots := 0, locals := 23 } s m args below meth c H locs 0 0 (gM below (gA G) 0 0 (fun v t => ∃ E1, (∃ σ1 τ1, E1 = enc G ad σ1 τ1 ∧ (fun v σ1 τ1 => v = some (.int (mEx σ a)) ∧ σ1 = up2 σ 140 0 (fcd (!decide (0 ≤ a)) false false) ∧ τ1 = τ) v σ1 τ1) ∧ va_P G.1 gcl (gw 159 ad E1) t.heap) (fun x t => (fun _ => False) x ∧ va_P G.1 gcl (gw 159 ad (enc G ad σ τ)) t.heap) args s) (F0 m 10 ls (.int z :: [.ref (ad 140)])) := by
    intro z ez H locs hO ls hl
    subst ez
    refine lv_iconst (v := 0) S.1 S.2.1 d_MD_explain_10 (by decide) ?_
    refine lv_iconst (v := 0) S.1 S.2.1 d_MD_explain_11 (by decide) ?_
    refine g_VI (As := [.int (bI (!decide (0 ≤ a))), .int 0, .int 0]) (rest := []) S hO (fun _ h => h) (k_MD_fails1 l G ad σ τ (!decide (0 ≤ a))) cw_MD_78 (by decide) (sh_140 G ad _ _) rfl rfl hl.1 (Nat.le_of_ble_eq_true rfl) ⟨(Nat.le_of_ble_eq_true rfl), (Nat.le_of_ble_eq_true rfl)⟩ ⟨(Nat.le_of_ble_eq_true rfl), (Nat.le_of_ble_eq_true rfl)⟩ d_MD_explain_12 (fun q x ce H locs h9 => h9.elim) (fun v E1 H locs v_1 hO => ?_)
    obtain ⟨s_2, t_3, rfl, rfl, hs_2, ht_3⟩ := v_1
    rw [ht_3] at hO
    refine W.eq (g2 := F0 m 15 ls [.int (bI (!decide (0 ≤ a)))]) rfl ?_
    refine lv_if_eq (tgt := 22) S.1 S.2.1 d_MD_explain_15 (by decide) (fun c_15 => ?_) (fun c_15 => ?_)
    · skip
      have q_15 : (!decide (0 ≤ a)) = false := b_0 c_15
      obtain ⟨u, hu, rfl⟩ := nn_n q_15
      refine lv_iload_n S.1 S.2.1 d_MD_explain_22 rfl (lv_at hl 1 rfl) ?_
      refine lv_aload_n S.1 S.2.1 d_MD_explain_23 rfl (lv_at hl 0 rfl) ?_
      refine g_get S hO fl_MD_190 (by decide) (sh_140 G ad _ _) (v := .int (s_2 140 20)) rfl d_MD_explain_24 ?_
      refine W.eq (g2 := F0 m 27 ls [.int (nI nt), .int (nI u)]) (by rw [show s_2 140 20 = nI nt from (by simp [hs_2, up2_at, hmt])]) ?_
      refine lv_icmp_ge (tgt := 39) S.1 S.2.1 d_MD_explain_27 (by decide) (fun c_27 => ?_) (fun c_27 => ?_)
      · skip
        refine lv_iconst (v := (-1)) S.1 S.2.1 d_MD_explain_39 (by decide) ?_
        subst hs_2
        exact im_i S hk hr hO ⟨by rw [mEx, q_15, if_neg (by decide), if_neg (by rw [hmt]; exact Int32.not_lt.mpr c_27)], rfl, rfl⟩ (Nat.le_of_ble_eq_true rfl) (Nat.le_of_ble_eq_true rfl) d_MD_explain_40
      · skip
        have hut : u < nt := ngt_nI (x := nI nt) rfl rfl (by omega) (by omega) c_27
        refine lv_aload_n S.1 S.2.1 d_MD_explain_30 rfl (lv_at hl 0 rfl) ?_
        refine g_get S hO fl_MD_53 (by decide) (sh_140 G ad _ _) (v := .ref (ad 155)) rfl d_MD_explain_31 ?_
        refine lv_iload_n S.1 S.2.1 d_MD_explain_34 rfl (lv_at hl 1 rfl) ?_
        refine g_ial S hO (by decide) (sh_155 G ad _ _) (vp_in_nI (show u < 24 by omega) (by decide)) d_MD_explain_35 ?_
        refine W.eq (g2 := F0 m 36 ls [.int (s_2 155 u)]) (by rw [nI_clamp (show u < 2 ^ 31 by omega)]) ?_
        refine lv_goto (tgt := 40) S.1 S.2.1 d_MD_explain_36 (by decide) ?_
        subst hs_2
        exact im_i S hk hr hO ⟨by rw [mEx, q_15, if_neg (by decide), if_pos (by rw [hmt]; exact Int32.not_le.mp c_27), up2_k (by decide), nI_clamp (by omega)], rfl, rfl⟩ (Nat.le_of_ble_eq_true rfl) (Nat.le_of_ble_eq_true rfl) d_MD_explain_40
    · skip
      have q_15 : (!decide (0 ≤ a)) = true := b_1 c_15
      refine lv_iconst (v := 0) S.1 S.2.1 d_MD_explain_18 (by decide) ?_
      refine lv_goto (tgt := 40) S.1 S.2.1 d_MD_explain_19 (by decide) ?_
      subst hs_2
      exact im_i S hk hr hO ⟨by rw [mEx, if_pos q_15], rfl, rfl⟩ (Nat.le_of_ble_eq_true rfl) (Nat.le_of_ble_eq_true rfl) d_MD_explain_40
  refine lv_iload_n S.1 S.2.1 d_MD_explain_1 rfl (lv_at hl 1 rfl) ?_
  refine lv_if_ge (tgt := 9) S.1 S.2.1 d_MD_explain_2 (by decide) (fun c_2 => ?_) (fun c_2 => ?_)
  · skip
    refine lv_iconst (v := 0) S.1 S.2.1 d_MD_explain_9 (by decide) ?_
    exact J_10 _ (by simp [bI, c_2, Int32.not_lt.mpr c_2]) _ _ hO ls (lv_sub hl [0, 1] rfl)
  · skip
    refine lv_iconst (v := 1) S.1 S.2.1 d_MD_explain_5 (by decide) ?_
    refine lv_goto (tgt := 10) S.1 S.2.1 d_MD_explain_6 (by decide) ?_
    exact J_10 _ (by simp [bI, c_2, Int32.not_le.mp c_2]) _ _ hO ls (lv_sub hl [0, 1] rfl)
set_option maxHeartbeats 4000000 in
set_option maxRecDepth 100000 in
theorem k_MD_clash (l : Launch) (G : gP) (ad : Nat → Nat) (σ : Nat → Nat → Int32) (τ : Nat → Nat → Int64) (a b : Int32) (nc : Nat) (hmc : σ 140 18 = nI nc) (hc2 : nc ≤ 276) : gim l y_MD_clash c_MD_clash 3 (some .int) { frames := 1, cells := 0, slots := 0, locals := 23 } G ad σ τ [.ref (ad 140), .int a, .int b] 0 0 (fun v σ1 τ1 => v = some (.int (mCl σ a b)) ∧ σ1 = up2 σ 140 0 (fcd (clB a b) false false) ∧ τ1 = τ) (fun _ => False) := by
  refine gs_of (fun _ h => h) (by decide) (Nat.le_of_ble_eq_true rfl) ?_
  intro p e s m args below meth c ls S hk hr hx hl hO
  have hl : lv_has ls 3 [(0, .ref (ad 140)), (1, .int a), (2, .int b)] := hl
  refine lv_aload_n S.1 S.2.1 d_MD_clash_0 rfl (lv_at hl 0 rfl) ?_
  have J_19 : ∀ (z : Int32), z = (bI (clB a b)) → ∀ (H : Heap) (locs : List Loc), gO G (gA G) 159 ad (enc G ad σ τ) s H locs → ∀ ls : Array Slot, lv_has ls 3 [(0, .ref (ad 140)), (1, .int a), (2, .int b)] → W p l e { frames := 1, cells := 0, slots := 0, locals := 23 } s m args below meth c H locs 0 0 (gM below (gA G) 0 0 (fun v t => ∃ E1, (∃ σ1 τ1, E1 = enc G ad σ1 τ1 ∧ (fun v σ1 τ1 => v = some (.int (mCl σ a b)) ∧ σ1 = up2 σ 140 0 (fcd (clB a b) false false) ∧ τ1 = τ) v σ1 τ1) ∧ va_P G.1 gcl (gw 159 ad E1) t.heap) (fun x t => (fun _ => False) x ∧ va_P G.1 gcl (gw 159 ad (enc G ad σ τ)) t.heap) args s) (F0 m 19 ls (.int z :: [.ref (ad 140)])) := by
    intro z ez H locs hO ls hl
    subst ez
    refine lv_iconst (v := 0) S.1 S.2.1 d_MD_clash_19 (by decide) ?_
    refine lv_iconst (v := 0) S.1 S.2.1 d_MD_clash_20 (by decide) ?_
    refine g_VI (As := [.int (bI (clB a b)), .int 0, .int 0]) (rest := []) S hO (fun _ h => h) (k_MD_fails1 l G ad σ τ (clB a b)) cw_MD_78 (by decide) (sh_140 G ad _ _) rfl rfl hl.1 (Nat.le_of_ble_eq_true rfl) ⟨(Nat.le_of_ble_eq_true rfl), (Nat.le_of_ble_eq_true rfl)⟩ ⟨(Nat.le_of_ble_eq_true rfl), (Nat.le_of_ble_eq_true rfl)⟩ d_MD_clash_21 (fun q x ce H locs h9 => h9.elim) (fun v E1 H locs v_1 hO => ?_)
    obtain ⟨s_2, t_3, rfl, rfl, hs_2, ht_3⟩ := v_1
    rw [ht_3] at hO
    refine W.eq (g2 := F0 m 24 ls [.int (bI (clB a b))]) rfl ?_
    refine lv_if_eq (tgt := 31) S.1 S.2.1 d_MD_clash_24 (by decide) (fun c_24 => ?_) (fun c_24 => ?_)
    · skip
      have q_24 : (clB a b) = false := b_0 c_24
      obtain ⟨u, hu, rfl⟩ := nI_of (clB_1 q_24)
      obtain ⟨q, hq, rfl⟩ := inB_n (n := 1) (by decide) (clB_2 q_24)
      refine lv_iload_n S.1 S.2.1 d_MD_clash_31 rfl (lv_at hl 1 rfl) ?_
      refine lv_aload_n S.1 S.2.1 d_MD_clash_32 rfl (lv_at hl 0 rfl) ?_
      refine g_get S hO fl_MD_97 (by decide) (sh_140 G ad _ _) (v := .int (s_2 140 18)) rfl d_MD_clash_33 ?_
      refine W.eq (g2 := F0 m 36 ls [.int (nI nc), .int (nI u)]) (by rw [show s_2 140 18 = nI nc from (by simp [hs_2, up2_at, hmc])]) ?_
      refine lv_icmp_ge (tgt := 52) S.1 S.2.1 d_MD_clash_36 (by decide) (fun c_36 => ?_) (fun c_36 => ?_)
      · skip
        refine lv_iconst (v := (-1)) S.1 S.2.1 d_MD_clash_52 (by decide) ?_
        subst hs_2
        exact im_i S hk hr hO ⟨by rw [mCl, q_24, if_neg (by decide), if_neg (by rw [hmc]; exact Int32.not_lt.mpr c_36)], rfl, rfl⟩ (Nat.le_of_ble_eq_true rfl) (Nat.le_of_ble_eq_true rfl) d_MD_clash_53
      · skip
        have hut : u < nc := ngt_nI (x := nI nc) rfl rfl (by omega) (by omega) c_36
        refine lv_aload_n S.1 S.2.1 d_MD_clash_39 rfl (lv_at hl 0 rfl) ?_
        refine g_get S hO fl_MD_50 (by decide) (sh_140 G ad _ _) (v := .ref (ad 154)) rfl d_MD_clash_40 ?_
        refine lv_iconst (v := 2) S.1 S.2.1 d_MD_clash_43 (by decide) ?_
        refine lv_iload_n S.1 S.2.1 d_MD_clash_44 rfl (lv_at hl 1 rfl) ?_
        refine lv_imul S.1 S.2.1 d_MD_clash_45 ?_
        refine W.eq (g2 := F0 m 46 ls [.int (nI (2 * u)), .ref (ad 154)]) (by rw [show (2 : Int32) * (nI u) = nI (2 * u) from pk_mul 2 u]) ?_
        refine lv_iload_n S.1 S.2.1 d_MD_clash_46 rfl (lv_at hl 2 rfl) ?_
        refine lv_iadd S.1 S.2.1 d_MD_clash_47 ?_
        refine W.eq (g2 := F0 m 48 ls [.int (nI (2 * u + q)), .ref (ad 154)]) (by rw [show (nI (2 * u)) + (nI q) = nI (2 * u + q) from nI_add (2 * u) q]) ?_
        refine g_ial S hO (by decide) (sh_154 G ad _ _) (vp_in_nI (show 2 * u + q < 552 by omega) (by decide)) d_MD_clash_48 ?_
        refine W.eq (g2 := F0 m 49 ls [.int (s_2 154 (2 * u + q))]) (by rw [nI_clamp (show 2 * u + q < 2 ^ 31 by omega)]) ?_
        refine lv_goto (tgt := 53) S.1 S.2.1 d_MD_clash_49 (by decide) ?_
        subst hs_2
        exact im_i S hk hr hO ⟨by rw [mCl, q_24, if_neg (by decide), if_pos (by rw [hmc]; exact Int32.not_le.mp c_36), up2_k (by decide), nI_clamp (show u < 2 ^ 31 by omega), nI_clamp (show q < 2 ^ 31 by omega)], rfl, rfl⟩ (Nat.le_of_ble_eq_true rfl) (Nat.le_of_ble_eq_true rfl) d_MD_clash_53
    · skip
      have q_24 : (clB a b) = true := b_1 c_24
      refine lv_iconst (v := 0) S.1 S.2.1 d_MD_clash_27 (by decide) ?_
      refine lv_goto (tgt := 53) S.1 S.2.1 d_MD_clash_28 (by decide) ?_
      subst hs_2
      exact im_i S hk hr hO ⟨by rw [mCl, if_pos q_24], rfl, rfl⟩ (Nat.le_of_ble_eq_true rfl) (Nat.le_of_ble_eq_true rfl) d_MD_clash_53
  refine lv_iload_n S.1 S.2.1 d_MD_clash_1 rfl (lv_at hl 1 rfl) ?_
  refine lv_if_lt (tgt := 14) S.1 S.2.1 d_MD_clash_2 (by decide) (fun c_2 => ?_) (fun c_2 => ?_)
  · skip
    refine lv_iconst (v := 1) S.1 S.2.1 d_MD_clash_14 (by decide) ?_
    refine lv_goto (tgt := 19) S.1 S.2.1 d_MD_clash_15 (by decide) ?_
    exact J_19 _ (by simp [bI, clB, c_2, Int32.not_le.mpr c_2]) _ _ hO ls (lv_sub hl [0, 1, 2] rfl)
  · skip
    refine lv_iload_n S.1 S.2.1 d_MD_clash_5 rfl (lv_at hl 2 rfl) ?_
    refine lv_iconst (v := 0) S.1 S.2.1 d_MD_clash_6 (by decide) ?_
    refine lv_iconst (v := 1) S.1 S.2.1 d_MD_clash_7 (by decide) ?_
    refine g_SP (As := [.int b, .int 0, .int 1]) (rest := [.ref (ad 140)]) S hO (k_MD_in l G ad σ τ b 0 1) cw_MD_67 g_cfC hl.1 (Nat.le_of_ble_eq_true rfl) ⟨(Nat.le_of_ble_eq_true rfl), (Nat.le_of_ble_eq_true rfl)⟩ ⟨(Nat.le_of_ble_eq_true rfl), (Nat.le_of_ble_eq_true rfl)⟩ d_MD_clash_8 (fun q x ce H h9 => h9.elim) (fun v H v_4 hO => ?_)
    subst v_4
    refine W.eq (g2 := F0 m 11 ls [.int (bI (inB b 0 1)), .ref (ad 140)]) rfl ?_
    refine lv_if_ne (tgt := 18) S.1 S.2.1 d_MD_clash_11 (by decide) (fun c_11 => ?_) (fun c_11 => ?_)
    · skip
      have q_11 : (inB b 0 1) = true := b_1 c_11
      refine lv_iconst (v := 0) S.1 S.2.1 d_MD_clash_18 (by decide) ?_
      exact J_19 _ (by simp [bI, clB, c_2, Int32.not_lt.mp c_2, q_11]) _ _ hO ls (lv_sub hl [0, 1, 2] rfl)
    · skip
      have q_11 : (inB b 0 1) = false := b_0 c_11
      refine lv_iconst (v := 1) S.1 S.2.1 d_MD_clash_14 (by decide) ?_
      refine lv_goto (tgt := 19) S.1 S.2.1 d_MD_clash_15 (by decide) ?_
      exact J_19 _ (by simp [bI, clB, c_2, Int32.not_lt.mp c_2, q_11]) _ _ hO ls (lv_sub hl [0, 1, 2] rfl)
set_option maxHeartbeats 4000000 in
set_option maxRecDepth 100000 in
theorem k_MD_count (l : Launch) (G : gP) (ad : Nat → Nat) (σ : Nat → Nat → Int32) (τ : Nat → Nat → Int64) (a : Int32) : gim l y_MD_count c_MD_count 2 (some .int) { frames := 0, cells := 0, slots := 0, locals := 0 } G ad σ τ [.ref (ad 140), .int a] 0 0 (fun v σ1 τ1 => v = some (.int (cnM σ a)) ∧ σ1 = up2 σ 140 0 0 ∧ τ1 = τ) (fun _ => False) := by
  refine gs_of (fun _ h => h) (by decide) (Nat.le_of_ble_eq_true rfl) ?_
  intro p e s m args below meth c ls S hk hr hx hl hO
  have hl : lv_has ls 2 [(0, .ref (ad 140)), (1, .int a)] := hl
  refine lv_aload_n S.1 S.2.1 d_MD_count_0 rfl (lv_at hl 0 rfl) ?_
  refine lv_iconst (v := 0) S.1 S.2.1 d_MD_count_1 (by decide) ?_
  obtain ⟨s_1, hs_1⟩ : ∃ z : Nat → Nat → Int32, z = up2 σ 140 0 0 := ⟨_, rfl⟩
  refine g_put S hO (fun _ h => h) fp_MD_63 (by decide) (sh_140 G ad _ _) (v := .int 0) rfl rfl (Nat.le_of_ble_eq_true rfl) (E2 := enc G ad s_1 τ) (by rw [hs_1]; exact enc_i (sh_140 G ad _ _)) d_MD_count_2 (fun H locs hO => ?_)
  refine lv_iload_n S.1 S.2.1 d_MD_count_5 rfl (lv_at hl 1 rfl) ?_
  by_cases w_6_0 : a = 0
  · refine W.eq (g2 := F0 m 6 ls [.int 0]) (by rw [w_6_0]) ?_
    refine lv_tableIn (tgt := 44) S.1 S.2.1 d_MD_count_6 (by decide) (by decide) rfl (by decide) ?_
    refine lv_aload_n S.1 S.2.1 d_MD_count_44 rfl (lv_at hl 0 rfl) ?_
    refine g_get S hO fl_MD_94 (by decide) (sh_140 G ad _ _) (v := .int (s_1 140 5)) rfl d_MD_count_45 ?_
    subst hs_1
    exact im_i S hk hr hO ⟨by rw [cnM, if_pos w_6_0, up2_j (by decide)], rfl, rfl⟩ (Nat.le_of_ble_eq_true rfl) (Nat.le_of_ble_eq_true rfl) d_MD_count_48
  by_cases w_6_1 : a = 1
  · refine W.eq (g2 := F0 m 6 ls [.int 1]) (by rw [w_6_1]) ?_
    refine lv_tableIn (tgt := 49) S.1 S.2.1 d_MD_count_6 (by decide) (by decide) rfl (by decide) ?_
    refine lv_aload_n S.1 S.2.1 d_MD_count_49 rfl (lv_at hl 0 rfl) ?_
    refine g_get S hO fl_MD_83 (by decide) (sh_140 G ad _ _) (v := .int (s_1 140 2)) rfl d_MD_count_50 ?_
    subst hs_1
    exact im_i S hk hr hO ⟨by rw [cnM, if_neg w_6_0, if_pos w_6_1, up2_j (by decide)], rfl, rfl⟩ (Nat.le_of_ble_eq_true rfl) (Nat.le_of_ble_eq_true rfl) d_MD_count_53
  by_cases w_6_2 : a = 2
  · refine W.eq (g2 := F0 m 6 ls [.int 2]) (by rw [w_6_2]) ?_
    refine lv_tableIn (tgt := 54) S.1 S.2.1 d_MD_count_6 (by decide) (by decide) rfl (by decide) ?_
    refine lv_aload_n S.1 S.2.1 d_MD_count_54 rfl (lv_at hl 0 rfl) ?_
    refine g_get S hO fl_MD_156 (by decide) (sh_140 G ad _ _) (v := .int (s_1 140 11)) rfl d_MD_count_55 ?_
    subst hs_1
    exact im_i S hk hr hO ⟨by rw [cnM, if_neg w_6_0, if_neg w_6_1, if_pos w_6_2, up2_j (by decide)], rfl, rfl⟩ (Nat.le_of_ble_eq_true rfl) (Nat.le_of_ble_eq_true rfl) d_MD_count_58
  by_cases w_6_3 : a = 3
  · refine W.eq (g2 := F0 m 6 ls [.int 3]) (by rw [w_6_3]) ?_
    refine lv_tableIn (tgt := 59) S.1 S.2.1 d_MD_count_6 (by decide) (by decide) rfl (by decide) ?_
    refine lv_aload_n S.1 S.2.1 d_MD_count_59 rfl (lv_at hl 0 rfl) ?_
    refine g_get S hO fl_MD_97 (by decide) (sh_140 G ad _ _) (v := .int (s_1 140 18)) rfl d_MD_count_60 ?_
    subst hs_1
    exact im_i S hk hr hO ⟨by rw [cnM, if_neg w_6_0, if_neg w_6_1, if_neg w_6_2, if_pos w_6_3, up2_j (by decide)], rfl, rfl⟩ (Nat.le_of_ble_eq_true rfl) (Nat.le_of_ble_eq_true rfl) d_MD_count_63
  by_cases w_6_4 : a = 4
  · refine W.eq (g2 := F0 m 6 ls [.int 4]) (by rw [w_6_4]) ?_
    refine lv_tableIn (tgt := 64) S.1 S.2.1 d_MD_count_6 (by decide) (by decide) rfl (by decide) ?_
    refine lv_aload_n S.1 S.2.1 d_MD_count_64 rfl (lv_at hl 0 rfl) ?_
    refine g_get S hO fl_MD_111 (by decide) (sh_140 G ad _ _) (v := .int (s_1 140 22)) rfl d_MD_count_65 ?_
    subst hs_1
    exact im_i S hk hr hO ⟨by rw [cnM, if_neg w_6_0, if_neg w_6_1, if_neg w_6_2, if_neg w_6_3, if_pos w_6_4, up2_j (by decide)], rfl, rfl⟩ (Nat.le_of_ble_eq_true rfl) (Nat.le_of_ble_eq_true rfl) d_MD_count_68
  by_cases w_6_5 : a = 5
  · refine W.eq (g2 := F0 m 6 ls [.int 5]) (by rw [w_6_5]) ?_
    refine lv_tableIn (tgt := 69) S.1 S.2.1 d_MD_count_6 (by decide) (by decide) rfl (by decide) ?_
    refine lv_aload_n S.1 S.2.1 d_MD_count_69 rfl (lv_at hl 0 rfl) ?_
    refine g_get S hO fl_MD_165 (by decide) (sh_140 G ad _ _) (v := .int (s_1 140 17)) rfl d_MD_count_70 ?_
    subst hs_1
    exact im_i S hk hr hO ⟨by rw [cnM, if_neg w_6_0, if_neg w_6_1, if_neg w_6_2, if_neg w_6_3, if_neg w_6_4, if_pos w_6_5, up2_j (by decide)], rfl, rfl⟩ (Nat.le_of_ble_eq_true rfl) (Nat.le_of_ble_eq_true rfl) d_MD_count_73
  refine lv_tableOut (tgt := 74) S.1 S.2.1 d_MD_count_6 (sw05 w_6_0 w_6_1 w_6_2 w_6_3 w_6_4 w_6_5) (by decide) ?_
  refine lv_iconst (v := (-1)) S.1 S.2.1 d_MD_count_74 (by decide) ?_
  subst hs_1
  exact im_i S hk hr hO ⟨by rw [cnM, if_neg w_6_0, if_neg w_6_1, if_neg w_6_2, if_neg w_6_3, if_neg w_6_4, if_neg w_6_5], rfl, rfl⟩ (Nat.le_of_ble_eq_true rfl) (Nat.le_of_ble_eq_true rfl) d_MD_count_75
