/-! read, as the class does it. Written by wip/tools/m37.py. -/
def rdP (r : Except Nat (List RUL)) (v : Option Value) (s1 s0 : Nat → Nat → Int32) (n : Nat) : Prop := match r with
  | .error e => v = some (.int (-1 - nI e)) ∧ s1 = up2 s0 35 1 0
  | .ok l => v = some (.int (nI l.length)) ∧ s1 = up2 (adS s0 n l) 35 1 0
theorem rdP_e {r : Except Nat (List RUL)} {e n : Nat} {v : Option Value} {s1 s0 : Nat → Nat → Int32} (h : r = .error e) (h1 : v = some (.int (-1 - nI e))) (h2 : s1 = up2 s0 35 1 0) : rdP r v s1 s0 n := by
  subst h
  exact ⟨h1, h2⟩
theorem rdP_o {r : Except Nat (List RUL)} {l : List RUL} {n : Nat} {v : Option Value} {s1 s0 : Nat → Nat → Int32} (h : r = .ok l) (h1 : v = some (.int (nI l.length))) (h2 : s1 = up2 (adS s0 n l) 35 1 0) : rdP r v s1 s0 n := by
  subst h
  exact ⟨h1, h2⟩
theorem m1n {e : Nat} (h : e < 2 ^ 31) : (-1 - nI e) < (0 : Int32) := by
  rw [Int32.lt_iff_toInt_lt]
  have h1 := nI_toInt h
  have h2 : (-1 - nI e).toInt = -1 - (e : Int) := by
    rw [Int32.toInt_sub, h1]
    show ((-1 : Int) - (e : Int)).bmod (2 ^ 32) = _
    rw [Int.bmod_eq_of_le (by omega) (by omega)]
  rw [h2]
  show (-1 : Int) - e < 0
  omega
theorem InvR.R {s σ : Nat → Nat → Int32} {n : Nat} (h : InvR σ n) (hR : TXR s σ) : InvR s n := h.mono (hR 4 2 (by omega) (by omega)) (funext (fun j => hR 6 j (by omega) (by omega))) (fun r hr => ⟨hR (9 + r) 1 (by omega) (by omega), hR (9 + r) 2 (by omega) (by omega)⟩)
theorem CB.R {s σ : Nat → Nat → Int32} {n nc : Nat} (h : CB σ n nc) (hR : TXR s σ) : CB s n nc := by
  obtain ⟨h1, h2, h3, h4⟩ := h
  have e6 : s 6 = σ 6 := funext (fun j => hR 6 j (by omega) (by omega))
  have hn := h1.2.1
  refine ⟨h1.R hR, ⟨by rw [e6]; exact h2.1, by rw [e6]; exact h2.2.1, ?_⟩, by rw [hR 4 5 (by omega) (by omega)]; exact h3, h4⟩
  rw [e6]
  intro i j a b z1 z2 z3 z4 z5 z6
  have h5 := h2.2.2 i j a b z1 z2 z3 z4 z5 z6
  show s (9 + a) 0 < s (9 + b) 0 ∨ (s (9 + a) 0 = s (9 + b) 0 ∧ a < b)
  rw [hR (9 + a) 0 (by omega) (by omega), hR (9 + b) 0 (by omega) (by omega)]
  exact h5
theorem prs_b {T : Nat → Int32} {N : Nat} (r p e : Nat) (hp : p < 2 ^ 30) (h : prs T N r p = .error e) : e < 2 ^ 31 ∨ True := Or.inr trivial
set_option maxHeartbeats 4000000 in
set_option maxRecDepth 100000 in
theorem k_PR_read (l : Launch) (G : gP) (ad : Nat → Nat) (σ : Nat → Nat → Int32) (τ : Nat → Nat → Int64) (n nc : Nat) (hC : CB σ n nc) (N : Nat) (hN : σ 35 1 = nI N) (hN4 : N ≤ 400) (hV0 : KDV σ) (her2 : ∀ e, prs (σ 36) N (24 - n) 0 = .error e → e < 2 ^ 31) : gim l y_PR_read c_PR_read 4 (some .int) { frames := 8, cells := 0, slots := 0, locals := 173 } G ad σ τ [.ref (ad 0)] 0 0 (fun v σ1 τ1 => ∃ s0, TXR s0 σ ∧ KDV s0 ∧ rdP (prs (σ 36) N (24 - n) 0) v σ1 s0 n ∧ τ1 = τ) (fun _ => False) := by
  refine gs_of (fun _ h => h) (by decide) (Nat.le_of_ble_eq_true rfl) ?_
  intro p e s m args below meth c ls S hk hr hx hl hO
  have hl : lv_has ls 4 [(0, .ref (ad 0))] := hl
  have hn24 := hC.1.2.1
  refine lv_aload_n S.1 S.2.1 d_PR_read_0 rfl (lv_at hl 0 rfl) ?_
  refine g_get S hO fl_PR_44 (by decide) (sh_0 G ad _ _) (v := .ref (ad 35)) rfl d_PR_read_1 ?_
  refine lv_aload_n S.1 S.2.1 d_PR_read_4 rfl (lv_at hl 0 rfl) ?_
  refine g_get S hO fl_PR_30 (by decide) (sh_0 G ad _ _) (v := .ref (ad 4)) rfl d_PR_read_5 ?_
  refine g_VP (As := []) (rest := [.ref (ad 35)]) S hO (k_RB_room l G ad σ τ) cw_PR_150 (by decide) (sh_4 G ad _ _) rfl rfl hl.1 (Nat.le_of_ble_eq_true rfl) ⟨(Nat.le_of_ble_eq_true rfl), (Nat.le_of_ble_eq_true rfl)⟩ ⟨(Nat.le_of_ble_eq_true rfl), (Nat.le_of_ble_eq_true rfl)⟩ d_PR_read_8 (fun q x ce H h9 => h9.elim) (fun v H v_1 hO => ?_)
  subst v_1
  refine W.eq (g2 := F0 m 11 ls [.int (24 - σ 4 2), .ref (ad 35)]) rfl ?_
  refine W.eq (g2 := F0 m 11 ls [.int (nI (24 - n)), .ref (ad 35)]) (by rw [hC.1.1, show (24 : Int32) - nI n = nI (24 - n) from pk_sub (a := 24) (by have := hC.1.2.1; omega)]) ?_
  refine g_VI (As := [.int (nI (24 - n))]) (rest := []) S hO (fun _ h => h) (k_TX_readLines l G ad σ τ (24 - n) (by omega) N hN hN4 hV0) cw_PR_163 (by decide) (sh_35 G ad _ _) rfl rfl hl.1 (Nat.le_of_ble_eq_true rfl) ⟨(Nat.le_of_ble_eq_true rfl), (Nat.le_of_ble_eq_true rfl)⟩ ⟨(Nat.le_of_ble_eq_true rfl), (Nat.le_of_ble_eq_true rfl)⟩ d_PR_read_11 (fun q x ce H locs h9 => h9.elim) (fun v E1 H locs v_2 hO => ?_)
  obtain ⟨s0, t_3, rfl, hR0, ht_3, hV, hP⟩ := v_2
  rw [ht_3] at hO
  obtain ⟨rv, hrv⟩ : ∃ r, r = prs (σ 36) N (24 - n) 0 := ⟨_, rfl⟩
  rw [← hrv] at hP
  rcases rv with er | lr
  · skip
    have hpr := hrv.symm
    have her := her2 _ hpr
    have hv9 := hP
    subst hv9
    refine W.eq (g2 := F0 m 14 ls [.int ((-1) - nI er)]) rfl ?_
    refine lv_istore_n (lv' := [(1, .int ((-1) - nI er)), (0, .ref (ad 0))]) S.1 S.2.1 d_PR_read_14 rfl hl (by decide) rfl (fun ls hl => ?_)
    refine lv_iconst (v := 0) S.1 S.2.1 d_PR_read_15 (by decide) ?_
    refine lv_istore_n (lv' := [(2, .int 0), (1, .int ((-1) - nI er)), (0, .ref (ad 0))]) S.1 S.2.1 d_PR_read_16 rfl hl (by decide) rfl (fun ls hl => ?_)
    refine lv_iload_n S.1 S.2.1 d_PR_read_17 rfl (lv_at hl 0 rfl) ?_
    refine lv_iload_n S.1 S.2.1 d_PR_read_18 rfl (lv_at hl 1 rfl) ?_
    refine lv_icmp_ge (tgt := 68) S.1 S.2.1 d_PR_read_19 (by decide) (fun c_19 => ?_) (fun c_19 => ?_)
    · skip
      refine lv_aload_n S.1 S.2.1 d_PR_read_68 rfl (lv_at hl 2 rfl) ?_
      refine g_get S hO fl_PR_44 (by decide) (sh_0 G ad _ _) (v := .ref (ad 35)) rfl d_PR_read_69 ?_
      refine g_VI (As := []) (rest := []) S hO (fun _ h => h) (k_TX_forget l G ad s0 τ) cw_PR_185 (by decide) (sh_35 G ad _ _) rfl rfl hl.1 (Nat.le_of_ble_eq_true rfl) ⟨(Nat.le_of_ble_eq_true rfl), (Nat.le_of_ble_eq_true rfl)⟩ ⟨(Nat.le_of_ble_eq_true rfl), (Nat.le_of_ble_eq_true rfl)⟩ d_PR_read_72 (fun q x ce H locs h9 => h9.elim) (fun v E1 H locs v_4 hO => ?_)
      obtain ⟨s_5, t_6, rfl, rfl, hs_5, ht_6⟩ := v_4
      rw [ht_6] at hO
      refine W.eq (g2 := F0 m 75 ls []) rfl ?_
      refine lv_iload_n S.1 S.2.1 d_PR_read_75 rfl (lv_at hl 1 rfl) ?_
      exact im_i S hk hr hO ⟨s0, hR0, hV, rdP_e hpr rfl hs_5, rfl⟩ (Nat.le_of_ble_eq_true rfl) (Nat.le_of_ble_eq_true rfl) d_PR_read_76
    · skip
      exact absurd (Int32.le_of_lt (m1n her)) c_19
  · skip
    have hpr := hrv.symm
    obtain ⟨rfl, hd0⟩ := hP
    obtain ⟨hlen, hkeep⟩ := prs_len _ _ _ hpr
    have hC0 := hC.R hR0
    refine W.eq (g2 := F0 m 14 ls [.int (nI lr.length)]) rfl ?_
    refine lv_istore_n (lv' := [(1, .int (nI lr.length)), (0, .ref (ad 0))]) S.1 S.2.1 d_PR_read_14 rfl hl (by decide) rfl (fun ls hl => ?_)
    refine lv_iconst (v := 0) S.1 S.2.1 d_PR_read_15 (by decide) ?_
    refine lv_istore_n (lv' := [(2, .int 0), (1, .int (nI lr.length)), (0, .ref (ad 0))]) S.1 S.2.1 d_PR_read_16 rfl hl (by decide) rfl (fun ls hl => ?_)
    have K_17 : ∀ (n9 : Nat) (j : Nat) (s9 : Nat → Nat → Int32), lr.length - j < n9 → (j ≤ lr.length) → (s9 = adS s0 n (lr.take j)) → ∀ (H : Heap) (locs : List Loc), gO G (gA G) 159 ad (enc G ad s9 τ) s H locs → ∀ ls : Array Slot, lv_has ls 4 [(2, .int (nI j)), (1, .int (nI lr.length)), (0, .ref (ad 0))] → W p l e { frames := 8, cells := 0, slots := 0, locals := 173 } s m args below meth c H locs 0 0 (gM below (gA G) 0 0 (fun v t => ∃ E1, (∃ σ1 τ1, E1 = enc G ad σ1 τ1 ∧ (fun v σ1 τ1 => ∃ s0, TXR s0 σ ∧ KDV s0 ∧ rdP (prs (σ 36) N (24 - n) 0) v σ1 s0 n ∧ τ1 = τ) v σ1 τ1) ∧ va_P G.1 gcl (gw 159 ad E1) t.heap) (fun x t => (fun _ => False) x ∧ va_P G.1 gcl (gw 159 ad (enc G ad σ τ)) t.heap) args s) (F0 m 17 ls []) := by
      intro n9
      induction n9 with
      | zero =>
        intro j s9 hn9 hj hs9 H locs hO ls hl
        exact absurd hn9 (Nat.not_lt_zero _)
      | succ n9 ih_17 =>
        intro j s9 hn9 hj hs9 H locs hO ls hl
        refine lv_iload_n S.1 S.2.1 d_PR_read_17 rfl (lv_at hl 0 rfl) ?_
        refine lv_iload_n S.1 S.2.1 d_PR_read_18 rfl (lv_at hl 1 rfl) ?_
        refine lv_icmp_ge (tgt := 68) S.1 S.2.1 d_PR_read_19 (by decide) (fun c_19 => ?_) (fun c_19 => ?_)
        · skip
          have hjl : j = lr.length := by have h9 := ge_nI (x := nI lr.length) rfl rfl (by omega) (by omega) c_19; omega
          refine lv_aload_n S.1 S.2.1 d_PR_read_68 rfl (lv_at hl 2 rfl) ?_
          refine g_get S hO fl_PR_44 (by decide) (sh_0 G ad _ _) (v := .ref (ad 35)) rfl d_PR_read_69 ?_
          refine g_VI (As := []) (rest := []) S hO (fun _ h => h) (k_TX_forget l G ad s9 τ) cw_PR_185 (by decide) (sh_35 G ad _ _) rfl rfl hl.1 (Nat.le_of_ble_eq_true rfl) ⟨(Nat.le_of_ble_eq_true rfl), (Nat.le_of_ble_eq_true rfl)⟩ ⟨(Nat.le_of_ble_eq_true rfl), (Nat.le_of_ble_eq_true rfl)⟩ d_PR_read_72 (fun q x ce H locs h9 => h9.elim) (fun v E1 H locs v_7 hO => ?_)
          obtain ⟨s_8, t_9, rfl, rfl, hs_8, ht_9⟩ := v_7
          rw [ht_9] at hO
          refine W.eq (g2 := F0 m 75 ls []) rfl ?_
          refine lv_iload_n S.1 S.2.1 d_PR_read_75 rfl (lv_at hl 1 rfl) ?_
          exact im_i S hk hr hO ⟨s0, hR0, hV, rdP_o hpr rfl (by rw [hs_8, hs9, hjl, List.take_length]), rfl⟩ (Nat.le_of_ble_eq_true rfl) (Nat.le_of_ble_eq_true rfl) d_PR_read_76
        · skip
          have hjl : j < lr.length := ngt_nI (x := nI lr.length) rfl rfl (by omega) (by omega) c_19
          obtain ⟨x, hxj⟩ : ∃ x, lr[j]? = some x := ⟨lr[j], List.getElem?_eq_getElem hjl⟩
          have htk : lr.take (j + 1) = lr.take j ++ [x] := by rw [List.take_add_one, hxj]; rfl
          have hxk := hkeep x (List.mem_of_getElem? hxj)
          have hx11 := hxk.2.1
          have hln : (lr.take j).length = j := by rw [List.length_take]; omega
          have hd : drf s9 j x := by
            have h9 := hd0 j x hxj
            have e9 : s9 (38 + j) = s0 (38 + j) := by rw [hs9]; exact adS_c _ (by omega) (by omega) (by omega) (by omega) (by omega) (by omega)
            unfold drf; rw [e9]; exact h9
          obtain ⟨nc9, hC9⟩ := adS_CB (lr.take j) hC0 (by omega) (fun y hy => hkeep y (List.mem_of_mem_take hy))
          rw [hln, ← hs9] at hC9
          refine lv_iload_n S.1 S.2.1 d_PR_read_22 rfl (lv_at hl 0 rfl) ?_
          refine lv_bipush (v := 24) S.1 S.2.1 d_PR_read_23 (by decide) ?_
          refine lv_icmp_ge (tgt := 68) S.1 S.2.1 d_PR_read_25 (by decide) (fun c_25 => ?_) (fun c_25 => ?_)
          · skip
            exact absurd (ge_nI (x := (24 : Int32)) (n := 24) rfl rfl (by omega) (by omega) c_25) (by omega)
          · skip
            refine lv_aload_n S.1 S.2.1 d_PR_read_28 rfl (lv_at hl 2 rfl) ?_
            refine g_get S hO fl_PR_44 (by decide) (sh_0 G ad _ _) (v := .ref (ad 35)) rfl d_PR_read_29 ?_
            refine g_get S hO fl_PR_166 (by decide) (sh_35 G ad _ _) (v := .ref (ad 37)) rfl d_PR_read_32 ?_
            refine lv_iload_n S.1 S.2.1 d_PR_read_35 rfl (lv_at hl 0 rfl) ?_
            refine g_aal S hO (t0 := 6) (by decide) (sh_37 G ad _ _) rfl (vp_in_nI (show j < 24 by omega) (by decide)) (v := .ref (ad (38 + j))) (by rw [nI_clamp (by omega)]; rfl) d_PR_read_36 ?_
            refine lv_astore_n (lv' := [(3, .ref (ad (38 + j))), (2, .int (nI j)), (1, .int (nI lr.length)), (0, .ref (ad 0))]) S.1 S.2.1 d_PR_read_37 rfl hl (by decide) rfl (fun ls hl => ?_)
            refine lv_aload_n S.1 S.2.1 d_PR_read_38 rfl (lv_at hl 3 rfl) ?_
            refine g_get S hO fl_PR_30 (by decide) (sh_0 G ad _ _) (v := .ref (ad 4)) rfl d_PR_read_39 ?_
            refine lv_aload_n S.1 S.2.1 d_PR_read_42 rfl (lv_at hl 0 rfl) ?_
            refine g_get S hO fl_PR_170 (by omega) (sh_RD G ad _ _ (by omega)) (v := .int (s9 (38 + j) 0)) rfl d_PR_read_43 ?_
            refine lv_aload_n S.1 S.2.1 d_PR_read_46 rfl (lv_at hl 0 rfl) ?_
            refine g_get S hO fl_PR_175 (by omega) (sh_RD G ad _ _ (by omega)) (v := .ref (ga G ((s9 (38 + j) 1).toNatClampNeg))) rfl d_PR_read_47 ?_
            refine lv_aload_n S.1 S.2.1 d_PR_read_50 rfl (lv_at hl 0 rfl) ?_
            refine g_get S hO fl_PR_179 (by omega) (sh_RD G ad _ _ (by omega)) (v := .int (s9 (38 + j) 2)) rfl d_PR_read_51 ?_
            refine lv_aload_n S.1 S.2.1 d_PR_read_54 rfl (lv_at hl 0 rfl) ?_
            refine g_get S hO fl_PR_182 (by omega) (sh_RD G ad _ _ (by omega)) (v := .int (s9 (38 + j) 3)) rfl d_PR_read_55 ?_
            refine W.eq (g2 := F0 m 58 ls [.int x.2.2.2, .int x.2.2.1, .ref (ga G x.2.1), .int x.1, .ref (ad 4)]) (by rw [hd.1, hd.2.1, hd.2.2.1, hd.2.2.2, nI_clamp (by omega)]) ?_
            refine g_VI (As := [.int x.1, .ref (ga G x.2.1), .int x.2.2.1, .int x.2.2.2]) (rest := []) S hO (fun _ h => h) (k_RB_addRule l G ad s9 τ x.1 x.2.1 hx11 x.2.2.1 x.2.2.2 (n + j) (by omega) hC9.1.1 nc9 hC9.2.2.1 hC9.2.2.2 hC9.hod hC9.hkd) cw_PR_155 (by decide) (sh_4 G ad _ _) rfl rfl hl.1 (Nat.le_of_ble_eq_true rfl) ⟨(Nat.le_of_ble_eq_true rfl), (Nat.le_of_ble_eq_true rfl)⟩ ⟨(Nat.le_of_ble_eq_true rfl), (Nat.le_of_ble_eq_true rfl)⟩ d_PR_read_58 (fun q x ce H locs h9 => h9.elim) (fun v E1 H locs v_10 hO => ?_)
            obtain ⟨sk, t_11, rfl, rfl, hsk, ht_11⟩ := v_10
            rw [ht_11] at hO
            refine W.eq (g2 := F0 m 61 ls [.int (nI (n + j))]) rfl ?_
            refine lv_pop S.1 S.2.1 d_PR_read_61 rfl ?_
            refine lv_iinc (v := nI (j + 1)) (lv' := [(2, .int (nI (j + 1))), (3, .ref (ad (38 + j))), (1, .int (nI lr.length)), (0, .ref (ad 0))]) S.1 S.2.1 d_PR_read_62 hl (k := 1) rfl (nI_1 _) (by decide) rfl (fun ls hl => ?_)
            refine lv_goto (tgt := 17) S.1 S.2.1 d_PR_read_65 (by decide) ?_
            exact ih_17 (j + 1) sk (by omega) (by omega) (by rw [hsk, hs9, htk, adS_app, List.length_take, Nat.min_eq_left (by omega)]) _ _ hO ls (lv_sub hl [0, 2, 3] rfl)
    exact K_17 (lr.length + 1) 0 s0 (by omega) (by omega) rfl _ _ hO ls (lv_sub hl [0, 1, 2] rfl)
