/-! The text: kinds and lines, as the class reads them. Written by wip/tools/m34.py. -/
def TXK (s σ : Nat → Nat → Int32) : Prop := ∀ k j, ¬ (k = 35 ∧ (j = 3 ∨ j = 4 ∨ j = 5 ∨ j = 6)) → s k j = σ k j
theorem TXK.refl (σ : Nat → Nat → Int32) : TXK σ σ := fun _ _ _ => rfl
theorem TXK.up {s σ : Nat → Nat → Int32} (h : TXK s σ) {j : Nat} {v : Int32} (hj : j = 3 ∨ j = 4 ∨ j = 5 ∨ j = 6) : TXK (up2 s 35 j v) σ := fun k i hi => by
  rw [up2_at, if_neg (fun z => hi ⟨z.1, by omega⟩)]
  exact h k i hi
def pkP (r : Except Nat (Nat × Nat)) (v : Option Value) (s : Nat → Nat → Int32) : Prop := match r with
  | .error e => v = some (.int 0) ∧ s 35 4 = nI e
  | .ok (k, q) => v = some (.int 1) ∧ s 35 3 = nI q ∧ s 35 6 = nI k
theorem pkP_e {r : Except Nat (Nat × Nat)} {e : Nat} {v : Option Value} {s : Nat → Nat → Int32} (h : r = .error e) (h1 : v = some (.int 0)) (h2 : s 35 4 = nI e) : pkP r v s := by
  subst h
  exact ⟨h1, h2⟩
theorem pkP_o {r : Except Nat (Nat × Nat)} {k q : Nat} {v : Option Value} {s : Nat → Nat → Int32} (h : r = .ok (k, q)) (h1 : v = some (.int 1)) (h2 : s 35 3 = nI q) (h3 : s 35 6 = nI k) : pkP r v s := by
  subst h
  exact ⟨h1, h2, h3⟩
set_option maxHeartbeats 4000000 in
set_option maxRecDepth 100000 in
theorem k_TX_readKind (l : Launch) (G : gP) (ad : Nat → Nat) (σ : Nat → Nat → Int32) (τ : Nat → Nat → Int64) (k0 : Nat) (hk0 : k0 < 11) (hkd : σ 35 6 = nI k0) (N : Nat) (hN : σ 35 1 = nI N) (hN4 : N ≤ 400) (pp : Nat) (hp : σ 35 3 = nI pp) (hp2 : pp < 2000) : gim l y_TX_readKind c_TX_readKind 4 (some .boolean) { frames := 5, cells := 0, slots := 0, locals := 107 } G ad σ τ [.ref (ad 35)] 0 0 (fun v σ1 τ1 => TXK σ1 σ ∧ τ1 = τ ∧ (∃ k, k < 11 ∧ σ1 35 6 = nI k) ∧ pkP (pkd (σ 36) N pp) v σ1) (fun _ => False) := by
  refine gs_of (fun _ h => h) (by decide) (Nat.le_of_ble_eq_true rfl) ?_
  intro p e s m args below meth c ls S hk hr hx hl hO
  have hl : lv_has ls 4 [(0, .ref (ad 35))] := hl
  refine lv_iconst (v := (-1)) S.1 S.2.1 d_TX_readKind_0 (by decide) ?_
  refine lv_istore_n (lv' := [(1, .int (-1)), (0, .ref (ad 35))]) S.1 S.2.1 d_TX_readKind_1 rfl hl (by decide) rfl (fun ls hl => ?_)
  refine lv_iconst (v := 0) S.1 S.2.1 d_TX_readKind_2 (by decide) ?_
  refine lv_istore_n (lv' := [(2, .int 0), (1, .int (-1)), (0, .ref (ad 35))]) S.1 S.2.1 d_TX_readKind_3 rfl hl (by decide) rfl (fun ls hl => ?_)
  have K_4 : ∀ (n9 : Nat) (k : Nat) (s9 : Nat → Nat → Int32), 11 - k < n9 → (k ≤ 11) → (s9 = up2 σ 35 6 (nI (pkf (σ 36) N pp k0 k).2)) → ∀ (H : Heap) (locs : List Loc), gO G (gA G) 159 ad (enc G ad s9 τ) s H locs → ∀ ls : Array Slot, lv_has ls 4 [(2, .int (nI k)), (1, .int ((pkf (σ 36) N pp k0 k).1)), (0, .ref (ad 35))] → W p l e { frames := 5, cells := 0, slots := 0, locals := 107 } s m args below meth c H locs 0 0 (gM below (gA G) 0 0 (fun v t => ∃ E1, (∃ σ1 τ1, E1 = enc G ad σ1 τ1 ∧ (fun v σ1 τ1 => TXK σ1 σ ∧ τ1 = τ ∧ (∃ k, k < 11 ∧ σ1 35 6 = nI k) ∧ pkP (pkd (σ 36) N pp) v σ1) v σ1 τ1) ∧ va_P G.1 gcl (gw 159 ad E1) t.heap) (fun x t => (fun _ => False) x ∧ va_P G.1 gcl (gw 159 ad (enc G ad σ τ)) t.heap) args s) (F0 m 4 ls []) := by
    intro n9
    induction n9 with
    | zero =>
      intro k s9 hn9 hk11 hs9 H locs hO ls hl
      exact absurd hn9 (Nat.not_lt_zero _)
    | succ n9 ih_4 =>
      intro k s9 hn9 hk11 hs9 H locs hO ls hl
      have h1 : s9 35 1 = nI N := by rw [hs9, up2_j (by decide)]; exact hN
      have h3 : s9 35 3 = nI pp := by rw [hs9, up2_j (by decide)]; exact hp
      have hT : s9 36 = σ 36 := by rw [hs9]; exact up2_c (by decide)
      refine lv_iload_n S.1 S.2.1 d_TX_readKind_4 rfl (lv_at hl 0 rfl) ?_
      refine va_getsN S.1 S.2.1 hO.2.2.2.2.2.2.2.2.2.2.1 hO.SG S.2.2.2.1 (va_Nw.use rfl (hO.2.2.2.2.2.2.2.1 _ kz_KINDS rfl)) (fun _ h => h) d_TX_readKind_5 ?_
      refine va_tlen S.1 S.2.1 hO.2.2.2.2.2.2.2.2.2.2.2.1 hO.SG (v := 11) (by decide) d_TX_readKind_8 ?_
      refine lv_icmp_ge (tgt := 67) S.1 S.2.1 d_TX_readKind_9 (by decide) (fun c_9 => ?_) (fun c_9 => ?_)
      · skip
        have hw : k = 11 := by have h9 := ge_nI (x := (11 : Int32)) (n := 11) rfl rfl (by omega) (by omega) c_9; omega
        subst hw
        obtain ⟨hq11, hq2⟩ := pkf_o (T := σ 36) (N := N) (p := pp) hk0 11 (by omega)
        obtain ⟨mq, hm6, hmq⟩ := hq2.resolve_left (by decide)
        obtain ⟨kq, hkq⟩ : ∃ kq, kq = (pkf (σ 36) N pp k0 11).2 := ⟨_, rfl⟩
        rw [← hkq] at hs9 hq11
        rw [hmq] at hl
        refine lv_aload_n S.1 S.2.1 d_TX_readKind_67 rfl (lv_at hl 2 rfl) ?_
        refine lv_dup S.1 S.2.1 d_TX_readKind_68 rfl ?_
        refine g_get S hO fl_TX_35 (by decide) (sh_35 G ad _ _) (v := .int (s9 35 3)) rfl d_TX_readKind_69 ?_
        refine W.eq (g2 := F0 m 72 ls [.int (nI pp), .ref (ad 35)]) (by rw [show s9 35 3 = nI pp from h3]) ?_
        refine lv_iload_n S.1 S.2.1 d_TX_readKind_72 rfl (lv_at hl 1 rfl) ?_
        refine lv_iadd S.1 S.2.1 d_TX_readKind_73 ?_
        refine W.eq (g2 := F0 m 74 ls [.int (nI (pp + mq)), .ref (ad 35)]) (by rw [show (nI pp) + (nI mq) = nI (pp + mq) from nI_add pp mq]) ?_
        obtain ⟨sn, hsn⟩ : ∃ z : Nat → Nat → Int32, z = up2 s9 35 3 (nI (pp + mq)) := ⟨_, rfl⟩
        refine g_put S hO (fun _ h => h) fp_TX_35 (by decide) (sh_35 G ad _ _) (v := .int (nI (pp + mq))) rfl rfl (Nat.le_of_ble_eq_true rfl) (E2 := enc G ad sn τ) (by rw [hsn]; exact enc_i (sh_35 G ad _ _)) d_TX_readKind_74 (fun H locs hO => ?_)
        refine lv_iload_n S.1 S.2.1 d_TX_readKind_77 rfl (lv_at hl 1 rfl) ?_
        refine lv_aload_n S.1 S.2.1 d_TX_readKind_78 rfl (lv_at hl 2 rfl) ?_
        refine g_get S hO fl_TX_27 (by decide) (sh_35 G ad _ _) (v := .ref (ga G ((sn 35 6).toNatClampNeg))) rfl d_TX_readKind_79 ?_
        refine W.eq (g2 := F0 m 82 ls [.ref (ga G kq), .int (nI mq)]) (by rw [show sn 35 6 = nI kq by rw [hsn, up2_j (by decide), hs9, up2_s], nI_clamp (by omega)]) ?_
        refine va_getX S.1 S.2.1 hO.2.2.2.2.2.2.2.2.2.2.2.2.2.2.1 (by omega) hO.SG S.2.2.2.1 (S.2.2.2.2 _ kf_TX_102) (fun _ h => h) d_TX_readKind_82 ?_
        refine g_VPS (As := []) (rest := [.int (nI mq)]) S hO (i := kq) (by omega) (k_java_lang_String_length l G ad sn τ kq (by omega)) cw_TX_110 rfl hl.1 (Nat.le_of_ble_eq_true rfl) ⟨(Nat.le_of_ble_eq_true rfl), (Nat.le_of_ble_eq_true rfl)⟩ ⟨(Nat.le_of_ble_eq_true rfl), (Nat.le_of_ble_eq_true rfl)⟩ d_TX_readKind_85 (fun q x ce H h9 => h9.elim) (fun v H v_1 hO => ?_)
        subst v_1
        refine W.eq (g2 := F0 m 88 ls [.int (nI (gkl.getD kq 0)), .int (nI mq)]) rfl ?_
        refine lv_icmp_eq (tgt := 102) S.1 S.2.1 d_TX_readKind_88 (by decide) (fun c_88 => ?_) (fun c_88 => ?_)
        · skip
          refine lv_iconst (v := 1) S.1 S.2.1 d_TX_readKind_102 (by decide) ?_
          refine lv_goto (tgt := 107) S.1 S.2.1 d_TX_readKind_103 (by decide) ?_
          subst hsn
          exact im_z S hk hr hO (by first | exact Or.inl rfl | exact Or.inr rfl | exact b_01) ⟨by rw [hs9]; exact ((TXK.refl σ).up (by omega)).up (by omega), rfl, ⟨kq, hq11, by rw [up2_j (by decide), hs9, up2_s]⟩, pkP_o (k := kq) (q := pp + mq) (by rw [pkd, (pkf_k (T := σ 36) (N := N) (p := pp) (k0 := 0) (k1 := k0) 10 (by omega)), hmq, ← hkq, if_pos c_88, nI_clamp (by omega)]) rfl up2_s (by rw [up2_j (by decide), hs9, up2_s])⟩ (Nat.le_of_ble_eq_true rfl) (Nat.le_of_ble_eq_true rfl) d_TX_readKind_107
        · skip
          refine lv_aload_n S.1 S.2.1 d_TX_readKind_91 rfl (lv_at hl 2 rfl) ?_
          refine lv_aload_n S.1 S.2.1 d_TX_readKind_92 rfl (lv_at hl 2 rfl) ?_
          refine g_get S hO fl_TX_35 (by decide) (sh_35 G ad _ _) (v := .int (sn 35 3)) rfl d_TX_readKind_93 ?_
          refine W.eq (g2 := F0 m 96 ls [.int (nI (pp + mq)), .ref (ad 35)]) (by rw [show sn 35 3 = nI (pp + mq) from (by simp [hsn, up2_at])]) ?_
          refine g_VI (As := [.int (nI (pp + mq))]) (rest := []) S hO (fun _ h => h) (k_TX_fail l G ad sn τ (nI (pp + mq))) cw_TX_95 (by decide) (sh_35 G ad _ _) rfl rfl hl.1 (Nat.le_of_ble_eq_true rfl) ⟨(Nat.le_of_ble_eq_true rfl), (Nat.le_of_ble_eq_true rfl)⟩ ⟨(Nat.le_of_ble_eq_true rfl), (Nat.le_of_ble_eq_true rfl)⟩ d_TX_readKind_96 (fun q x ce H locs h9 => h9.elim) (fun v E1 H locs v_2 hO => ?_)
          obtain ⟨s_3, t_4, rfl, rfl, hs_3, ht_4⟩ := v_2
          rw [ht_4] at hO
          refine W.eq (g2 := F0 m 99 ls [.int 0]) rfl ?_
          refine lv_if_eq (tgt := 106) S.1 S.2.1 d_TX_readKind_99 (by decide) (fun c_99 => ?_) (fun c_99 => ?_)
          · skip
            refine lv_iconst (v := 0) S.1 S.2.1 d_TX_readKind_106 (by decide) ?_
            subst hs_3
            subst hsn
            exact im_z S hk hr hO (by first | exact Or.inl rfl | exact Or.inr rfl | exact b_01) ⟨by rw [hs9]; exact (((TXK.refl σ).up (by omega)).up (by omega)).up (by omega), rfl, ⟨kq, hq11, by rw [up2_j (by decide), up2_j (by decide), hs9, up2_s]⟩, pkP_e (e := pp + mq) (by rw [pkd, (pkf_k (T := σ 36) (N := N) (p := pp) (k0 := 0) (k1 := k0) 10 (by omega)), hmq, ← hkq, if_neg c_88, nI_clamp (by omega)]) rfl up2_s⟩ (Nat.le_of_ble_eq_true rfl) (Nat.le_of_ble_eq_true rfl) d_TX_readKind_107
          · skip
            exact absurd rfl c_99
      · skip
        have hk1 : k < 11 := ngt_nI (x := (11 : Int32)) (n := 11) rfl rfl (by omega) (by omega) c_9
        refine lv_aload_n S.1 S.2.1 d_TX_readKind_12 rfl (lv_at hl 2 rfl) ?_
        refine va_getsN S.1 S.2.1 hO.2.2.2.2.2.2.2.2.2.2.1 hO.SG S.2.2.2.1 (va_Nw.use rfl (hO.2.2.2.2.2.2.2.1 _ kz_KINDS rfl)) (fun _ h => h) d_TX_readKind_13 ?_
        refine lv_iload_n S.1 S.2.1 d_TX_readKind_16 rfl (lv_at hl 0 rfl) ?_
        refine vb_tq S.1 S.2.1 hO.2.2.2.2.2.2.2.2.2.2.2.1 hO.SG (vp_in_nI (show k < 11 by omega) (by decide)) (v := .ref (ga G k)) (by rw [nI_clamp (by omega)]) d_TX_readKind_17 ?_
        refine va_getX S.1 S.2.1 hO.2.2.2.2.2.2.2.2.2.2.2.2.2.2.1 (by omega) hO.SG S.2.2.2.1 (S.2.2.2.2 _ kf_TX_102) (fun _ h => h) d_TX_readKind_18 ?_
        refine g_VP (As := [.ref (ga G (20 + k))]) (rest := []) S hO (k_TX_sharedSigns l G ad s9 τ k (by omega) N h1 hN4 pp h3 (by omega)) cw_TX_106 (by decide) (sh_35 G ad _ _) rfl rfl hl.1 (Nat.le_of_ble_eq_true rfl) ⟨(Nat.le_of_ble_eq_true rfl), (Nat.le_of_ble_eq_true rfl)⟩ ⟨(Nat.le_of_ble_eq_true rfl), (Nat.le_of_ble_eq_true rfl)⟩ d_TX_readKind_21 (fun q x ce H h9 => h9.elim) (fun v H v_5 hO => ?_)
        subst v_5
        refine W.eq (g2 := F0 m 24 ls [.int (nI (shN (s9 36) N pp k))]) rfl ?_
        refine W.eq (g2 := F0 m 24 ls [.int (nI (shN (σ 36) N pp k))]) (by rw [hT]) ?_
        refine lv_istore_n (lv' := [(3, .int (nI (shN (σ 36) N pp k))), (2, .int (nI k)), (1, .int ((pkf (σ 36) N pp k0 k).1)), (0, .ref (ad 35))]) S.1 S.2.1 d_TX_readKind_24 rfl hl (by decide) rfl (fun ls hl => ?_)
        refine lv_iload_n S.1 S.2.1 d_TX_readKind_25 rfl (lv_at hl 0 rfl) ?_
        refine lv_iload_n S.1 S.2.1 d_TX_readKind_26 rfl (lv_at hl 2 rfl) ?_
        refine lv_icmp_gt (tgt := 50) S.1 S.2.1 d_TX_readKind_27 (by decide) (fun c_27 => ?_) (fun c_27 => ?_)
        · skip
          refine lv_iload_n S.1 S.2.1 d_TX_readKind_50 rfl (lv_at hl 0 rfl) ?_
          refine lv_istore_n (lv' := [(1, .int (nI (shN (σ 36) N pp k))), (3, .int (nI (shN (σ 36) N pp k))), (2, .int (nI k)), (0, .ref (ad 35))]) S.1 S.2.1 d_TX_readKind_51 rfl hl (by decide) rfl (fun ls hl => ?_)
          refine lv_aload_n S.1 S.2.1 d_TX_readKind_52 rfl (lv_at hl 3 rfl) ?_
          refine va_getsN S.1 S.2.1 hO.2.2.2.2.2.2.2.2.2.2.1 hO.SG S.2.2.2.1 (va_Nw.use rfl (hO.2.2.2.2.2.2.2.1 _ kz_KINDS rfl)) (fun _ h => h) d_TX_readKind_53 ?_
          refine lv_iload_n S.1 S.2.1 d_TX_readKind_56 rfl (lv_at hl 2 rfl) ?_
          refine vb_tq S.1 S.2.1 hO.2.2.2.2.2.2.2.2.2.2.2.1 hO.SG (vp_in_nI (show k < 11 by omega) (by decide)) (v := .ref (ga G k)) (by rw [nI_clamp (by omega)]) d_TX_readKind_57 ?_
          refine W.eq (g2 := F0 m 58 ls [.ref (ga G ((nI k).toNatClampNeg)), .ref (ad 35)]) (by rw [nI_clamp (by omega)]) ?_
          obtain ⟨sa, hsa⟩ : ∃ z : Nat → Nat → Int32, z = up2 s9 35 6 (nI k) := ⟨_, rfl⟩
          refine g_put S hO (fun _ h => h) fp_TX_27 (by decide) (sh_35 G ad _ _) (v := .ref (ga G ((nI k).toNatClampNeg))) rfl rfl (Nat.le_of_ble_eq_true rfl) (E2 := enc G ad sa τ) (by rw [hsa]; exact enc_i (sh_35 G ad _ _)) d_TX_readKind_58 (fun H locs hO => ?_)
          refine lv_iinc (v := nI (k + 1)) (lv' := [(2, .int (nI (k + 1))), (1, .int (nI (shN (σ 36) N pp k))), (3, .int (nI (shN (σ 36) N pp k))), (0, .ref (ad 35))]) S.1 S.2.1 d_TX_readKind_61 hl (k := 2) rfl (nI_1 _) (by decide) rfl (fun ls hl => ?_)
          refine lv_goto (tgt := 4) S.1 S.2.1 d_TX_readKind_64 (by decide) ?_
          have eK : pkf (σ 36) N pp k0 (k + 1) = (nI (shN (σ 36) N pp k), k) := by show pkS _ _ _ _ _ = _; rw [pkS, if_pos (Or.inl c_27)]
          rw [show nI (shN (σ 36) N pp k) = (pkf (σ 36) N pp k0 (k + 1)).1 by rw [eK]] at hl
          exact ih_4 (k + 1) sa (by omega) (by omega) (by rw [hsa, hs9, up2_i, eK]) _ _ hO ls (lv_sub hl [0, 1, 3] rfl)
        · skip
          refine lv_iload_n S.1 S.2.1 d_TX_readKind_30 rfl (lv_at hl 0 rfl) ?_
          refine lv_iload_n S.1 S.2.1 d_TX_readKind_31 rfl (lv_at hl 2 rfl) ?_
          refine lv_icmp_ne (tgt := 61) S.1 S.2.1 d_TX_readKind_32 (by decide) (fun c_32 => ?_) (fun c_32 => ?_)
          · skip
            refine lv_iinc (v := nI (k + 1)) (lv' := [(2, .int (nI (k + 1))), (3, .int (nI (shN (σ 36) N pp k))), (1, .int ((pkf (σ 36) N pp k0 k).1)), (0, .ref (ad 35))]) S.1 S.2.1 d_TX_readKind_61 hl (k := 1) rfl (nI_1 _) (by decide) rfl (fun ls hl => ?_)
            refine lv_goto (tgt := 4) S.1 S.2.1 d_TX_readKind_64 (by decide) ?_
            have eK : pkf (σ 36) N pp k0 (k + 1) = pkf (σ 36) N pp k0 k := by show pkS _ _ _ _ _ = _; rw [pkS, if_neg (fun z => z.elim c_27 (fun z => c_32 z.1))]
            rw [← eK] at hl
            exact ih_4 (k + 1) s9 (by omega) (by omega) (by rw [hs9, eK]) _ _ hO ls (lv_sub hl [0, 2, 3] rfl)
          · skip
            refine lv_iload_n S.1 S.2.1 d_TX_readKind_35 rfl (lv_at hl 0 rfl) ?_
            refine va_getsN S.1 S.2.1 hO.2.2.2.2.2.2.2.2.2.2.1 hO.SG S.2.2.2.1 (va_Nw.use rfl (hO.2.2.2.2.2.2.2.1 _ kz_KINDS rfl)) (fun _ h => h) d_TX_readKind_36 ?_
            refine lv_iload_n S.1 S.2.1 d_TX_readKind_39 rfl (lv_at hl 1 rfl) ?_
            refine vb_tq S.1 S.2.1 hO.2.2.2.2.2.2.2.2.2.2.2.1 hO.SG (vp_in_nI (show k < 11 by omega) (by decide)) (v := .ref (ga G k)) (by rw [nI_clamp (by omega)]) d_TX_readKind_40 ?_
            refine va_getX S.1 S.2.1 hO.2.2.2.2.2.2.2.2.2.2.2.2.2.2.1 (by omega) hO.SG S.2.2.2.1 (S.2.2.2.2 _ kf_TX_102) (fun _ h => h) d_TX_readKind_41 ?_
            refine g_VPS (As := []) (rest := [.int (nI (shN (σ 36) N pp k))]) S hO (i := k) (by omega) (k_java_lang_String_length l G ad s9 τ k (by omega)) cw_TX_110 rfl hl.1 (Nat.le_of_ble_eq_true rfl) ⟨(Nat.le_of_ble_eq_true rfl), (Nat.le_of_ble_eq_true rfl)⟩ ⟨(Nat.le_of_ble_eq_true rfl), (Nat.le_of_ble_eq_true rfl)⟩ d_TX_readKind_44 (fun q x ce H h9 => h9.elim) (fun v H v_8 hO => ?_)
            subst v_8
            refine W.eq (g2 := F0 m 47 ls [.int (nI (gkl.getD k 0)), .int (nI (shN (σ 36) N pp k))]) rfl ?_
            refine lv_icmp_ne (tgt := 61) S.1 S.2.1 d_TX_readKind_47 (by decide) (fun c_47 => ?_) (fun c_47 => ?_)
            · skip
              refine lv_iinc (v := nI (k + 1)) (lv' := [(2, .int (nI (k + 1))), (3, .int (nI (shN (σ 36) N pp k))), (1, .int ((pkf (σ 36) N pp k0 k).1)), (0, .ref (ad 35))]) S.1 S.2.1 d_TX_readKind_61 hl (k := 1) rfl (nI_1 _) (by decide) rfl (fun ls hl => ?_)
              refine lv_goto (tgt := 4) S.1 S.2.1 d_TX_readKind_64 (by decide) ?_
              have eK : pkf (σ 36) N pp k0 (k + 1) = pkf (σ 36) N pp k0 k := by show pkS _ _ _ _ _ = _; rw [pkS, if_neg (fun z => z.elim c_27 (fun z => c_47 z.2))]
              rw [← eK] at hl
              exact ih_4 (k + 1) s9 (by omega) (by omega) (by rw [hs9, eK]) _ _ hO ls (lv_sub hl [0, 2, 3] rfl)
            · skip
              refine lv_iload_n S.1 S.2.1 d_TX_readKind_50 rfl (lv_at hl 0 rfl) ?_
              refine lv_istore_n (lv' := [(1, .int (nI (shN (σ 36) N pp k))), (3, .int (nI (shN (σ 36) N pp k))), (2, .int (nI k)), (0, .ref (ad 35))]) S.1 S.2.1 d_TX_readKind_51 rfl hl (by decide) rfl (fun ls hl => ?_)
              refine lv_aload_n S.1 S.2.1 d_TX_readKind_52 rfl (lv_at hl 3 rfl) ?_
              refine va_getsN S.1 S.2.1 hO.2.2.2.2.2.2.2.2.2.2.1 hO.SG S.2.2.2.1 (va_Nw.use rfl (hO.2.2.2.2.2.2.2.1 _ kz_KINDS rfl)) (fun _ h => h) d_TX_readKind_53 ?_
              refine lv_iload_n S.1 S.2.1 d_TX_readKind_56 rfl (lv_at hl 2 rfl) ?_
              refine vb_tq S.1 S.2.1 hO.2.2.2.2.2.2.2.2.2.2.2.1 hO.SG (vp_in_nI (show k < 11 by omega) (by decide)) (v := .ref (ga G k)) (by rw [nI_clamp (by omega)]) d_TX_readKind_57 ?_
              refine W.eq (g2 := F0 m 58 ls [.ref (ga G ((nI k).toNatClampNeg)), .ref (ad 35)]) (by rw [nI_clamp (by omega)]) ?_
              obtain ⟨sa, hsa⟩ : ∃ z : Nat → Nat → Int32, z = up2 s9 35 6 (nI k) := ⟨_, rfl⟩
              refine g_put S hO (fun _ h => h) fp_TX_27 (by decide) (sh_35 G ad _ _) (v := .ref (ga G ((nI k).toNatClampNeg))) rfl rfl (Nat.le_of_ble_eq_true rfl) (E2 := enc G ad sa τ) (by rw [hsa]; exact enc_i (sh_35 G ad _ _)) d_TX_readKind_58 (fun H locs hO => ?_)
              refine lv_iinc (v := nI (k + 1)) (lv' := [(2, .int (nI (k + 1))), (1, .int (nI (shN (σ 36) N pp k))), (3, .int (nI (shN (σ 36) N pp k))), (0, .ref (ad 35))]) S.1 S.2.1 d_TX_readKind_61 hl (k := 2) rfl (nI_1 _) (by decide) rfl (fun ls hl => ?_)
              refine lv_goto (tgt := 4) S.1 S.2.1 d_TX_readKind_64 (by decide) ?_
              have eK : pkf (σ 36) N pp k0 (k + 1) = (nI (shN (σ 36) N pp k), k) := by show pkS _ _ _ _ _ = _; rw [pkS, if_pos (Or.inr ⟨c_32, c_47⟩)]
              rw [show nI (shN (σ 36) N pp k) = (pkf (σ 36) N pp k0 (k + 1)).1 by rw [eK]] at hl
              exact ih_4 (k + 1) sa (by omega) (by omega) (by rw [hsa, hs9, up2_i, eK]) _ _ hO ls (lv_sub hl [0, 1, 3] rfl)
  exact K_4 12 0 σ (by omega) (by omega) (up2_self hkd).symm _ _ hO ls (lv_sub hl [0, 1, 2] rfl)
def pen (T : Nat → Int32) (N : Nat) (r : Int32 × Nat × Int32 × Int32) (q : Nat) : Except Nat ((Int32 × Nat × Int32 × Int32) × Nat) := if q < N then (if nxS T N q = 10 then .ok (r, q + 1) else .error q) else .ok (r, q)
/-- a line from p on: its rule, and the place behind it; or the first sign that is wrong -/
def pln (T : Nat → Int32) (N p : Nat) : Except Nat ((Int32 × Nat × Int32 × Int32) × Nat) := match pnr T N p 1 100 with
  | .error e => .error e
  | .ok (rk, q1) => if nxS T N q1 = 32 then (match pkd T N (q1 + 1) with
    | .error e => .error e
    | .ok (k, q2) => if nxS T N q2 = 32 then (match pnr T N (q2 + 1) (kLe k) (kMo k) with
      | .error e => .error e
      | .ok (a, q3) => if kNu k = 2 then (if nxS T N q3 = 32 then (match pnr T N (q3 + 1) (kLe k) (kMo k) with
        | .error e => .error e
        | .ok (b, q4) => pen T N (rk, k, a, b) q4) else .error q3) else pen T N (rk, k, a, 0) q3) else .error q2) else .error q1
def TXL (s σ : Nat → Nat → Int32) (q : Nat) : Prop := ∀ k j, ¬ (k = 35 ∧ (j = 3 ∨ j = 4 ∨ j = 5 ∨ j = 6)) → ¬ (k = 38 + q ∧ j < 4) → s k j = σ k j
theorem TXL.refl (σ : Nat → Nat → Int32) (q : Nat) : TXL σ σ q := fun _ _ _ _ => rfl
theorem TXL.up {s σ : Nat → Nat → Int32} {q : Nat} (h : TXL s σ q) {c j : Nat} {v : Int32} (hj : (c = 35 ∧ (j = 3 ∨ j = 4 ∨ j = 5 ∨ j = 6)) ∨ (c = 38 + q ∧ j < 4)) : TXL (up2 s c j v) σ q := fun k i h1 h2 => by
  rw [up2_at, if_neg (fun z => by obtain ⟨z1, z2⟩ := z; subst z1; subst z2; exact hj.elim h1 h2)]
  exact h k i h1 h2
theorem TXL.F {s t σ : Nat → Nat → Int32} {q : Nat} (h : TXL s σ q) (h2 : TXF t s) : TXL t σ q := fun k i z1 z2 => (h2 k i (fun z => z1 ⟨z.1, by omega⟩)).trans (h k i z1 z2)
theorem TXL.K {s t σ : Nat → Nat → Int32} {q : Nat} (h : TXL s σ q) (h2 : TXK t s) : TXL t σ q := fun k i z1 z2 => (h2 k i z1).trans (h k i z1 z2)
theorem TXL.T {s σ : Nat → Nat → Int32} {q : Nat} (h : TXL s σ q) : s 36 = σ 36 := funext (fun j => h 36 j (by omega) (by omega))
theorem TXL.N {s σ : Nat → Nat → Int32} {q : Nat} (h : TXL s σ q) {x : Int32} (h1 : σ 35 1 = x) : s 35 1 = x := by rw [h 35 1 (by omega) (by omega)]; exact h1
def plP (q : Nat) (r : Except Nat ((Int32 × Nat × Int32 × Int32) × Nat)) (v : Option Value) (s : Nat → Nat → Int32) : Prop := match r with
  | .error e => v = some (.int 0) ∧ s 35 4 = nI e
  | .ok (x, z) => v = some (.int 1) ∧ s 35 3 = nI z ∧ s (38 + q) 0 = x.1 ∧ s (38 + q) 1 = nI x.2.1 ∧ s (38 + q) 2 = x.2.2.1 ∧ s (38 + q) 3 = x.2.2.2
theorem plP_e {q : Nat} {r : Except Nat ((Int32 × Nat × Int32 × Int32) × Nat)} {e : Nat} {v : Option Value} {s : Nat → Nat → Int32} (h : r = .error e) (h1 : v = some (.int 0)) (h2 : s 35 4 = nI e) : plP q r v s := by
  subst h
  exact ⟨h1, h2⟩
theorem plP_o {q : Nat} {r : Except Nat ((Int32 × Nat × Int32 × Int32) × Nat)} {x1 x3 x4 : Int32} {x2 z : Nat} {v : Option Value} {s : Nat → Nat → Int32} (h : r = .ok ((x1, x2, x3, x4), z)) (h1 : v = some (.int 1)) (h2 : s 35 3 = nI z) (h3 : s (38 + q) 0 = x1) (h4 : s (38 + q) 1 = nI x2) (h5 : s (38 + q) 2 = x3) (h6 : s (38 + q) 3 = x4) : plP q r v s := by
  subst h
  exact ⟨h1, h2, h3, h4, h5, h6⟩
theorem pdl_d {T : Nat → Int32} {N p : Nat} (f d : Nat) (v : Int32) (x : Int32) (k : Nat) (h : pdl T N p f d v = .ok (x, k)) : k ≤ d + f := by
  induction f generalizing d v with
  | zero => simp [pdl] at h; omega
  | succ f ih =>
    unfold pdl at h
    split at h
    · split at h
      · simp at h
      · have := ih _ _ h; omega
    · simp at h; omega
theorem pnr_d {T : Nat → Int32} {N p q : Nat} {lo hi x : Int32} (h : pnr T N p lo hi = .ok (x, q)) : q ≤ p + 7 ∧ inB x lo hi = true := by
  unfold pnr pnm at h
  cases h1 : pdl T N p 7 0 0 with
  | error e => simp [h1] at h
  | ok r =>
    obtain ⟨v, d⟩ := r
    have h2 := pdl_d _ _ _ _ _ h1
    simp only [h1] at h
    by_cases h3 : d = 0
    · simp [h3] at h
    · simp only [h3, if_false] at h
      by_cases h4 : inB v lo hi = true
      · simp only [h4, if_true, Except.ok.injEq, Prod.mk.injEq] at h
        exact ⟨by omega, by rw [← h.1]; exact h4⟩
      · simp [h4] at h
theorem pkd_d {T : Nat → Int32} {N p q k : Nat} (h : pkd T N p = .ok (k, q)) : q ≤ p + 6 ∧ k < 11 := by
  obtain ⟨h1, h2⟩ := pkf_o (T := T) (N := N) (p := p) (k0 := 0) (by decide) 11 (by decide)
  obtain ⟨z, hz, hz2⟩ := h2.resolve_left (by decide)
  unfold pkd at h
  split at h
  · simp only [Except.ok.injEq, Prod.mk.injEq] at h
    rw [hz2, nI_clamp (by omega)] at h
    exact ⟨by omega, by rw [← h.1]; exact h1⟩
  · simp at h
theorem c35 (q : Nat) : ¬ (35 = 38 + q) := by omega
theorem c53 (q : Nat) : ¬ (38 + q = 35) := by omega
set_option maxHeartbeats 4000000 in
set_option maxRecDepth 100000 in
theorem k_TX_readLine (l : Launch) (G : gP) (ad : Nat → Nat) (σ : Nat → Nat → Int32) (τ : Nat → Nat → Int64) (q : Nat) (hq24 : q < 24) (z0 : Nat) (hz0 : z0 < 11) (hd1_0 : σ (38 + q) 1 = nI z0) (k0 : Nat) (hk0 : k0 < 11) (hkd : σ 35 6 = nI k0) (N : Nat) (hN : σ 35 1 = nI N) (hN4 : N ≤ 400) (pp : Nat) (hp : σ 35 3 = nI pp) (hp2 : pp < 1000) : gim l y_TX_readLine c_TX_readLine 2 (some .boolean) { frames := 6, cells := 0, slots := 0, locals := 130 } G ad σ τ [.ref (ad 35), .ref (ad (38 + q))] 0 0 (fun v σ1 τ1 => TXL σ1 σ q ∧ τ1 = τ ∧ (∃ k, k < 11 ∧ σ1 35 6 = nI k) ∧ (∃ k, k < 11 ∧ σ1 (38 + q) 1 = nI k) ∧ plP q (pln (σ 36) N pp) v σ1) (fun _ => False) := by
  refine gs_of (fun _ h => h) (by decide) (Nat.le_of_ble_eq_true rfl) ?_
  intro p e s m args below meth c ls S hk hr hx hl hO
  have hl : lv_has ls 2 [(0, .ref (ad 35)), (1, .ref (ad (38 + q)))] := hl
  refine lv_aload_n S.1 S.2.1 d_TX_readLine_0 rfl (lv_at hl 0 rfl) ?_
  refine lv_iconst (v := 1) S.1 S.2.1 d_TX_readLine_1 (by decide) ?_
  refine lv_bipush (v := 100) S.1 S.2.1 d_TX_readLine_2 (by decide) ?_
  refine g_VI (As := [.int 1, .int 100]) (rest := []) S hO (fun _ h => h) (k_TX_readNumber l G ad σ τ 1 100 N hN hN4 pp hp (by omega)) cw_TX_45 (by decide) (sh_35 G ad _ _) rfl rfl hl.1 (Nat.le_of_ble_eq_true rfl) ⟨(Nat.le_of_ble_eq_true rfl), (Nat.le_of_ble_eq_true rfl)⟩ ⟨(Nat.le_of_ble_eq_true rfl), (Nat.le_of_ble_eq_true rfl)⟩ d_TX_readLine_4 (fun q x ce H locs h9 => h9.elim) (fun v E1 H locs v_1 hO => ?_)
  obtain ⟨s1, t_2, rfl, hF_s1, ht_2, hP_4⟩ := v_1
  rw [ht_2] at hO
  rw [show σ 36 = σ 36 from ((TXL.refl σ q)).T] at hP_4
  have hL_s1 : TXL s1 σ q := TXL.F (TXL.refl σ q) hF_s1
  have hN_s1 : s1 35 1 = nI N := hL_s1.N hN
  have hd1_s1 : s1 (38 + q) 1 = nI z0 := by rw [hF_s1 (38 + q) 1 (by omega)]; exact hd1_0
  have h6_s1 : s1 35 6 = nI k0 := by rw [hF_s1 35 6 (by omega)]; exact hkd
  rcases hr_4 : pnr (σ 36) N pp 1 100 with e_4 | ⟨x1, q1⟩
  · skip
    rw [hr_4] at hP_4
    obtain ⟨rfl, h4_s1⟩ := hP_4
    refine W.eq (g2 := F0 m 7 ls [.int 0]) rfl ?_
    refine lv_if_ne (tgt := 12) S.1 S.2.1 d_TX_readLine_7 (by decide) (fun c_7 => ?_) (fun c_7 => ?_)
    · skip
      exact absurd rfl c_7
    · skip
      refine lv_iconst (v := 0) S.1 S.2.1 d_TX_readLine_10 (by decide) ?_
      exact im_z S hk hr hO (by first | exact Or.inl rfl | exact Or.inr rfl | exact b_01) ⟨hL_s1, rfl, ⟨k0, hk0, h6_s1⟩, ⟨z0, hz0, hd1_s1⟩, plP_e (e := e_4) (by simp only [pln, hr_4]) rfl h4_s1⟩ (Nat.le_of_ble_eq_true rfl) (Nat.le_of_ble_eq_true rfl) d_TX_readLine_11
  · skip
    rw [hr_4] at hP_4
    obtain ⟨rfl, h3_s1, h5_s1⟩ := hP_4
    have hz_s1 := pnr_d hr_4
    refine W.eq (g2 := F0 m 7 ls [.int 1]) rfl ?_
    refine lv_if_ne (tgt := 12) S.1 S.2.1 d_TX_readLine_7 (by decide) (fun c_7 => ?_) (fun c_7 => ?_)
    · skip
      refine lv_aload_n S.1 S.2.1 d_TX_readLine_12 rfl (lv_at hl 1 rfl) ?_
      refine lv_aload_n S.1 S.2.1 d_TX_readLine_13 rfl (lv_at hl 0 rfl) ?_
      refine g_get S hO fl_TX_49 (by decide) (sh_35 G ad _ _) (v := .int (s1 35 5)) rfl d_TX_readLine_14 ?_
      refine W.eq (g2 := F0 m 17 ls [.int x1, .ref (ad (38 + q))]) (by rw [show s1 35 5 = x1 from h5_s1]) ?_
      obtain ⟨sa, hsa⟩ : ∃ z : Nat → Nat → Int32, z = up2 s1 (38 + q) 0 x1 := ⟨_, rfl⟩
      refine g_put S hO (fun _ h => h) fp_TX_52 (by omega) (sh_RD G ad _ _ (by omega)) (v := .int x1) rfl rfl (Nat.le_of_ble_eq_true rfl) (E2 := enc G ad sa τ) (by rw [hsa]; exact enc_i (sh_RD G ad _ _ (by omega))) d_TX_readLine_17 (fun H locs hO => ?_)
      refine lv_aload_n S.1 S.2.1 d_TX_readLine_20 rfl (lv_at hl 0 rfl) ?_
      refine g_VI (As := []) (rest := []) S hO (fun _ h => h) (k_TX_readBlank l G ad sa τ N (by simp [hsa, up2_at, hN_s1, c35, c53]) hN4 q1 (by simp [hsa, up2_at, h3_s1, c35, c53]) (by omega)) cw_TX_55 (by decide) (sh_35 G ad _ _) rfl rfl hl.1 (Nat.le_of_ble_eq_true rfl) ⟨(Nat.le_of_ble_eq_true rfl), (Nat.le_of_ble_eq_true rfl)⟩ ⟨(Nat.le_of_ble_eq_true rfl), (Nat.le_of_ble_eq_true rfl)⟩ d_TX_readLine_21 (fun q x ce H locs h9 => h9.elim) (fun v E1 H locs v_3 hO => ?_)
      obtain ⟨s2, t_4, rfl, hz_21, hs2, ht_4⟩ := v_3
      rw [ht_4] at hO
      by_cases b_21 : nxS (sa 36) N q1 = 32
      · skip
        rw [decide_eq_true b_21] at hz_21
        subst hz_21
        rw [rsS, if_pos b_21] at hs2
        refine W.eq (g2 := F0 m 24 ls [.int 1]) rfl ?_
        rw [show sa 36 = σ 36 from TXL.T (σ := σ) (q := q) (by rw [hsa]; exact TXL.up hL_s1 (by omega))] at b_21
        refine lv_if_eq (tgt := 34) S.1 S.2.1 d_TX_readLine_24 (by decide) (fun c_24 => ?_) (fun c_24 => ?_)
        · skip
          exact absurd c_24 (by decide)
        · skip
          refine lv_aload_n S.1 S.2.1 d_TX_readLine_27 rfl (lv_at hl 0 rfl) ?_
          refine g_VI (As := []) (rest := []) S hO (fun _ h => h) (k_TX_readKind l G ad s2 τ k0 (by omega) (by simp [hs2, hsa, up2_at, h6_s1, c35, c53]) N (by simp [hs2, hsa, up2_at, hN_s1, c35, c53]) hN4 (q1 + 1) (by simp [hs2, hsa, up2_at, c35, c53]) (by omega)) cw_TX_59 (by decide) (sh_35 G ad _ _) rfl rfl hl.1 (Nat.le_of_ble_eq_true rfl) ⟨(Nat.le_of_ble_eq_true rfl), (Nat.le_of_ble_eq_true rfl)⟩ ⟨(Nat.le_of_ble_eq_true rfl), (Nat.le_of_ble_eq_true rfl)⟩ d_TX_readLine_28 (fun q x ce H locs h9 => h9.elim) (fun v E1 H locs v_5 hO => ?_)
          obtain ⟨s3, t_6, rfl, hF_s3, ht_6, ⟨k9, hk9, h69_s3⟩, hP_28⟩ := v_5
          rw [ht_6] at hO
          rw [show s2 36 = σ 36 from TXL.T (σ := σ) (q := q) (by rw [hs2]; exact TXL.up (by rw [hsa]; exact TXL.up hL_s1 (by omega)) (by omega))] at hP_28
          have hL_s3 : TXL s3 σ q := TXL.K (by rw [hs2]; exact TXL.up (by rw [hsa]; exact TXL.up hL_s1 (by omega)) (by omega)) hF_s3
          have hN_s3 : s3 35 1 = nI N := hL_s3.N hN
          have hd0_s3 : s3 (38 + q) 0 = x1 := by rw [hF_s3 (38 + q) 0 (by omega)]; exact (by simp [hs2, hsa, up2_at, c35, c53])
          have hd1_s3 : s3 (38 + q) 1 = nI z0 := by rw [hF_s3 (38 + q) 1 (by omega)]; exact (by simp [hs2, hsa, up2_at, c35, c53, hd1_s1])
          rcases hr_28 : pkd (σ 36) N (q1 + 1) with e_28 | ⟨k, q2⟩
          · skip
            rw [hr_28] at hP_28
            obtain ⟨rfl, h4_s3⟩ := hP_28
            refine W.eq (g2 := F0 m 31 ls [.int 0]) rfl ?_
            refine lv_if_ne (tgt := 36) S.1 S.2.1 d_TX_readLine_31 (by decide) (fun c_31 => ?_) (fun c_31 => ?_)
            · skip
              exact absurd rfl c_31
            · skip
              refine lv_iconst (v := 0) S.1 S.2.1 d_TX_readLine_34 (by decide) ?_
              exact im_z S hk hr hO (by first | exact Or.inl rfl | exact Or.inr rfl | exact b_01) ⟨hL_s3, rfl, ⟨k9, hk9, h69_s3⟩, ⟨z0, hz0, hd1_s3⟩, plP_e (e := e_28) (by simp only [pln, hr_4, hr_28, if_pos b_21]) rfl h4_s3⟩ (Nat.le_of_ble_eq_true rfl) (Nat.le_of_ble_eq_true rfl) d_TX_readLine_35
          · skip
            rw [hr_28] at hP_28
            obtain ⟨rfl, h3_s3, h6_s3⟩ := hP_28
            have hz_s3 := pkd_d hr_28
            obtain ⟨hz1_s3, hk11⟩ := hz_s3
            refine W.eq (g2 := F0 m 31 ls [.int 1]) rfl ?_
            refine lv_if_ne (tgt := 36) S.1 S.2.1 d_TX_readLine_31 (by decide) (fun c_31 => ?_) (fun c_31 => ?_)
            · skip
              refine lv_aload_n S.1 S.2.1 d_TX_readLine_36 rfl (lv_at hl 1 rfl) ?_
              refine lv_aload_n S.1 S.2.1 d_TX_readLine_37 rfl (lv_at hl 0 rfl) ?_
              refine g_get S hO fl_TX_27 (by decide) (sh_35 G ad _ _) (v := .ref (ga G ((s3 35 6).toNatClampNeg))) rfl d_TX_readLine_38 ?_
              refine W.eq (g2 := F0 m 41 ls [.ref (ga G k), .ref (ad (38 + q))]) (by rw [show s3 35 6 = nI k from h6_s3, nI_clamp (by omega)]; try rfl) ?_
              refine W.eq (g2 := F0 m 41 ls [.ref (ga G ((nI k).toNatClampNeg)), .ref (ad (38 + q))]) (by rw [nI_clamp (by omega)]) ?_
              obtain ⟨sb, hsb⟩ : ∃ z : Nat → Nat → Int32, z = up2 s3 (38 + q) 1 (nI k) := ⟨_, rfl⟩
              refine g_put S hO (fun _ h => h) fp_TX_62 (by omega) (sh_RD G ad _ _ (by omega)) (v := .ref (ga G ((nI k).toNatClampNeg))) rfl rfl (Nat.le_of_ble_eq_true rfl) (E2 := enc G ad sb τ) (by rw [hsb]; exact enc_i (sh_RD G ad _ _ (by omega))) d_TX_readLine_41 (fun H locs hO => ?_)
              refine lv_aload_n S.1 S.2.1 d_TX_readLine_44 rfl (lv_at hl 0 rfl) ?_
              refine g_VI (As := []) (rest := []) S hO (fun _ h => h) (k_TX_readBlank l G ad sb τ N (by simp [hsb, up2_at, hN_s3, c35, c53]) hN4 q2 (by simp [hsb, up2_at, h3_s3, c35, c53]) (by omega)) cw_TX_55 (by decide) (sh_35 G ad _ _) rfl rfl hl.1 (Nat.le_of_ble_eq_true rfl) ⟨(Nat.le_of_ble_eq_true rfl), (Nat.le_of_ble_eq_true rfl)⟩ ⟨(Nat.le_of_ble_eq_true rfl), (Nat.le_of_ble_eq_true rfl)⟩ d_TX_readLine_45 (fun q x ce H locs h9 => h9.elim) (fun v E1 H locs v_7 hO => ?_)
              obtain ⟨s4, t_8, rfl, hz_45, hs4, ht_8⟩ := v_7
              rw [ht_8] at hO
              by_cases b_45 : nxS (sb 36) N q2 = 32
              · skip
                rw [decide_eq_true b_45] at hz_45
                subst hz_45
                rw [rsS, if_pos b_45] at hs4
                refine W.eq (g2 := F0 m 48 ls [.int 1]) rfl ?_
                rw [show sb 36 = σ 36 from TXL.T (σ := σ) (q := q) (by rw [hsb]; exact TXL.up hL_s3 (by omega))] at b_45
                refine lv_if_eq (tgt := 72) S.1 S.2.1 d_TX_readLine_48 (by decide) (fun c_48 => ?_) (fun c_48 => ?_)
                · skip
                  exact absurd c_48 (by decide)
                · skip
                  refine lv_aload_n S.1 S.2.1 d_TX_readLine_51 rfl (lv_at hl 0 rfl) ?_
                  refine lv_aload_n S.1 S.2.1 d_TX_readLine_52 rfl (lv_at hl 0 rfl) ?_
                  refine g_get S hO fl_TX_27 (by decide) (sh_35 G ad _ _) (v := .ref (ga G ((s4 35 6).toNatClampNeg))) rfl d_TX_readLine_53 ?_
                  refine W.eq (g2 := F0 m 56 ls [.ref (ga G k), .ref (ad 35)]) (by rw [show s4 35 6 = nI k from (by simp [hs4, hsb, up2_at, h6_s3, c35, c53]), nI_clamp (by omega)]; try rfl) ?_
                  refine g_getk S hO (i := k) (by omega) (q := gkF.getD 2 ("", "", "", [])) (by decide) kf_TX_63 d_TX_readLine_56 ?_
                  refine lv_aload_n S.1 S.2.1 d_TX_readLine_59 rfl (lv_at hl 0 rfl) ?_
                  refine g_get S hO fl_TX_27 (by decide) (sh_35 G ad _ _) (v := .ref (ga G ((s4 35 6).toNatClampNeg))) rfl d_TX_readLine_60 ?_
                  refine W.eq (g2 := F0 m 63 ls [.ref (ga G k), .int (kLe k), .ref (ad 35)]) (by rw [show s4 35 6 = nI k from (by simp [hs4, hsb, up2_at, h6_s3, c35, c53]), nI_clamp (by omega)]; try rfl) ?_
                  refine g_getk S hO (i := k) (by omega) (q := gkF.getD 3 ("", "", "", [])) (by decide) kf_TX_66 d_TX_readLine_63 ?_
                  refine g_VI (As := [.int (kLe k), .int (kMo k)]) (rest := []) S hO (fun _ h => h) (k_TX_readNumber l G ad s4 τ (kLe k) (kMo k) N (by simp [hs4, hsb, up2_at, hN_s3, c35, c53]) hN4 (q2 + 1) (by simp [hs4, hsb, up2_at, c35, c53]) (by omega)) cw_TX_45 (by decide) (sh_35 G ad _ _) rfl rfl hl.1 (Nat.le_of_ble_eq_true rfl) ⟨(Nat.le_of_ble_eq_true rfl), (Nat.le_of_ble_eq_true rfl)⟩ ⟨(Nat.le_of_ble_eq_true rfl), (Nat.le_of_ble_eq_true rfl)⟩ d_TX_readLine_66 (fun q x ce H locs h9 => h9.elim) (fun v E1 H locs v_9 hO => ?_)
                  obtain ⟨s5, t_10, rfl, hF_s5, ht_10, hP_66⟩ := v_9
                  rw [ht_10] at hO
                  rw [show s4 36 = σ 36 from TXL.T (σ := σ) (q := q) (by rw [hs4]; exact TXL.up (by rw [hsb]; exact TXL.up hL_s3 (by omega)) (by omega))] at hP_66
                  have hL_s5 : TXL s5 σ q := TXL.F (by rw [hs4]; exact TXL.up (by rw [hsb]; exact TXL.up hL_s3 (by omega)) (by omega)) hF_s5
                  have hN_s5 : s5 35 1 = nI N := hL_s5.N hN
                  have hd0_s5 : s5 (38 + q) 0 = x1 := by rw [hF_s5 (38 + q) 0 (by omega)]; exact (by simp [hs4, hsb, up2_at, c35, c53, hd0_s3])
                  have hd1_s5 : s5 (38 + q) 1 = nI k := by rw [hF_s5 (38 + q) 1 (by omega)]; exact (by simp [hs4, hsb, up2_at, c35, c53, hd1_s3])
                  have h6_s5 : s5 35 6 = nI k := by rw [hF_s5 35 6 (by omega)]; exact (by simp [hs4, hsb, up2_at, h6_s3, c35, c53])
                  rcases hr_66 : pnr (σ 36) N (q2 + 1) (kLe k) (kMo k) with e_66 | ⟨x3, q3⟩
                  · skip
                    rw [hr_66] at hP_66
                    obtain ⟨rfl, h4_s5⟩ := hP_66
                    refine W.eq (g2 := F0 m 69 ls [.int 0]) rfl ?_
                    refine lv_if_ne (tgt := 74) S.1 S.2.1 d_TX_readLine_69 (by decide) (fun c_69 => ?_) (fun c_69 => ?_)
                    · skip
                      exact absurd rfl c_69
                    · skip
                      refine lv_iconst (v := 0) S.1 S.2.1 d_TX_readLine_72 (by decide) ?_
                      exact im_z S hk hr hO (by first | exact Or.inl rfl | exact Or.inr rfl | exact b_01) ⟨hL_s5, rfl, ⟨k, hk11, h6_s5⟩, ⟨k, hk11, hd1_s5⟩, plP_e (e := e_66) (by simp only [pln, hr_4, hr_28, hr_66, if_pos b_21, if_pos b_45]) rfl h4_s5⟩ (Nat.le_of_ble_eq_true rfl) (Nat.le_of_ble_eq_true rfl) d_TX_readLine_73
                  · skip
                    rw [hr_66] at hP_66
                    obtain ⟨rfl, h3_s5, h5_s5⟩ := hP_66
                    have hz_s5 := pnr_d hr_66
                    refine W.eq (g2 := F0 m 69 ls [.int 1]) rfl ?_
                    refine lv_if_ne (tgt := 74) S.1 S.2.1 d_TX_readLine_69 (by decide) (fun c_69 => ?_) (fun c_69 => ?_)
                    · skip
                      refine lv_aload_n S.1 S.2.1 d_TX_readLine_74 rfl (lv_at hl 1 rfl) ?_
                      refine lv_aload_n S.1 S.2.1 d_TX_readLine_75 rfl (lv_at hl 0 rfl) ?_
                      refine g_get S hO fl_TX_49 (by decide) (sh_35 G ad _ _) (v := .int (s5 35 5)) rfl d_TX_readLine_76 ?_
                      refine W.eq (g2 := F0 m 79 ls [.int x3, .ref (ad (38 + q))]) (by rw [show s5 35 5 = x3 from h5_s5]) ?_
                      obtain ⟨sc, hsc⟩ : ∃ z : Nat → Nat → Int32, z = up2 s5 (38 + q) 2 x3 := ⟨_, rfl⟩
                      refine g_put S hO (fun _ h => h) fp_TX_69 (by omega) (sh_RD G ad _ _ (by omega)) (v := .int x3) rfl rfl (Nat.le_of_ble_eq_true rfl) (E2 := enc G ad sc τ) (by rw [hsc]; exact enc_i (sh_RD G ad _ _ (by omega))) d_TX_readLine_79 (fun H locs hO => ?_)
                      refine lv_aload_n S.1 S.2.1 d_TX_readLine_82 rfl (lv_at hl 1 rfl) ?_
                      refine lv_iconst (v := 0) S.1 S.2.1 d_TX_readLine_83 (by decide) ?_
                      obtain ⟨sd, hsd⟩ : ∃ z : Nat → Nat → Int32, z = up2 sc (38 + q) 3 0 := ⟨_, rfl⟩
                      refine g_put S hO (fun _ h => h) fp_TX_72 (by omega) (sh_RD G ad _ _ (by omega)) (v := .int 0) rfl rfl (Nat.le_of_ble_eq_true rfl) (E2 := enc G ad sd τ) (by rw [hsd]; exact enc_i (sh_RD G ad _ _ (by omega))) d_TX_readLine_84 (fun H locs hO => ?_)
                      refine lv_aload_n S.1 S.2.1 d_TX_readLine_87 rfl (lv_at hl 0 rfl) ?_
                      refine g_get S hO fl_TX_27 (by decide) (sh_35 G ad _ _) (v := .ref (ga G ((sd 35 6).toNatClampNeg))) rfl d_TX_readLine_88 ?_
                      refine W.eq (g2 := F0 m 91 ls [.ref (ga G k)]) (by rw [show sd 35 6 = nI k from (by simp [hsd, hsc, up2_at, h6_s5, c35, c53]), nI_clamp (by omega)]; try rfl) ?_
                      refine g_VPK (As := []) (rest := []) S hO (i := k) (by omega) (k_KD_hasSecond l G ad sd τ k (by omega)) cw_TX_75 rfl hl.1 (Nat.le_of_ble_eq_true rfl) ⟨(Nat.le_of_ble_eq_true rfl), (Nat.le_of_ble_eq_true rfl)⟩ ⟨(Nat.le_of_ble_eq_true rfl), (Nat.le_of_ble_eq_true rfl)⟩ d_TX_readLine_91 (fun q x ce H h9 => h9.elim) (fun v H v_11 hO => ?_)
                      subst v_11
                      refine W.eq (g2 := F0 m 94 ls [.int (if kNu k = 2 then 1 else 0)]) rfl ?_
                      refine lv_if_eq (tgt := 135) S.1 S.2.1 d_TX_readLine_94 (by decide) (fun c_94 => ?_) (fun c_94 => ?_)
                      · skip
                        have n2 : ¬ kNu k = 2 := z_0.mp c_94
                        refine lv_aload_n S.1 S.2.1 d_TX_readLine_135 rfl (lv_at hl 0 rfl) ?_
                        refine g_get S hO fl_TX_35 (by decide) (sh_35 G ad _ _) (v := .int (sd 35 3)) rfl d_TX_readLine_136 ?_
                        refine W.eq (g2 := F0 m 139 ls [.int (nI q3)]) (by rw [show sd 35 3 = nI q3 from (by simp [hsd, hsc, up2_at, h3_s5, c35, c53])]) ?_
                        refine lv_aload_n S.1 S.2.1 d_TX_readLine_139 rfl (lv_at hl 0 rfl) ?_
                        refine g_get S hO fl_TX_31 (by decide) (sh_35 G ad _ _) (v := .int (sd 35 1)) rfl d_TX_readLine_140 ?_
                        refine W.eq (g2 := F0 m 143 ls [.int (nI N), .int (nI q3)]) (by rw [show sd 35 1 = nI N from (by simp [hsd, hsc, up2_at, hN_s5, c35, c53])]) ?_
                        refine lv_icmp_ge (tgt := 155) S.1 S.2.1 d_TX_readLine_143 (by decide) (fun c_143 => ?_) (fun c_143 => ?_)
                        · skip
                          have hge : N ≤ q3 := ge_nI (x := nI N) rfl rfl (by omega) (by omega) c_143
                          refine lv_iconst (v := 1) S.1 S.2.1 d_TX_readLine_155 (by decide) ?_
                          refine lv_goto (tgt := 160) S.1 S.2.1 d_TX_readLine_156 (by decide) ?_
                          exact im_z S hk hr hO (by first | exact Or.inl rfl | exact Or.inr rfl | exact b_01) ⟨(by rw [hsd]; exact TXL.up (by rw [hsc]; exact TXL.up hL_s5 (by omega)) (by omega)), rfl, ⟨k, hk11, (by simp [hsd, hsc, up2_at, h6_s5, c35, c53])⟩, ⟨k, hk11, (by simp [hsd, hsc, up2_at, c35, c53, hd1_s5])⟩, plP_o (x1 := x1) (x2 := k) (x3 := x3) (x4 := 0) (z := q3) (by simp only [pln, pen, if_neg (Nat.not_lt.mpr hge), hr_4, hr_28, hr_66, if_pos b_21, if_pos b_45, if_neg n2]) rfl (by simp [hsd, hsc, up2_at, h3_s5, c35, c53]) (by simp [hsd, hsc, up2_at, c35, c53, hd0_s5]) (by simp [hsd, hsc, up2_at, c35, c53, hd1_s5]) (by simp [hsd, hsc, up2_at, c35, c53]) (by simp [hsd, hsc, up2_at, c35, c53])⟩ (Nat.le_of_ble_eq_true rfl) (Nat.le_of_ble_eq_true rfl) d_TX_readLine_160
                        · skip
                          have hlt : q3 < N := ngt_nI (x := nI N) rfl rfl (by omega) (by omega) c_143
                          refine lv_aload_n S.1 S.2.1 d_TX_readLine_146 rfl (lv_at hl 0 rfl) ?_
                          refine lv_bipush (v := 10) S.1 S.2.1 d_TX_readLine_147 (by decide) ?_
                          refine g_VI (As := [.int 10]) (rest := []) S hO (fun _ h => h) (k_TX_readSign l G ad sd τ 10 N (by simp [hsd, hsc, up2_at, hN_s5, c35, c53]) hN4 q3 (by simp [hsd, hsc, up2_at, h3_s5, c35, c53]) (by omega)) cw_TX_85 (by decide) (sh_35 G ad _ _) rfl rfl hl.1 (Nat.le_of_ble_eq_true rfl) ⟨(Nat.le_of_ble_eq_true rfl), (Nat.le_of_ble_eq_true rfl)⟩ ⟨(Nat.le_of_ble_eq_true rfl), (Nat.le_of_ble_eq_true rfl)⟩ d_TX_readLine_149 (fun q x ce H locs h9 => h9.elim) (fun v E1 H locs v_12 hO => ?_)
                          obtain ⟨s8, t_13, rfl, hz_149, hs8, ht_13⟩ := v_12
                          rw [ht_13] at hO
                          by_cases b_149 : nxS (sd 36) N q3 = 10
                          · skip
                            rw [decide_eq_true b_149] at hz_149
                            subst hz_149
                            rw [rsS, if_pos b_149] at hs8
                            refine W.eq (g2 := F0 m 152 ls [.int 1]) rfl ?_
                            rw [show sd 36 = σ 36 from TXL.T (σ := σ) (q := q) (by rw [hsd]; exact TXL.up (by rw [hsc]; exact TXL.up hL_s5 (by omega)) (by omega))] at b_149
                            refine lv_if_eq (tgt := 159) S.1 S.2.1 d_TX_readLine_152 (by decide) (fun c_152 => ?_) (fun c_152 => ?_)
                            · skip
                              exact absurd c_152 (by decide)
                            · skip
                              refine lv_iconst (v := 1) S.1 S.2.1 d_TX_readLine_155 (by decide) ?_
                              refine lv_goto (tgt := 160) S.1 S.2.1 d_TX_readLine_156 (by decide) ?_
                              exact im_z S hk hr hO (by first | exact Or.inl rfl | exact Or.inr rfl | exact b_01) ⟨(by rw [hs8]; exact TXL.up (by rw [hsd]; exact TXL.up (by rw [hsc]; exact TXL.up hL_s5 (by omega)) (by omega)) (by omega)), rfl, ⟨k, hk11, (by simp [hs8, hsd, hsc, up2_at, h6_s5, c35, c53])⟩, ⟨k, hk11, (by simp [hs8, hsd, hsc, up2_at, c35, c53, hd1_s5])⟩, plP_o (x1 := x1) (x2 := k) (x3 := x3) (x4 := 0) (z := q3 + 1) (by simp only [pln, pen, if_pos hlt, hr_4, hr_28, hr_66, if_pos b_21, if_pos b_45, if_pos b_149, if_neg n2]) rfl (by simp [hs8, hsd, hsc, up2_at, c35, c53]) (by simp [hs8, hsd, hsc, up2_at, c35, c53, hd0_s5]) (by simp [hs8, hsd, hsc, up2_at, c35, c53, hd1_s5]) (by simp [hs8, hsd, hsc, up2_at, c35, c53]) (by simp [hs8, hsd, hsc, up2_at, c35, c53])⟩ (Nat.le_of_ble_eq_true rfl) (Nat.le_of_ble_eq_true rfl) d_TX_readLine_160
                          · skip
                            rw [decide_eq_false b_149] at hz_149
                            subst hz_149
                            rw [rsS, if_neg b_149] at hs8
                            refine W.eq (g2 := F0 m 152 ls [.int 0]) rfl ?_
                            rw [show sd 36 = σ 36 from TXL.T (σ := σ) (q := q) (by rw [hsd]; exact TXL.up (by rw [hsc]; exact TXL.up hL_s5 (by omega)) (by omega))] at b_149
                            refine lv_if_eq (tgt := 159) S.1 S.2.1 d_TX_readLine_152 (by decide) (fun c_152 => ?_) (fun c_152 => ?_)
                            · skip
                              refine lv_iconst (v := 0) S.1 S.2.1 d_TX_readLine_159 (by decide) ?_
                              exact im_z S hk hr hO (by first | exact Or.inl rfl | exact Or.inr rfl | exact b_01) ⟨(by rw [hs8]; exact TXL.up (by rw [hsd]; exact TXL.up (by rw [hsc]; exact TXL.up hL_s5 (by omega)) (by omega)) (by omega)), rfl, ⟨k, hk11, (by simp [hs8, hsd, hsc, up2_at, h6_s5, c35, c53])⟩, ⟨k, hk11, (by simp [hs8, hsd, hsc, up2_at, c35, c53, hd1_s5])⟩, plP_e (e := q3) (by simp only [pln, pen, if_pos hlt, hr_4, hr_28, hr_66, if_pos b_21, if_pos b_45, if_neg b_149, if_neg n2]) rfl (by rw [hs8, up2_s])⟩ (Nat.le_of_ble_eq_true rfl) (Nat.le_of_ble_eq_true rfl) d_TX_readLine_160
                            · skip
                              exact absurd rfl c_152
                      · skip
                        have y2 : kNu k = 2 := z_1.mp c_94
                        refine lv_aload_n S.1 S.2.1 d_TX_readLine_97 rfl (lv_at hl 0 rfl) ?_
                        refine g_VI (As := []) (rest := []) S hO (fun _ h => h) (k_TX_readBlank l G ad sd τ N (by simp [hsd, hsc, up2_at, hN_s5, c35, c53]) hN4 q3 (by simp [hsd, hsc, up2_at, h3_s5, c35, c53]) (by omega)) cw_TX_55 (by decide) (sh_35 G ad _ _) rfl rfl hl.1 (Nat.le_of_ble_eq_true rfl) ⟨(Nat.le_of_ble_eq_true rfl), (Nat.le_of_ble_eq_true rfl)⟩ ⟨(Nat.le_of_ble_eq_true rfl), (Nat.le_of_ble_eq_true rfl)⟩ d_TX_readLine_98 (fun q x ce H locs h9 => h9.elim) (fun v E1 H locs v_14 hO => ?_)
                        obtain ⟨s6, t_15, rfl, hz_98, hs6, ht_15⟩ := v_14
                        rw [ht_15] at hO
                        by_cases b_98 : nxS (sd 36) N q3 = 32
                        · skip
                          rw [decide_eq_true b_98] at hz_98
                          subst hz_98
                          rw [rsS, if_pos b_98] at hs6
                          refine W.eq (g2 := F0 m 101 ls [.int 1]) rfl ?_
                          rw [show sd 36 = σ 36 from TXL.T (σ := σ) (q := q) (by rw [hsd]; exact TXL.up (by rw [hsc]; exact TXL.up hL_s5 (by omega)) (by omega))] at b_98
                          refine lv_if_eq (tgt := 125) S.1 S.2.1 d_TX_readLine_101 (by decide) (fun c_101 => ?_) (fun c_101 => ?_)
                          · skip
                            exact absurd c_101 (by decide)
                          · skip
                            refine lv_aload_n S.1 S.2.1 d_TX_readLine_104 rfl (lv_at hl 0 rfl) ?_
                            refine lv_aload_n S.1 S.2.1 d_TX_readLine_105 rfl (lv_at hl 0 rfl) ?_
                            refine g_get S hO fl_TX_27 (by decide) (sh_35 G ad _ _) (v := .ref (ga G ((s6 35 6).toNatClampNeg))) rfl d_TX_readLine_106 ?_
                            refine W.eq (g2 := F0 m 109 ls [.ref (ga G k), .ref (ad 35)]) (by rw [show s6 35 6 = nI k from (by simp [hs6, hsd, hsc, up2_at, h6_s5, c35, c53]), nI_clamp (by omega)]; try rfl) ?_
                            refine g_VPK (As := []) (rest := [.ref (ad 35)]) S hO (i := k) (by omega) (k_KD_leastSecond l G ad s6 τ k (by omega)) cw_TX_78 rfl hl.1 (Nat.le_of_ble_eq_true rfl) ⟨(Nat.le_of_ble_eq_true rfl), (Nat.le_of_ble_eq_true rfl)⟩ ⟨(Nat.le_of_ble_eq_true rfl), (Nat.le_of_ble_eq_true rfl)⟩ d_TX_readLine_109 (fun q x ce H h9 => h9.elim) (fun v H v_16 hO => ?_)
                            subst v_16
                            refine W.eq (g2 := F0 m 112 ls [.int (if kNu k = 2 then kLe k else 0), .ref (ad 35)]) rfl ?_
                            refine lv_aload_n S.1 S.2.1 d_TX_readLine_112 rfl (lv_at hl 0 rfl) ?_
                            refine g_get S hO fl_TX_27 (by decide) (sh_35 G ad _ _) (v := .ref (ga G ((s6 35 6).toNatClampNeg))) rfl d_TX_readLine_113 ?_
                            refine W.eq (g2 := F0 m 116 ls [.ref (ga G k), .int (if kNu k = 2 then kLe k else 0), .ref (ad 35)]) (by rw [show s6 35 6 = nI k from (by simp [hs6, hsd, hsc, up2_at, h6_s5, c35, c53]), nI_clamp (by omega)]; try rfl) ?_
                            refine g_VPK (As := []) (rest := [.int (if kNu k = 2 then kLe k else 0), .ref (ad 35)]) S hO (i := k) (by omega) (k_KD_mostSecond l G ad s6 τ k (by omega)) cw_TX_82 rfl hl.1 (Nat.le_of_ble_eq_true rfl) ⟨(Nat.le_of_ble_eq_true rfl), (Nat.le_of_ble_eq_true rfl)⟩ ⟨(Nat.le_of_ble_eq_true rfl), (Nat.le_of_ble_eq_true rfl)⟩ d_TX_readLine_116 (fun q x ce H h9 => h9.elim) (fun v H v_17 hO => ?_)
                            subst v_17
                            refine W.eq (g2 := F0 m 119 ls [.int (if kNu k = 2 then kMo k else 0), .int (if kNu k = 2 then kLe k else 0), .ref (ad 35)]) rfl ?_
                            refine g_VI (As := [.int (if kNu k = 2 then kLe k else 0), .int (if kNu k = 2 then kMo k else 0)]) (rest := []) S hO (fun _ h => h) (k_TX_readNumber l G ad s6 τ (if kNu k = 2 then kLe k else 0) (if kNu k = 2 then kMo k else 0) N (by simp [hs6, hsd, hsc, up2_at, hN_s5, c35, c53]) hN4 (q3 + 1) (by simp [hs6, hsd, hsc, up2_at, c35, c53]) (by omega)) cw_TX_45 (by decide) (sh_35 G ad _ _) rfl rfl hl.1 (Nat.le_of_ble_eq_true rfl) ⟨(Nat.le_of_ble_eq_true rfl), (Nat.le_of_ble_eq_true rfl)⟩ ⟨(Nat.le_of_ble_eq_true rfl), (Nat.le_of_ble_eq_true rfl)⟩ d_TX_readLine_119 (fun q x ce H locs h9 => h9.elim) (fun v E1 H locs v_18 hO => ?_)
                            obtain ⟨s7, t_19, rfl, hF_s7, ht_19, hP_119⟩ := v_18
                            rw [ht_19] at hO
                            rw [show s6 36 = σ 36 from TXL.T (σ := σ) (q := q) (by rw [hs6]; exact TXL.up (by rw [hsd]; exact TXL.up (by rw [hsc]; exact TXL.up hL_s5 (by omega)) (by omega)) (by omega))] at hP_119
                            rw [if_pos y2, if_pos y2] at hP_119
                            have hL_s7 : TXL s7 σ q := TXL.F (by rw [hs6]; exact TXL.up (by rw [hsd]; exact TXL.up (by rw [hsc]; exact TXL.up hL_s5 (by omega)) (by omega)) (by omega)) hF_s7
                            have hN_s7 : s7 35 1 = nI N := hL_s7.N hN
                            have hd0_s7 : s7 (38 + q) 0 = x1 := by rw [hF_s7 (38 + q) 0 (by omega)]; exact (by simp [hs6, hsd, hsc, up2_at, c35, c53, hd0_s5])
                            have hd1_s7 : s7 (38 + q) 1 = nI k := by rw [hF_s7 (38 + q) 1 (by omega)]; exact (by simp [hs6, hsd, hsc, up2_at, c35, c53, hd1_s5])
                            have hd2_s7 : s7 (38 + q) 2 = x3 := by rw [hF_s7 (38 + q) 2 (by omega)]; exact (by simp [hs6, hsd, hsc, up2_at, c35, c53])
                            have hd3_s7 : s7 (38 + q) 3 = 0 := by rw [hF_s7 (38 + q) 3 (by omega)]; exact (by simp [hs6, hsd, hsc, up2_at, c35, c53])
                            have h6_s7 : s7 35 6 = nI k := by rw [hF_s7 35 6 (by omega)]; exact (by simp [hs6, hsd, hsc, up2_at, h6_s5, c35, c53])
                            rcases hr_119 : pnr (σ 36) N (q3 + 1) (kLe k) (kMo k) with e_119 | ⟨x4, q4⟩
                            · skip
                              rw [hr_119] at hP_119
                              obtain ⟨rfl, h4_s7⟩ := hP_119
                              refine W.eq (g2 := F0 m 122 ls [.int 0]) rfl ?_
                              refine lv_if_ne (tgt := 127) S.1 S.2.1 d_TX_readLine_122 (by decide) (fun c_122 => ?_) (fun c_122 => ?_)
                              · skip
                                exact absurd rfl c_122
                              · skip
                                refine lv_iconst (v := 0) S.1 S.2.1 d_TX_readLine_125 (by decide) ?_
                                exact im_z S hk hr hO (by first | exact Or.inl rfl | exact Or.inr rfl | exact b_01) ⟨hL_s7, rfl, ⟨k, hk11, h6_s7⟩, ⟨k, hk11, hd1_s7⟩, plP_e (e := e_119) (by simp only [pln, hr_4, hr_28, hr_66, hr_119, if_pos b_21, if_pos b_45, if_pos b_98, if_pos y2]) rfl h4_s7⟩ (Nat.le_of_ble_eq_true rfl) (Nat.le_of_ble_eq_true rfl) d_TX_readLine_126
                            · skip
                              rw [hr_119] at hP_119
                              obtain ⟨rfl, h3_s7, h5_s7⟩ := hP_119
                              have hz_s7 := pnr_d hr_119
                              refine W.eq (g2 := F0 m 122 ls [.int 1]) rfl ?_
                              refine lv_if_ne (tgt := 127) S.1 S.2.1 d_TX_readLine_122 (by decide) (fun c_122 => ?_) (fun c_122 => ?_)
                              · skip
                                refine lv_aload_n S.1 S.2.1 d_TX_readLine_127 rfl (lv_at hl 1 rfl) ?_
                                refine lv_aload_n S.1 S.2.1 d_TX_readLine_128 rfl (lv_at hl 0 rfl) ?_
                                refine g_get S hO fl_TX_49 (by decide) (sh_35 G ad _ _) (v := .int (s7 35 5)) rfl d_TX_readLine_129 ?_
                                refine W.eq (g2 := F0 m 132 ls [.int x4, .ref (ad (38 + q))]) (by rw [show s7 35 5 = x4 from h5_s7]) ?_
                                obtain ⟨se, hse⟩ : ∃ z : Nat → Nat → Int32, z = up2 s7 (38 + q) 3 x4 := ⟨_, rfl⟩
                                refine g_put S hO (fun _ h => h) fp_TX_72 (by omega) (sh_RD G ad _ _ (by omega)) (v := .int x4) rfl rfl (Nat.le_of_ble_eq_true rfl) (E2 := enc G ad se τ) (by rw [hse]; exact enc_i (sh_RD G ad _ _ (by omega))) d_TX_readLine_132 (fun H locs hO => ?_)
                                refine lv_aload_n S.1 S.2.1 d_TX_readLine_135 rfl (lv_at hl 0 rfl) ?_
                                refine g_get S hO fl_TX_35 (by decide) (sh_35 G ad _ _) (v := .int (se 35 3)) rfl d_TX_readLine_136 ?_
                                refine W.eq (g2 := F0 m 139 ls [.int (nI q4)]) (by rw [show se 35 3 = nI q4 from (by simp [hse, up2_at, h3_s7, c35, c53])]) ?_
                                refine lv_aload_n S.1 S.2.1 d_TX_readLine_139 rfl (lv_at hl 0 rfl) ?_
                                refine g_get S hO fl_TX_31 (by decide) (sh_35 G ad _ _) (v := .int (se 35 1)) rfl d_TX_readLine_140 ?_
                                refine W.eq (g2 := F0 m 143 ls [.int (nI N), .int (nI q4)]) (by rw [show se 35 1 = nI N from (by simp [hse, up2_at, hN_s7, c35, c53])]) ?_
                                refine lv_icmp_ge (tgt := 155) S.1 S.2.1 d_TX_readLine_143 (by decide) (fun c_143 => ?_) (fun c_143 => ?_)
                                · skip
                                  have hge : N ≤ q4 := ge_nI (x := nI N) rfl rfl (by omega) (by omega) c_143
                                  refine lv_iconst (v := 1) S.1 S.2.1 d_TX_readLine_155 (by decide) ?_
                                  refine lv_goto (tgt := 160) S.1 S.2.1 d_TX_readLine_156 (by decide) ?_
                                  exact im_z S hk hr hO (by first | exact Or.inl rfl | exact Or.inr rfl | exact b_01) ⟨(by rw [hse]; exact TXL.up hL_s7 (by omega)), rfl, ⟨k, hk11, (by simp [hse, up2_at, h6_s7, c35, c53])⟩, ⟨k, hk11, (by simp [hse, up2_at, c35, c53, hd1_s7])⟩, plP_o (x1 := x1) (x2 := k) (x3 := x3) (x4 := x4) (z := q4) (by simp only [pln, pen, if_neg (Nat.not_lt.mpr hge), hr_4, hr_28, hr_66, hr_119, if_pos b_21, if_pos b_45, if_pos b_98, if_pos y2]) rfl (by simp [hse, up2_at, h3_s7, c35, c53]) (by simp [hse, up2_at, c35, c53, hd0_s7]) (by simp [hse, up2_at, c35, c53, hd1_s7]) (by simp [hse, up2_at, c35, c53, hd2_s7]) (by simp [hse, up2_at, c35, c53, hd3_s7])⟩ (Nat.le_of_ble_eq_true rfl) (Nat.le_of_ble_eq_true rfl) d_TX_readLine_160
                                · skip
                                  have hlt : q4 < N := ngt_nI (x := nI N) rfl rfl (by omega) (by omega) c_143
                                  refine lv_aload_n S.1 S.2.1 d_TX_readLine_146 rfl (lv_at hl 0 rfl) ?_
                                  refine lv_bipush (v := 10) S.1 S.2.1 d_TX_readLine_147 (by decide) ?_
                                  refine g_VI (As := [.int 10]) (rest := []) S hO (fun _ h => h) (k_TX_readSign l G ad se τ 10 N (by simp [hse, up2_at, hN_s7, c35, c53]) hN4 q4 (by simp [hse, up2_at, h3_s7, c35, c53]) (by omega)) cw_TX_85 (by decide) (sh_35 G ad _ _) rfl rfl hl.1 (Nat.le_of_ble_eq_true rfl) ⟨(Nat.le_of_ble_eq_true rfl), (Nat.le_of_ble_eq_true rfl)⟩ ⟨(Nat.le_of_ble_eq_true rfl), (Nat.le_of_ble_eq_true rfl)⟩ d_TX_readLine_149 (fun q x ce H locs h9 => h9.elim) (fun v E1 H locs v_20 hO => ?_)
                                  obtain ⟨s8, t_21, rfl, hz_149, hs8, ht_21⟩ := v_20
                                  rw [ht_21] at hO
                                  by_cases b_149 : nxS (se 36) N q4 = 10
                                  · skip
                                    rw [decide_eq_true b_149] at hz_149
                                    subst hz_149
                                    rw [rsS, if_pos b_149] at hs8
                                    refine W.eq (g2 := F0 m 152 ls [.int 1]) rfl ?_
                                    rw [show se 36 = σ 36 from TXL.T (σ := σ) (q := q) (by rw [hse]; exact TXL.up hL_s7 (by omega))] at b_149
                                    refine lv_if_eq (tgt := 159) S.1 S.2.1 d_TX_readLine_152 (by decide) (fun c_152 => ?_) (fun c_152 => ?_)
                                    · skip
                                      exact absurd c_152 (by decide)
                                    · skip
                                      refine lv_iconst (v := 1) S.1 S.2.1 d_TX_readLine_155 (by decide) ?_
                                      refine lv_goto (tgt := 160) S.1 S.2.1 d_TX_readLine_156 (by decide) ?_
                                      exact im_z S hk hr hO (by first | exact Or.inl rfl | exact Or.inr rfl | exact b_01) ⟨(by rw [hs8]; exact TXL.up (by rw [hse]; exact TXL.up hL_s7 (by omega)) (by omega)), rfl, ⟨k, hk11, (by simp [hs8, hse, up2_at, h6_s7, c35, c53])⟩, ⟨k, hk11, (by simp [hs8, hse, up2_at, c35, c53, hd1_s7])⟩, plP_o (x1 := x1) (x2 := k) (x3 := x3) (x4 := x4) (z := q4 + 1) (by simp only [pln, pen, if_pos hlt, hr_4, hr_28, hr_66, hr_119, if_pos b_21, if_pos b_45, if_pos b_98, if_pos b_149, if_pos y2]) rfl (by simp [hs8, hse, up2_at, c35, c53]) (by simp [hs8, hse, up2_at, c35, c53, hd0_s7]) (by simp [hs8, hse, up2_at, c35, c53, hd1_s7]) (by simp [hs8, hse, up2_at, c35, c53, hd2_s7]) (by simp [hs8, hse, up2_at, c35, c53, hd3_s7])⟩ (Nat.le_of_ble_eq_true rfl) (Nat.le_of_ble_eq_true rfl) d_TX_readLine_160
                                  · skip
                                    rw [decide_eq_false b_149] at hz_149
                                    subst hz_149
                                    rw [rsS, if_neg b_149] at hs8
                                    refine W.eq (g2 := F0 m 152 ls [.int 0]) rfl ?_
                                    rw [show se 36 = σ 36 from TXL.T (σ := σ) (q := q) (by rw [hse]; exact TXL.up hL_s7 (by omega))] at b_149
                                    refine lv_if_eq (tgt := 159) S.1 S.2.1 d_TX_readLine_152 (by decide) (fun c_152 => ?_) (fun c_152 => ?_)
                                    · skip
                                      refine lv_iconst (v := 0) S.1 S.2.1 d_TX_readLine_159 (by decide) ?_
                                      exact im_z S hk hr hO (by first | exact Or.inl rfl | exact Or.inr rfl | exact b_01) ⟨(by rw [hs8]; exact TXL.up (by rw [hse]; exact TXL.up hL_s7 (by omega)) (by omega)), rfl, ⟨k, hk11, (by simp [hs8, hse, up2_at, h6_s7, c35, c53])⟩, ⟨k, hk11, (by simp [hs8, hse, up2_at, c35, c53, hd1_s7])⟩, plP_e (e := q4) (by simp only [pln, pen, if_pos hlt, hr_4, hr_28, hr_66, hr_119, if_pos b_21, if_pos b_45, if_pos b_98, if_neg b_149, if_pos y2]) rfl (by rw [hs8, up2_s])⟩ (Nat.le_of_ble_eq_true rfl) (Nat.le_of_ble_eq_true rfl) d_TX_readLine_160
                                    · skip
                                      exact absurd rfl c_152
                              · skip
                                exact absurd c_122 (by decide)
                        · skip
                          rw [decide_eq_false b_98] at hz_98
                          subst hz_98
                          rw [rsS, if_neg b_98] at hs6
                          refine W.eq (g2 := F0 m 101 ls [.int 0]) rfl ?_
                          rw [show sd 36 = σ 36 from TXL.T (σ := σ) (q := q) (by rw [hsd]; exact TXL.up (by rw [hsc]; exact TXL.up hL_s5 (by omega)) (by omega))] at b_98
                          refine lv_if_eq (tgt := 125) S.1 S.2.1 d_TX_readLine_101 (by decide) (fun c_101 => ?_) (fun c_101 => ?_)
                          · skip
                            refine lv_iconst (v := 0) S.1 S.2.1 d_TX_readLine_125 (by decide) ?_
                            exact im_z S hk hr hO (by first | exact Or.inl rfl | exact Or.inr rfl | exact b_01) ⟨(by rw [hs6]; exact TXL.up (by rw [hsd]; exact TXL.up (by rw [hsc]; exact TXL.up hL_s5 (by omega)) (by omega)) (by omega)), rfl, ⟨k, hk11, (by simp [hs6, hsd, hsc, up2_at, h6_s5, c35, c53])⟩, ⟨k, hk11, (by simp [hs6, hsd, hsc, up2_at, c35, c53, hd1_s5])⟩, plP_e (e := q3) (by simp only [pln, hr_4, hr_28, hr_66, if_pos b_21, if_pos b_45, if_neg b_98, if_pos y2]) rfl (by rw [hs6, up2_s])⟩ (Nat.le_of_ble_eq_true rfl) (Nat.le_of_ble_eq_true rfl) d_TX_readLine_126
                          · skip
                            exact absurd rfl c_101
                    · skip
                      exact absurd c_69 (by decide)
              · skip
                rw [decide_eq_false b_45] at hz_45
                subst hz_45
                rw [rsS, if_neg b_45] at hs4
                refine W.eq (g2 := F0 m 48 ls [.int 0]) rfl ?_
                rw [show sb 36 = σ 36 from TXL.T (σ := σ) (q := q) (by rw [hsb]; exact TXL.up hL_s3 (by omega))] at b_45
                refine lv_if_eq (tgt := 72) S.1 S.2.1 d_TX_readLine_48 (by decide) (fun c_48 => ?_) (fun c_48 => ?_)
                · skip
                  refine lv_iconst (v := 0) S.1 S.2.1 d_TX_readLine_72 (by decide) ?_
                  exact im_z S hk hr hO (by first | exact Or.inl rfl | exact Or.inr rfl | exact b_01) ⟨(by rw [hs4]; exact TXL.up (by rw [hsb]; exact TXL.up hL_s3 (by omega)) (by omega)), rfl, ⟨k, hk11, (by simp [hs4, hsb, up2_at, h6_s3, c35, c53])⟩, ⟨k, hk11, (by simp [hs4, hsb, up2_at, c35, c53, hd1_s3])⟩, plP_e (e := q2) (by simp only [pln, hr_4, hr_28, if_pos b_21, if_neg b_45]) rfl (by rw [hs4, up2_s])⟩ (Nat.le_of_ble_eq_true rfl) (Nat.le_of_ble_eq_true rfl) d_TX_readLine_73
                · skip
                  exact absurd rfl c_48
            · skip
              exact absurd c_31 (by decide)
      · skip
        rw [decide_eq_false b_21] at hz_21
        subst hz_21
        rw [rsS, if_neg b_21] at hs2
        refine W.eq (g2 := F0 m 24 ls [.int 0]) rfl ?_
        rw [show sa 36 = σ 36 from TXL.T (σ := σ) (q := q) (by rw [hsa]; exact TXL.up hL_s1 (by omega))] at b_21
        refine lv_if_eq (tgt := 34) S.1 S.2.1 d_TX_readLine_24 (by decide) (fun c_24 => ?_) (fun c_24 => ?_)
        · skip
          refine lv_iconst (v := 0) S.1 S.2.1 d_TX_readLine_34 (by decide) ?_
          exact im_z S hk hr hO (by first | exact Or.inl rfl | exact Or.inr rfl | exact b_01) ⟨(by rw [hs2]; exact TXL.up (by rw [hsa]; exact TXL.up hL_s1 (by omega)) (by omega)), rfl, ⟨k0, hk0, (by simp [hs2, hsa, up2_at, h6_s1, c35, c53])⟩, ⟨z0, hz0, (by simp [hs2, hsa, up2_at, c35, c53, hd1_s1])⟩, plP_e (e := q1) (by simp only [pln, hr_4, if_neg b_21]) rfl (by rw [hs2, up2_s])⟩ (Nat.le_of_ble_eq_true rfl) (Nat.le_of_ble_eq_true rfl) d_TX_readLine_35
        · skip
          exact absurd rfl c_24
    · skip
      exact absurd c_7 (by decide)
