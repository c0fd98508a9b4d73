/-! The text: kinds and lines, as the class reads them. Written by wip/tools/m34.py. -/
def TXK (s σ : Nat → Nat → Int32) : Prop := ∀ k j, ¬ (k = 35 ∧ (j = 3 ∨ j = 4 ∨ j = 5 ∨ j = 6)) → s k j = σ k j
theorem TXK.refl (σ : Nat → Nat → Int32) : TXK σ σ := fun _ _ _ => rfl
theorem TXK.up {s σ : Nat → Nat → Int32} (h : TXK s σ) {j : Nat} {v : Int32} (hj : j = 3 ∨ j = 4 ∨ j = 5 ∨ j = 6) : TXK (up2 s 35 j v) σ := fun k i hi => by
  rw [up2_at, if_neg (fun z => hi ⟨z.1, by omega⟩)]
  exact h k i hi
def pkP (r : Except Nat (Nat × Nat)) (v : Option Value) (s : Nat → Nat → Int32) : Prop := match r with
  | .error e => v = some (.int 0) ∧ s 35 4 = nI e
  | .ok (k, q) => v = some (.int 1) ∧ s 35 3 = nI q ∧ s 35 6 = nI k
theorem pkP_e {r : Except Nat (Nat × Nat)} {e : Nat} {v : Option Value} {s : Nat → Nat → Int32} (h : r = .error e) (h1 : v = some (.int 0)) (h2 : s 35 4 = nI e) : pkP r v s := by
  subst h
  exact ⟨h1, h2⟩
theorem pkP_o {r : Except Nat (Nat × Nat)} {k q : Nat} {v : Option Value} {s : Nat → Nat → Int32} (h : r = .ok (k, q)) (h1 : v = some (.int 1)) (h2 : s 35 3 = nI q) (h3 : s 35 6 = nI k) : pkP r v s := by
  subst h
  exact ⟨h1, h2, h3⟩
set_option maxHeartbeats 4000000 in
set_option maxRecDepth 100000 in
theorem k_TX_readKind (l : Launch) (G : gP) (ad : Nat → Nat) (σ : Nat → Nat → Int32) (τ : Nat → Nat → Int64) (k0 : Nat) (hk0 : k0 < 11) (hkd : σ 35 6 = nI k0) (N : Nat) (hN : σ 35 1 = nI N) (hN4 : N ≤ 400) (pp : Nat) (hp : σ 35 3 = nI pp) (hp2 : pp < 2000) : gim l y_TX_readKind c_TX_readKind 4 (some .boolean) { frames := 5, cells := 0, slots := 0, locals := 107 } G ad σ τ [.ref (ad 35)] 0 0 (fun v σ1 τ1 => TXK σ1 σ ∧ τ1 = τ ∧ (∃ k, k < 11 ∧ σ1 35 6 = nI k) ∧ pkP (pkd (σ 36) N pp) v σ1) (fun _ => False) := by
  refine gs_of (fun _ h => h) (by decide) (Nat.le_of_ble_eq_true rfl) ?_
  intro p e s m args below meth c ls S hk hr hx hl hO
  have hl : lv_has ls 4 [(0, .ref (ad 35))] := hl
  refine lv_iconst (v := (-1)) S.1 S.2.1 d_TX_readKind_0 (by decide) ?_
  refine lv_istore_n (lv' := [(1, .int (-1)), (0, .ref (ad 35))]) S.1 S.2.1 d_TX_readKind_1 rfl hl (by decide) rfl (fun ls hl => ?_)
  refine lv_iconst (v := 0) S.1 S.2.1 d_TX_readKind_2 (by decide) ?_
  refine lv_istore_n (lv' := [(2, .int 0), (1, .int (-1)), (0, .ref (ad 35))]) S.1 S.2.1 d_TX_readKind_3 rfl hl (by decide) rfl (fun ls hl => ?_)
  have K_4 : ∀ (n9 : Nat) (k : Nat) (s9 : Nat → Nat → Int32), 11 - k < n9 → (k ≤ 11) → (s9 = up2 σ 35 6 (nI (pkf (σ 36) N pp k0 k).2)) → ∀ (H : Heap) (locs : List Loc), gO G (gA G) 159 ad (enc G ad s9 τ) s H locs → ∀ ls : Array Slot, lv_has ls 4 [(2, .int (nI k)), (1, .int ((pkf (σ 36) N pp k0 k).1)), (0, .ref (ad 35))] → W p l e { frames := 5, cells := 0, slots := 0, locals := 107 } s m args below meth c H locs 0 0 (gM below (gA G) 0 0 (fun v t => ∃ E1, (∃ σ1 τ1, E1 = enc G ad σ1 τ1 ∧ (fun v σ1 τ1 => TXK σ1 σ ∧ τ1 = τ ∧ (∃ k, k < 11 ∧ σ1 35 6 = nI k) ∧ pkP (pkd (σ 36) N pp) v σ1) v σ1 τ1) ∧ va_P G.1 gcl (gw 159 ad E1) t.heap) (fun x t => (fun _ => False) x ∧ va_P G.1 gcl (gw 159 ad (enc G ad σ τ)) t.heap) args s) (F0 m 4 ls []) := by
    intro n9
    induction n9 with
    | zero =>
      intro k s9 hn9 hk11 hs9 H locs hO ls hl
      exact absurd hn9 (Nat.not_lt_zero _)
    | succ n9 ih_4 =>
      intro k s9 hn9 hk11 hs9 H locs hO ls hl
      have h1 : s9 35 1 = nI N := by rw [hs9, up2_j (by decide)]; exact hN
      have h3 : s9 35 3 = nI pp := by rw [hs9, up2_j (by decide)]; exact hp
      have hT : s9 36 = σ 36 := by rw [hs9]; exact up2_c (by decide)
      refine lv_iload_n S.1 S.2.1 d_TX_readKind_4 rfl (lv_at hl 0 rfl) ?_
      refine va_getsN S.1 S.2.1 hO.2.2.2.2.2.2.2.2.2.2.1 hO.SG S.2.2.2.1 (va_Nw.use rfl (hO.2.2.2.2.2.2.2.1 _ kz_KINDS rfl)) (fun _ h => h) d_TX_readKind_5 ?_
      refine va_tlen S.1 S.2.1 hO.2.2.2.2.2.2.2.2.2.2.2.1 hO.SG (v := 11) (by decide) d_TX_readKind_8 ?_
      refine lv_icmp_ge (tgt := 67) S.1 S.2.1 d_TX_readKind_9 (by decide) (fun c_9 => ?_) (fun c_9 => ?_)
      · skip
        have hw : k = 11 := by have h9 := ge_nI (x := (11 : Int32)) (n := 11) rfl rfl (by omega) (by omega) c_9; omega
        subst hw
        obtain ⟨hq11, hq2⟩ := pkf_o (T := σ 36) (N := N) (p := pp) hk0 11 (by omega)
        obtain ⟨mq, hm6, hmq⟩ := hq2.resolve_left (by decide)
        obtain ⟨kq, hkq⟩ : ∃ kq, kq = (pkf (σ 36) N pp k0 11).2 := ⟨_, rfl⟩
        rw [← hkq] at hs9 hq11
        rw [hmq] at hl
        refine lv_aload_n S.1 S.2.1 d_TX_readKind_67 rfl (lv_at hl 2 rfl) ?_
        refine lv_dup S.1 S.2.1 d_TX_readKind_68 rfl ?_
        refine g_get S hO fl_TX_35 (by decide) (sh_35 G ad _ _) (v := .int (s9 35 3)) rfl d_TX_readKind_69 ?_
        refine W.eq (g2 := F0 m 72 ls [.int (nI pp), .ref (ad 35)]) (by rw [show s9 35 3 = nI pp from h3]) ?_
        refine lv_iload_n S.1 S.2.1 d_TX_readKind_72 rfl (lv_at hl 1 rfl) ?_
        refine lv_iadd S.1 S.2.1 d_TX_readKind_73 ?_
        refine W.eq (g2 := F0 m 74 ls [.int (nI (pp + mq)), .ref (ad 35)]) (by rw [show (nI pp) + (nI mq) = nI (pp + mq) from nI_add pp mq]) ?_
        obtain ⟨sn, hsn⟩ : ∃ z : Nat → Nat → Int32, z = up2 s9 35 3 (nI (pp + mq)) := ⟨_, rfl⟩
        refine g_put S hO (fun _ h => h) fp_TX_35 (by decide) (sh_35 G ad _ _) (v := .int (nI (pp + mq))) rfl rfl (Nat.le_of_ble_eq_true rfl) (E2 := enc G ad sn τ) (by rw [hsn]; exact enc_i (sh_35 G ad _ _)) d_TX_readKind_74 (fun H locs hO => ?_)
        refine lv_iload_n S.1 S.2.1 d_TX_readKind_77 rfl (lv_at hl 1 rfl) ?_
        refine lv_aload_n S.1 S.2.1 d_TX_readKind_78 rfl (lv_at hl 2 rfl) ?_
        refine g_get S hO fl_TX_27 (by decide) (sh_35 G ad _ _) (v := .ref (ga G ((sn 35 6).toNatClampNeg))) rfl d_TX_readKind_79 ?_
        refine W.eq (g2 := F0 m 82 ls [.ref (ga G kq), .int (nI mq)]) (by rw [show sn 35 6 = nI kq by rw [hsn, up2_j (by decide), hs9, up2_s], nI_clamp (by omega)]) ?_
        refine va_getX S.1 S.2.1 hO.2.2.2.2.2.2.2.2.2.2.2.2.2.2.1 (by omega) hO.SG S.2.2.2.1 (S.2.2.2.2 _ kf_TX_102) (fun _ h => h) d_TX_readKind_82 ?_
        refine g_VPS (As := []) (rest := [.int (nI mq)]) S hO (i := kq) (by omega) (k_java_lang_String_length l G ad sn τ kq (by omega)) cw_TX_110 rfl hl.1 (Nat.le_of_ble_eq_true rfl) ⟨(Nat.le_of_ble_eq_true rfl), (Nat.le_of_ble_eq_true rfl)⟩ ⟨(Nat.le_of_ble_eq_true rfl), (Nat.le_of_ble_eq_true rfl)⟩ d_TX_readKind_85 (fun q x ce H h9 => h9.elim) (fun v H v_1 hO => ?_)
        subst v_1
        refine W.eq (g2 := F0 m 88 ls [.int (nI (gkl.getD kq 0)), .int (nI mq)]) rfl ?_
        refine lv_icmp_eq (tgt := 102) S.1 S.2.1 d_TX_readKind_88 (by decide) (fun c_88 => ?_) (fun c_88 => ?_)
        · skip
          refine lv_iconst (v := 1) S.1 S.2.1 d_TX_readKind_102 (by decide) ?_
          refine lv_goto (tgt := 107) S.1 S.2.1 d_TX_readKind_103 (by decide) ?_
          subst hsn
          exact im_z S hk hr hO (by first | exact Or.inl rfl | exact Or.inr rfl | exact b_01) ⟨by rw [hs9]; exact ((TXK.refl σ).up (by omega)).up (by omega), rfl, ⟨kq, hq11, by rw [up2_j (by decide), hs9, up2_s]⟩, pkP_o (k := kq) (q := pp + mq) (by rw [pkd, (pkf_k (T := σ 36) (N := N) (p := pp) (k0 := 0) (k1 := k0) 10 (by omega)), hmq, ← hkq, if_pos c_88, nI_clamp (by omega)]) rfl up2_s (by rw [up2_j (by decide), hs9, up2_s])⟩ (Nat.le_of_ble_eq_true rfl) (Nat.le_of_ble_eq_true rfl) d_TX_readKind_107
        · skip
          refine lv_aload_n S.1 S.2.1 d_TX_readKind_91 rfl (lv_at hl 2 rfl) ?_
          refine lv_aload_n S.1 S.2.1 d_TX_readKind_92 rfl (lv_at hl 2 rfl) ?_
          refine g_get S hO fl_TX_35 (by decide) (sh_35 G ad _ _) (v := .int (sn 35 3)) rfl d_TX_readKind_93 ?_
          refine W.eq (g2 := F0 m 96 ls [.int (nI (pp + mq)), .ref (ad 35)]) (by rw [show sn 35 3 = nI (pp + mq) from (by simp [hsn, up2_at])]) ?_
          refine g_VI (As := [.int (nI (pp + mq))]) (rest := []) S hO (fun _ h => h) (k_TX_fail l G ad sn τ (nI (pp + mq))) cw_TX_95 (by decide) (sh_35 G ad _ _) rfl rfl hl.1 (Nat.le_of_ble_eq_true rfl) ⟨(Nat.le_of_ble_eq_true rfl), (Nat.le_of_ble_eq_true rfl)⟩ ⟨(Nat.le_of_ble_eq_true rfl), (Nat.le_of_ble_eq_true rfl)⟩ d_TX_readKind_96 (fun q x ce H locs h9 => h9.elim) (fun v E1 H locs v_2 hO => ?_)
          obtain ⟨s_3, t_4, rfl, rfl, hs_3, ht_4⟩ := v_2
          rw [ht_4] at hO
          refine W.eq (g2 := F0 m 99 ls [.int 0]) rfl ?_
          refine lv_if_eq (tgt := 106) S.1 S.2.1 d_TX_readKind_99 (by decide) (fun c_99 => ?_) (fun c_99 => ?_)
          · skip
            refine lv_iconst (v := 0) S.1 S.2.1 d_TX_readKind_106 (by decide) ?_
            subst hs_3
            subst hsn
            exact im_z S hk hr hO (by first | exact Or.inl rfl | exact Or.inr rfl | exact b_01) ⟨by rw [hs9]; exact (((TXK.refl σ).up (by omega)).up (by omega)).up (by omega), rfl, ⟨kq, hq11, by rw [up2_j (by decide), up2_j (by decide), hs9, up2_s]⟩, pkP_e (e := pp + mq) (by rw [pkd, (pkf_k (T := σ 36) (N := N) (p := pp) (k0 := 0) (k1 := k0) 10 (by omega)), hmq, ← hkq, if_neg c_88, nI_clamp (by omega)]) rfl up2_s⟩ (Nat.le_of_ble_eq_true rfl) (Nat.le_of_ble_eq_true rfl) d_TX_readKind_107
          · skip
            exact absurd rfl c_99
      · skip
        have hk1 : k < 11 := ngt_nI (x := (11 : Int32)) (n := 11) rfl rfl (by omega) (by omega) c_9
        refine lv_aload_n S.1 S.2.1 d_TX_readKind_12 rfl (lv_at hl 2 rfl) ?_
        refine va_getsN S.1 S.2.1 hO.2.2.2.2.2.2.2.2.2.2.1 hO.SG S.2.2.2.1 (va_Nw.use rfl (hO.2.2.2.2.2.2.2.1 _ kz_KINDS rfl)) (fun _ h => h) d_TX_readKind_13 ?_
        refine lv_iload_n S.1 S.2.1 d_TX_readKind_16 rfl (lv_at hl 0 rfl) ?_
        refine vb_tq S.1 S.2.1 hO.2.2.2.2.2.2.2.2.2.2.2.1 hO.SG (vp_in_nI (show k < 11 by omega) (by decide)) (v := .ref (ga G k)) (by rw [nI_clamp (by omega)]) d_TX_readKind_17 ?_
        refine va_getX S.1 S.2.1 hO.2.2.2.2.2.2.2.2.2.2.2.2.2.2.1 (by omega) hO.SG S.2.2.2.1 (S.2.2.2.2 _ kf_TX_102) (fun _ h => h) d_TX_readKind_18 ?_
        refine g_VP (As := [.ref (ga G (20 + k))]) (rest := []) S hO (k_TX_sharedSigns l G ad s9 τ k (by omega) N h1 hN4 pp h3 (by omega)) cw_TX_106 (by decide) (sh_35 G ad _ _) rfl rfl hl.1 (Nat.le_of_ble_eq_true rfl) ⟨(Nat.le_of_ble_eq_true rfl), (Nat.le_of_ble_eq_true rfl)⟩ ⟨(Nat.le_of_ble_eq_true rfl), (Nat.le_of_ble_eq_true rfl)⟩ d_TX_readKind_21 (fun q x ce H h9 => h9.elim) (fun v H v_5 hO => ?_)
        subst v_5
        refine W.eq (g2 := F0 m 24 ls [.int (nI (shN (s9 36) N pp k))]) rfl ?_
        refine W.eq (g2 := F0 m 24 ls [.int (nI (shN (σ 36) N pp k))]) (by rw [hT]) ?_
        refine lv_istore_n (lv' := [(3, .int (nI (shN (σ 36) N pp k))), (2, .int (nI k)), (1, .int ((pkf (σ 36) N pp k0 k).1)), (0, .ref (ad 35))]) S.1 S.2.1 d_TX_readKind_24 rfl hl (by decide) rfl (fun ls hl => ?_)
        refine lv_iload_n S.1 S.2.1 d_TX_readKind_25 rfl (lv_at hl 0 rfl) ?_
        refine lv_iload_n S.1 S.2.1 d_TX_readKind_26 rfl (lv_at hl 2 rfl) ?_
        refine lv_icmp_gt (tgt := 50) S.1 S.2.1 d_TX_readKind_27 (by decide) (fun c_27 => ?_) (fun c_27 => ?_)
        · skip
          refine lv_iload_n S.1 S.2.1 d_TX_readKind_50 rfl (lv_at hl 0 rfl) ?_
          refine lv_istore_n (lv' := [(1, .int (nI (shN (σ 36) N pp k))), (3, .int (nI (shN (σ 36) N pp k))), (2, .int (nI k)), (0, .ref (ad 35))]) S.1 S.2.1 d_TX_readKind_51 rfl hl (by decide) rfl (fun ls hl => ?_)
          refine lv_aload_n S.1 S.2.1 d_TX_readKind_52 rfl (lv_at hl 3 rfl) ?_
          refine va_getsN S.1 S.2.1 hO.2.2.2.2.2.2.2.2.2.2.1 hO.SG S.2.2.2.1 (va_Nw.use rfl (hO.2.2.2.2.2.2.2.1 _ kz_KINDS rfl)) (fun _ h => h) d_TX_readKind_53 ?_
          refine lv_iload_n S.1 S.2.1 d_TX_readKind_56 rfl (lv_at hl 2 rfl) ?_
          refine vb_tq S.1 S.2.1 hO.2.2.2.2.2.2.2.2.2.2.2.1 hO.SG (vp_in_nI (show k < 11 by omega) (by decide)) (v := .ref (ga G k)) (by rw [nI_clamp (by omega)]) d_TX_readKind_57 ?_
          refine W.eq (g2 := F0 m 58 ls [.ref (ga G ((nI k).toNatClampNeg)), .ref (ad 35)]) (by rw [nI_clamp (by omega)]) ?_
          obtain ⟨sa, hsa⟩ : ∃ z : Nat → Nat → Int32, z = up2 s9 35 6 (nI k) := ⟨_, rfl⟩
          refine g_put S hO (fun _ h => h) fp_TX_27 (by decide) (sh_35 G ad _ _) (v := .ref (ga G ((nI k).toNatClampNeg))) rfl rfl (Nat.le_of_ble_eq_true rfl) (E2 := enc G ad sa τ) (by rw [hsa]; exact enc_i (sh_35 G ad _ _)) d_TX_readKind_58 (fun H locs hO => ?_)
          refine lv_iinc (v := nI (k + 1)) (lv' := [(2, .int (nI (k + 1))), (1, .int (nI (shN (σ 36) N pp k))), (3, .int (nI (shN (σ 36) N pp k))), (0, .ref (ad 35))]) S.1 S.2.1 d_TX_readKind_61 hl (k := 2) rfl (nI_1 _) (by decide) rfl (fun ls hl => ?_)
          refine lv_goto (tgt := 4) S.1 S.2.1 d_TX_readKind_64 (by decide) ?_
          have eK : pkf (σ 36) N pp k0 (k + 1) = (nI (shN (σ 36) N pp k), k) := by show pkS _ _ _ _ _ = _; rw [pkS, if_pos (Or.inl c_27)]
          rw [show nI (shN (σ 36) N pp k) = (pkf (σ 36) N pp k0 (k + 1)).1 by rw [eK]] at hl
          exact ih_4 (k + 1) sa (by omega) (by omega) (by rw [hsa, hs9, up2_i, eK]) _ _ hO ls (lv_sub hl [0, 1, 3] rfl)
        · skip
          refine lv_iload_n S.1 S.2.1 d_TX_readKind_30 rfl (lv_at hl 0 rfl) ?_
          refine lv_iload_n S.1 S.2.1 d_TX_readKind_31 rfl (lv_at hl 2 rfl) ?_
          refine lv_icmp_ne (tgt := 61) S.1 S.2.1 d_TX_readKind_32 (by decide) (fun c_32 => ?_) (fun c_32 => ?_)
          · skip
            refine lv_iinc (v := nI (k + 1)) (lv' := [(2, .int (nI (k + 1))), (3, .int (nI (shN (σ 36) N pp k))), (1, .int ((pkf (σ 36) N pp k0 k).1)), (0, .ref (ad 35))]) S.1 S.2.1 d_TX_readKind_61 hl (k := 1) rfl (nI_1 _) (by decide) rfl (fun ls hl => ?_)
            refine lv_goto (tgt := 4) S.1 S.2.1 d_TX_readKind_64 (by decide) ?_
            have eK : pkf (σ 36) N pp k0 (k + 1) = pkf (σ 36) N pp k0 k := by show pkS _ _ _ _ _ = _; rw [pkS, if_neg (fun z => z.elim c_27 (fun z => c_32 z.1))]
            rw [← eK] at hl
            exact ih_4 (k + 1) s9 (by omega) (by omega) (by rw [hs9, eK]) _ _ hO ls (lv_sub hl [0, 2, 3] rfl)
          · skip
            refine lv_iload_n S.1 S.2.1 d_TX_readKind_35 rfl (lv_at hl 0 rfl) ?_
            refine va_getsN S.1 S.2.1 hO.2.2.2.2.2.2.2.2.2.2.1 hO.SG S.2.2.2.1 (va_Nw.use rfl (hO.2.2.2.2.2.2.2.1 _ kz_KINDS rfl)) (fun _ h => h) d_TX_readKind_36 ?_
            refine lv_iload_n S.1 S.2.1 d_TX_readKind_39 rfl (lv_at hl 1 rfl) ?_
            refine vb_tq S.1 S.2.1 hO.2.2.2.2.2.2.2.2.2.2.2.1 hO.SG (vp_in_nI (show k < 11 by omega) (by decide)) (v := .ref (ga G k)) (by rw [nI_clamp (by omega)]) d_TX_readKind_40 ?_
            refine va_getX S.1 S.2.1 hO.2.2.2.2.2.2.2.2.2.2.2.2.2.2.1 (by omega) hO.SG S.2.2.2.1 (S.2.2.2.2 _ kf_TX_102) (fun _ h => h) d_TX_readKind_41 ?_
            refine g_VPS (As := []) (rest := [.int (nI (shN (σ 36) N pp k))]) S hO (i := k) (by omega) (k_java_lang_String_length l G ad s9 τ k (by omega)) cw_TX_110 rfl hl.1 (Nat.le_of_ble_eq_true rfl) ⟨(Nat.le_of_ble_eq_true rfl), (Nat.le_of_ble_eq_true rfl)⟩ ⟨(Nat.le_of_ble_eq_true rfl), (Nat.le_of_ble_eq_true rfl)⟩ d_TX_readKind_44 (fun q x ce H h9 => h9.elim) (fun v H v_8 hO => ?_)
            subst v_8
            refine W.eq (g2 := F0 m 47 ls [.int (nI (gkl.getD k 0)), .int (nI (shN (σ 36) N pp k))]) rfl ?_
            refine lv_icmp_ne (tgt := 61) S.1 S.2.1 d_TX_readKind_47 (by decide) (fun c_47 => ?_) (fun c_47 => ?_)
            · skip
              refine lv_iinc (v := nI (k + 1)) (lv' := [(2, .int (nI (k + 1))), (3, .int (nI (shN (σ 36) N pp k))), (1, .int ((pkf (σ 36) N pp k0 k).1)), (0, .ref (ad 35))]) S.1 S.2.1 d_TX_readKind_61 hl (k := 1) rfl (nI_1 _) (by decide) rfl (fun ls hl => ?_)
              refine lv_goto (tgt := 4) S.1 S.2.1 d_TX_readKind_64 (by decide) ?_
              have eK : pkf (σ 36) N pp k0 (k + 1) = pkf (σ 36) N pp k0 k := by show pkS _ _ _ _ _ = _; rw [pkS, if_neg (fun z => z.elim c_27 (fun z => c_47 z.2))]
              rw [← eK] at hl
              exact ih_4 (k + 1) s9 (by omega) (by omega) (by rw [hs9, eK]) _ _ hO ls (lv_sub hl [0, 2, 3] rfl)
            · skip
              refine lv_iload_n S.1 S.2.1 d_TX_readKind_50 rfl (lv_at hl 0 rfl) ?_
              refine lv_istore_n (lv' := [(1, .int (nI (shN (σ 36) N pp k))), (3, .int (nI (shN (σ 36) N pp k))), (2, .int (nI k)), (0, .ref (ad 35))]) S.1 S.2.1 d_TX_readKind_51 rfl hl (by decide) rfl (fun ls hl => ?_)
              refine lv_aload_n S.1 S.2.1 d_TX_readKind_52 rfl (lv_at hl 3 rfl) ?_
              refine va_getsN S.1 S.2.1 hO.2.2.2.2.2.2.2.2.2.2.1 hO.SG S.2.2.2.1 (va_Nw.use rfl (hO.2.2.2.2.2.2.2.1 _ kz_KINDS rfl)) (fun _ h => h) d_TX_readKind_53 ?_
              refine lv_iload_n S.1 S.2.1 d_TX_readKind_56 rfl (lv_at hl 2 rfl) ?_
              refine vb_tq S.1 S.2.1 hO.2.2.2.2.2.2.2.2.2.2.2.1 hO.SG (vp_in_nI (show k < 11 by omega) (by decide)) (v := .ref (ga G k)) (by rw [nI_clamp (by omega)]) d_TX_readKind_57 ?_
              refine W.eq (g2 := F0 m 58 ls [.ref (ga G ((nI k).toNatClampNeg)), .ref (ad 35)]) (by rw [nI_clamp (by omega)]) ?_
              obtain ⟨sa, hsa⟩ : ∃ z : Nat → Nat → Int32, z = up2 s9 35 6 (nI k) := ⟨_, rfl⟩
              refine g_put S hO (fun _ h => h) fp_TX_27 (by decide) (sh_35 G ad _ _) (v := .ref (ga G ((nI k).toNatClampNeg))) rfl rfl (Nat.le_of_ble_eq_true rfl) (E2 := enc G ad sa τ) (by rw [hsa]; exact enc_i (sh_35 G ad _ _)) d_TX_readKind_58 (fun H locs hO => ?_)
              refine lv_iinc (v := nI (k + 1)) (lv' := [(2, .int (nI (k + 1))), (1, .int (nI (shN (σ 36) N pp k))), (3, .int (nI (shN (σ 36) N pp k))), (0, .ref (ad 35))]) S.1 S.2.1 d_TX_readKind_61 hl (k := 2) rfl (nI_1 _) (by decide) rfl (fun ls hl => ?_)
              refine lv_goto (tgt := 4) S.1 S.2.1 d_TX_readKind_64 (by decide) ?_
              have eK : pkf (σ 36) N pp k0 (k + 1) = (nI (shN (σ 36) N pp k), k) := by show pkS _ _ _ _ _ = _; rw [pkS, if_pos (Or.inr ⟨c_32, c_47⟩)]
              rw [show nI (shN (σ 36) N pp k) = (pkf (σ 36) N pp k0 (k + 1)).1 by rw [eK]] at hl
              exact ih_4 (k + 1) sa (by omega) (by omega) (by rw [hsa, hs9, up2_i, eK]) _ _ hO ls (lv_sub hl [0, 1, 3] rfl)
  exact K_4 12 0 σ (by omega) (by omega) (up2_self hkd).symm _ _ hO ls (lv_sub hl [0, 1, 2] rfl)
