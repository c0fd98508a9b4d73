/-! A rule comes. Written by wip/tools/m27.py. -/
theorem kn_eq {G : gP} {A : Nat → Prop} {n : Nat} {ad : Nat → Nat} {E : Nat → va_E} {s : State} {H : Heap} {locs : List Loc} (hO : gO G A n ad E s H locs) {x y : Int32} (hx : ∃ k : Nat, k < 11 ∧ x = nI k) (hy : ∃ k : Nat, k < 11 ∧ y = nI k) : (some (ga G x.toNatClampNeg) = some (ga G y.toNatClampNeg)) ↔ x = y := by
  obtain ⟨k1, h1, rfl⟩ := hx
  obtain ⟨k2, h2, rfl⟩ := hy
  rw [nI_clamp (by omega), nI_clamp (by omega)]
  constructor
  · intro z
    have z1 : ga G k1 = ga G k2 := Option.some.inj z
    rw [hO.en.2 k1 k2 h1 h2 z1]
  · intro z
    rw [(nI_eq (by omega) (by omega)).mp z]
/-- the rule i clashes with the rule n -/
def ncn (n : Nat) (σ : Nat → Nat → Int32) (i : Nat) : Nat → Nat → Int32 :=
  if σ (9 + i) 0 = σ (9 + n) 0 ∧ σ (9 + i) 1 = σ (9 + n) 1 then up2 (up2 (up2 σ 7 (σ 4 5).toNatClampNeg (nI i)) 8 (σ 4 5).toNatClampNeg (nI n)) 4 5 ((up2 (up2 σ 7 (σ 4 5).toNatClampNeg (nI i)) 8 (σ 4 5).toNatClampNeg (nI n)) 4 5 + 1) else σ
def ncx (n : Nat) (σ : Nat → Nat → Int32) : Nat → Nat → Nat → Int32
  | 0 => σ
  | i + 1 => ncn n (ncx n σ i) i
theorem ncn_9 {n i r : Nat} {σ : Nat → Nat → Int32} (k : Nat) (h7 : k ≠ 7) (h8 : k ≠ 8) (h4 : k ≠ 4) : ncn n σ i k = σ k := by
  unfold ncn
  split
  · rw [up2_c h4, up2_c h8, up2_c h7]
  · rfl
theorem ncx_9 {n : Nat} {σ : Nat → Nat → Int32} (k : Nat) (h7 : k ≠ 7) (h8 : k ≠ 8) (h4 : k ≠ 4) : ∀ i, ncx n σ i k = σ k
  | 0 => rfl
  | i + 1 => (ncn_9 (r := 0) k h7 h8 h4).trans (ncx_9 k h7 h8 h4 i)
theorem ncx_c {n nc : Nat} {σ : Nat → Nat → Int32} (h : σ 4 5 = nI nc) : ∀ i, ∃ c, c ≤ nc + i ∧ nc ≤ c ∧ ncx n σ i 4 5 = nI c
  | 0 => ⟨nc, by omega, by omega, h⟩
  | i + 1 => by
    obtain ⟨c, h1, h2, h3⟩ := ncx_c (n := n) h i
    show ∃ c, c ≤ nc + (i + 1) ∧ nc ≤ c ∧ ncn n (ncx n σ i) i 4 5 = nI c
    unfold ncn
    split
    · refine ⟨c + 1, by omega, by omega, ?_⟩
      rw [up2_s, up2_k (by decide), up2_k (by decide), h3]
      exact nI_1 c
    · exact ⟨c, by omega, h2, h3⟩
theorem nc_276 {n nc i : Nat} (hn : n < 24) (h : 2 * nc ≤ n * (n - 1)) (hi : i < n) : nc + i < 276 := by
  have h1 : n * (n - 1) ≤ 23 * 22 := Nat.mul_le_mul (by omega) (by omega)
  omega
set_option maxHeartbeats 4000000 in
set_option maxRecDepth 100000 in
theorem k_RB_noteClashes (l : Launch) (G : gP) (ad : Nat → Nat) (σ : Nat → Nat → Int32) (τ : Nat → Nat → Int64) (n : Nat) (hn : n < 24) (nc : Nat) (hcl : σ 4 5 = nI nc) (hn2 : 2 * nc ≤ n * (n - 1)) (hkd : ∀ r, r < 24 → ∃ k : Nat, k < 11 ∧ σ (9 + r) 1 = nI k) : gim l y_RB_noteClashes c_RB_noteClashes 4 none { frames := 0, cells := 0, slots := 0, locals := 0 } G ad σ τ [.ref (ad 4), .int (nI n)] 0 0 (fun v σ1 τ1 => v = none ∧ σ1 = ncx n σ n ∧ τ1 = τ) (fun _ => False) := by
  refine gs_of (fun _ h => h) (by decide) (Nat.le_of_ble_eq_true rfl) ?_
  intro p e s m args below meth c ls S hk hr hx hl hO
  have hl : lv_has ls 4 [(0, .ref (ad 4)), (1, .int (nI n))] := hl
  refine lv_aload_n S.1 S.2.1 d_RB_noteClashes_0 rfl (lv_at hl 0 rfl) ?_
  refine g_get S hO fl_RB_11 (by decide) (sh_4 G ad _ _) (v := .ref (ad 5)) rfl d_RB_noteClashes_1 ?_
  refine lv_iload_n S.1 S.2.1 d_RB_noteClashes_4 rfl (lv_at hl 1 rfl) ?_
  refine g_aal S hO (t0 := 6) (by decide) (sh_5 G ad _ _) rfl (vp_in_nI hn (by decide)) (v := .ref (ad (9 + n))) (by rw [nI_clamp (by omega)]; rfl) d_RB_noteClashes_5 ?_
  refine lv_astore_n (lv' := [(2, .ref (ad (9 + n))), (0, .ref (ad 4)), (1, .int (nI n))]) S.1 S.2.1 d_RB_noteClashes_6 rfl hl (by decide) rfl (fun ls hl => ?_)
  refine lv_iconst (v := 0) S.1 S.2.1 d_RB_noteClashes_7 (by decide) ?_
  refine lv_istore_n (lv' := [(3, .int 0), (2, .ref (ad (9 + n))), (0, .ref (ad 4)), (1, .int (nI n))]) S.1 S.2.1 d_RB_noteClashes_8 rfl hl (by decide) rfl (fun ls hl => ?_)
  have K_9 : ∀ (n9 : Nat) (j : Nat) (s9 : Nat → Nat → Int32), n - j < n9 → (j ≤ n) → (s9 = ncx n σ j) → ∀ (H : Heap) (locs : List Loc), gO G (gA G) 159 ad (enc G ad s9 τ) s H locs → ∀ ls : Array Slot, lv_has ls 4 [(3, .int (nI j)), (0, .ref (ad 4)), (1, .int (nI n)), (2, .ref (ad (9 + n)))] → W p l e { frames := 0, cells := 0, slots := 0, locals := 0 } s m args below meth c H locs 0 0 (gM below (gA G) 0 0 (fun v t => ∃ E1, (∃ σ1 τ1, E1 = enc G ad σ1 τ1 ∧ (fun v σ1 τ1 => v = none ∧ σ1 = ncx n σ n ∧ τ1 = τ) v σ1 τ1) ∧ va_P G.1 gcl (gw 159 ad E1) t.heap) (fun x t => (fun _ => False) x ∧ va_P G.1 gcl (gw 159 ad (enc G ad σ τ)) t.heap) args s) (F0 m 9 ls []) := by
    intro n9
    induction n9 with
    | zero =>
      intro j s9 hn9 hj hs9 H locs hO ls hl
      exact absurd hn9 (Nat.not_lt_zero _)
    | succ n9 ih_9 =>
      intro j s9 hn9 hj hs9 H locs hO ls hl
      obtain ⟨c, hc1, hc2, hc⟩ := ncx_c (n := n) hcl j
      rw [← hs9] at hc
      have hkd9 : ∀ r, r < 24 → ∃ k : Nat, k < 11 ∧ s9 (9 + r) 1 = nI k := fun r hr => by rw [hs9, ncx_9 (9 + r) (by omega) (by omega) (by omega)]; exact hkd r hr
      refine lv_iload_n S.1 S.2.1 d_RB_noteClashes_9 rfl (lv_at hl 0 rfl) ?_
      refine lv_iload_n S.1 S.2.1 d_RB_noteClashes_10 rfl (lv_at hl 2 rfl) ?_
      refine lv_icmp_ge (tgt := 92) S.1 S.2.1 d_RB_noteClashes_11 (by decide) (fun c_11 => ?_) (fun c_11 => ?_)
      · skip
        have hw : j = n := by have h9 := ge_nI (x := nI n) rfl rfl (by omega) (by omega) c_11; omega
        exact im_v S hk hr hO ⟨rfl, by rw [hs9, hw], rfl⟩ (Nat.le_of_ble_eq_true rfl) (Nat.le_of_ble_eq_true rfl) d_RB_noteClashes_92
      · skip
        have hw : j < n := ngt_nI (x := nI n) rfl rfl (by omega) (by omega) c_11
        have h276 := nc_276 hn hn2 hw
        refine lv_aload_n S.1 S.2.1 d_RB_noteClashes_14 rfl (lv_at hl 1 rfl) ?_
        refine g_get S hO fl_RB_56 (by decide) (sh_4 G ad _ _) (v := .int (s9 4 5)) rfl d_RB_noteClashes_15 ?_
        refine lv_sipush (v := 276) S.1 S.2.1 d_RB_noteClashes_18 (by decide) ?_
        refine lv_icmp_ge (tgt := 92) S.1 S.2.1 d_RB_noteClashes_21 (by decide) (fun c_21 => ?_) (fun c_21 => ?_)
        · skip
          exact absurd (ge_nI (n := 276) (by decide) hc (by decide) (by omega) c_21) (by omega)
        · skip
          refine lv_aload_n S.1 S.2.1 d_RB_noteClashes_24 rfl (lv_at hl 1 rfl) ?_
          refine g_get S hO fl_RB_11 (by decide) (sh_4 G ad _ _) (v := .ref (ad 5)) rfl d_RB_noteClashes_25 ?_
          refine lv_iload_n S.1 S.2.1 d_RB_noteClashes_28 rfl (lv_at hl 0 rfl) ?_
          refine g_aal S hO (t0 := 6) (by decide) (sh_5 G ad _ _) rfl (vp_in_nI (show j < 24 by omega) (by decide)) (v := .ref (ad (9 + j))) (by rw [nI_clamp (by omega)]; rfl) d_RB_noteClashes_29 ?_
          refine g_get S hO fl_RB_32 (by omega) (sh_RU G ad _ _ (by omega)) (v := .int (s9 (9 + j) 0)) rfl d_RB_noteClashes_30 ?_
          refine lv_aload_n S.1 S.2.1 d_RB_noteClashes_33 rfl (lv_at hl 3 rfl) ?_
          refine g_get S hO fl_RB_32 (by omega) (sh_RU G ad _ _ (by omega)) (v := .int (s9 (9 + n) 0)) rfl d_RB_noteClashes_34 ?_
          refine lv_icmp_ne (tgt := 86) S.1 S.2.1 d_RB_noteClashes_37 (by decide) (fun c_37 => ?_) (fun c_37 => ?_)
          · skip
            obtain ⟨x_1, ex_1⟩ : ∃ z : Int32, z = (nI j) + 1 := ⟨_, rfl⟩
            refine lv_iinc (v := x_1) (lv' := [(3, .int x_1), (0, .ref (ad 4)), (1, .int (nI n)), (2, .ref (ad (9 + n)))]) S.1 S.2.1 d_RB_noteClashes_86 hl (k := 0) rfl (by rw [ex_1]; rfl) (by decide) rfl (fun ls hl => ?_)
            refine lv_goto (tgt := 9) S.1 S.2.1 d_RB_noteClashes_89 (by decide) ?_
            obtain rfl : x_1 = nI (j + 1) := by rw [ex_1]; exact nI_1 j
            exact ih_9 (j + 1) s9 (by omega) (by omega) (by show s9 = ncn _ _ _; rw [← hs9, ncn, if_neg (fun z => c_37 z.1)]) _ _ hO ls (lv_sub hl [0, 1, 2, 3] rfl)
          · skip
            refine lv_aload_n S.1 S.2.1 d_RB_noteClashes_40 rfl (lv_at hl 1 rfl) ?_
            refine g_get S hO fl_RB_11 (by decide) (sh_4 G ad _ _) (v := .ref (ad 5)) rfl d_RB_noteClashes_41 ?_
            refine lv_iload_n S.1 S.2.1 d_RB_noteClashes_44 rfl (lv_at hl 0 rfl) ?_
            refine g_aal S hO (t0 := 6) (by decide) (sh_5 G ad _ _) rfl (vp_in_nI (show j < 24 by omega) (by decide)) (v := .ref (ad (9 + j))) (by rw [nI_clamp (by omega)]; rfl) d_RB_noteClashes_45 ?_
            refine g_get S hO fl_RB_35 (by omega) (sh_RU G ad _ _ (by omega)) (v := .ref (ga G ((s9 (9 + j) 1).toNatClampNeg))) rfl d_RB_noteClashes_46 ?_
            refine lv_aload_n S.1 S.2.1 d_RB_noteClashes_49 rfl (lv_at hl 3 rfl) ?_
            refine g_get S hO fl_RB_35 (by omega) (sh_RU G ad _ _ (by omega)) (v := .ref (ga G ((s9 (9 + n) 1).toNatClampNeg))) rfl d_RB_noteClashes_50 ?_
            refine W.eq (g2 := F0 m 53 ls (va_rf (some (ga G ((s9 (9 + n) 1).toNatClampNeg))) :: va_rf (some (ga G ((s9 (9 + j) 1).toNatClampNeg))) :: [])) rfl ?_
            refine lv_acmp_ne (tgt := 86) S.1 S.2.1 d_RB_noteClashes_53 (by decide) (fun c_53 => ?_) (fun c_53 => ?_)
            · skip
              obtain ⟨x_2, ex_2⟩ : ∃ z : Int32, z = (nI j) + 1 := ⟨_, rfl⟩
              refine lv_iinc (v := x_2) (lv' := [(3, .int x_2), (0, .ref (ad 4)), (1, .int (nI n)), (2, .ref (ad (9 + n)))]) S.1 S.2.1 d_RB_noteClashes_86 hl (k := 0) rfl (by rw [ex_2]; rfl) (by decide) rfl (fun ls hl => ?_)
              refine lv_goto (tgt := 9) S.1 S.2.1 d_RB_noteClashes_89 (by decide) ?_
              obtain rfl : x_2 = nI (j + 1) := by rw [ex_2]; exact nI_1 j
              exact ih_9 (j + 1) s9 (by omega) (by omega) (by show s9 = ncn _ _ _; rw [← hs9, ncn, if_neg (fun z => c_53 ((kn_eq hO (hkd9 j (by omega)) (hkd9 n (by omega))).mpr z.2))]) _ _ hO ls (lv_sub hl [0, 1, 2, 3] rfl)
            · skip
              have hO9 := hO
              refine lv_aload_n S.1 S.2.1 d_RB_noteClashes_56 rfl (lv_at hl 1 rfl) ?_
              refine g_get S hO fl_RB_21 (by decide) (sh_4 G ad _ _) (v := .ref (ad 7)) rfl d_RB_noteClashes_57 ?_
              refine lv_aload_n S.1 S.2.1 d_RB_noteClashes_60 rfl (lv_at hl 1 rfl) ?_
              refine g_get S hO fl_RB_56 (by decide) (sh_4 G ad _ _) (v := .int (s9 4 5)) rfl d_RB_noteClashes_61 ?_
              refine lv_iload_n S.1 S.2.1 d_RB_noteClashes_64 rfl (lv_at hl 0 rfl) ?_
              obtain ⟨sa, hsa⟩ : ∃ z : Nat → Nat → Int32, z = up2 s9 7 c (nI j) := ⟨_, rfl⟩
              refine g_ias S hO (fun _ h => h) (by decide) (sh_7 G ad _ _) (by rw [hc]; exact vp_in_nI (show c < 276 by omega) (by decide)) (E2 := enc G ad sa τ) (by rw [hsa, hc, nI_clamp (show c < 2 ^ 31 by omega)]; exact enc_i (sh_7 G ad _ _)) d_RB_noteClashes_65 (fun H locs hO => ?_)
              refine lv_aload_n S.1 S.2.1 d_RB_noteClashes_66 rfl (lv_at hl 1 rfl) ?_
              refine g_get S hO fl_RB_24 (by decide) (sh_4 G ad _ _) (v := .ref (ad 8)) rfl d_RB_noteClashes_67 ?_
              refine lv_aload_n S.1 S.2.1 d_RB_noteClashes_70 rfl (lv_at hl 1 rfl) ?_
              refine g_get S hO fl_RB_56 (by decide) (sh_4 G ad _ _) (v := .int (sa 4 5)) rfl d_RB_noteClashes_71 ?_
              refine lv_iload_n S.1 S.2.1 d_RB_noteClashes_74 rfl (lv_at hl 2 rfl) ?_
              have hca : sa 4 5 = nI c := by rw [hsa, up2_k (by decide)]; exact hc
              obtain ⟨sb, hsb⟩ : ∃ z : Nat → Nat → Int32, z = up2 sa 8 c (nI n) := ⟨_, rfl⟩
              refine g_ias S hO (fun _ h => h) (by decide) (sh_8 G ad _ _) (by rw [hca]; exact vp_in_nI (show c < 276 by omega) (by decide)) (E2 := enc G ad sb τ) (by rw [hsb, hca, nI_clamp (show c < 2 ^ 31 by omega)]; exact enc_i (sh_8 G ad _ _)) d_RB_noteClashes_75 (fun H locs hO => ?_)
              refine lv_aload_n S.1 S.2.1 d_RB_noteClashes_76 rfl (lv_at hl 1 rfl) ?_
              refine lv_dup S.1 S.2.1 d_RB_noteClashes_77 rfl ?_
              refine g_get S hO fl_RB_56 (by decide) (sh_4 G ad _ _) (v := .int (sb 4 5)) rfl d_RB_noteClashes_78 ?_
              refine lv_iconst (v := 1) S.1 S.2.1 d_RB_noteClashes_81 (by decide) ?_
              refine lv_iadd S.1 S.2.1 d_RB_noteClashes_82 ?_
              obtain ⟨sc, hsc⟩ : ∃ z : Nat → Nat → Int32, z = up2 sb 4 5 ((sb 4 5) + 1) := ⟨_, rfl⟩
              refine g_put S hO (fun _ h => h) fp_RB_56 (by decide) (sh_4 G ad _ _) (v := .int ((sb 4 5) + 1)) rfl rfl (Nat.le_of_ble_eq_true rfl) (E2 := enc G ad sc τ) (by rw [hsc]; exact enc_i (sh_4 G ad _ _)) d_RB_noteClashes_83 (fun H locs hO => ?_)
              obtain ⟨x_3, ex_3⟩ : ∃ z : Int32, z = (nI j) + 1 := ⟨_, rfl⟩
              refine lv_iinc (v := x_3) (lv' := [(3, .int x_3), (0, .ref (ad 4)), (1, .int (nI n)), (2, .ref (ad (9 + n)))]) S.1 S.2.1 d_RB_noteClashes_86 hl (k := 0) rfl (by rw [ex_3]; rfl) (by decide) rfl (fun ls hl => ?_)
              refine lv_goto (tgt := 9) S.1 S.2.1 d_RB_noteClashes_89 (by decide) ?_
              obtain rfl : x_3 = nI (j + 1) := by rw [ex_3]; exact nI_1 j
              exact ih_9 (j + 1) sc (by omega) (by omega) (by show sc = ncn _ _ _; rw [← hs9, ncn, if_pos ⟨c_37, (kn_eq hO9 (hkd9 j (by omega)) (hkd9 n (by omega))).mp c_53⟩, hc, nI_clamp (show c < 2 ^ 31 by omega)]; rw [hsc, hsb, hsa]) _ _ hO ls (lv_sub hl [0, 1, 2, 3] rfl)
  exact K_9 (n + 1) 0 σ (by omega) (by omega) rfl _ _ hO ls (lv_sub hl [0, 2, 3, 1] rfl)
/-- the rule n is put into the order, at the place s or ahead of it -/
def ioS (n : Nat) (σ : Nat → Nat → Int32) : Nat → Nat → Nat → Int32
  | 0 => up2 σ 6 0 (nI n)
  | s + 1 => if σ (9 + n) 0 < σ (9 + (σ 6 s).toNatClampNeg) 0 then ioS n (up2 σ 6 (s + 1) (σ 6 s)) s else up2 σ 6 (s + 1) (nI n)
set_option maxHeartbeats 4000000 in
set_option maxRecDepth 100000 in
theorem k_RB_insertInOrder (l : Launch) (G : gP) (ad : Nat → Nat) (σ : Nat → Nat → Int32) (τ : Nat → Nat → Int64) (n : Nat) (hn : n < 24) (hod : ∀ i, i < n → ∃ q : Nat, q < 24 ∧ σ 6 i = nI q) : gim l y_RB_insertInOrder c_RB_insertInOrder 3 none { frames := 0, cells := 0, slots := 0, locals := 0 } G ad σ τ [.ref (ad 4), .int (nI n)] 0 0 (fun v σ1 τ1 => v = none ∧ σ1 = ioS n σ n ∧ τ1 = τ) (fun _ => False) := by
  refine gs_of (fun _ h => h) (by decide) (Nat.le_of_ble_eq_true rfl) ?_
  intro p e s m args below meth c ls S hk hr hx hl hO
  have hl : lv_has ls 3 [(0, .ref (ad 4)), (1, .int (nI n))] := hl
  refine lv_iload_n S.1 S.2.1 d_RB_insertInOrder_0 rfl (lv_at hl 1 rfl) ?_
  refine lv_istore_n (lv' := [(2, .int (nI n)), (0, .ref (ad 4)), (1, .int (nI n))]) S.1 S.2.1 d_RB_insertInOrder_1 rfl hl (by decide) rfl (fun ls hl => ?_)
  have K_2 : ∀ (n9 : Nat) (g9 : Nat) (s9 : Nat → Nat → Int32), g9 < n9 → (g9 ≤ n) → (ioS n σ n = ioS n s9 g9) → (∀ z, z < g9 → s9 6 z = σ 6 z) → (∀ z, z ≠ 6 → s9 z = σ z) → ∀ (H : Heap) (locs : List Loc), gO G (gA G) 159 ad (enc G ad s9 τ) s H locs → ∀ ls : Array Slot, lv_has ls 3 [(2, .int (nI g9)), (0, .ref (ad 4)), (1, .int (nI n))] → W p l e { frames := 0, cells := 0, slots := 0, locals := 0 } s m args below meth c H locs 0 0 (gM below (gA G) 0 0 (fun v t => ∃ E1, (∃ σ1 τ1, E1 = enc G ad σ1 τ1 ∧ (fun v σ1 τ1 => v = none ∧ σ1 = ioS n σ n ∧ τ1 = τ) v σ1 τ1) ∧ va_P G.1 gcl (gw 159 ad E1) t.heap) (fun x t => (fun _ => False) x ∧ va_P G.1 gcl (gw 159 ad (enc G ad σ τ)) t.heap) args s) (F0 m 2 ls []) := by
    intro n9
    induction n9 with
    | zero =>
      intro g9 s9 hn9 hg hq h6 ho H locs hO ls hl
      exact absurd hn9 (Nat.not_lt_zero _)
    | succ n9 ih_2 =>
      intro g9 s9 hn9 hg hq h6 ho H locs hO ls hl
      refine lv_iload_n S.1 S.2.1 d_RB_insertInOrder_2 rfl (lv_at hl 0 rfl) ?_
      refine lv_if_le (tgt := 54) S.1 S.2.1 d_RB_insertInOrder_3 (by decide) (fun c_3 => ?_) (fun c_3 => ?_)
      · skip
        have hz0 : g9 = 0 := by
          have h9 := ge_nI (n := g9) (N := 0) rfl (by decide) (by omega) (by decide) c_3
          omega
        subst hz0
        refine lv_aload_n S.1 S.2.1 d_RB_insertInOrder_54 rfl (lv_at hl 1 rfl) ?_
        refine g_get S hO fl_RB_17 (by decide) (sh_4 G ad _ _) (v := .ref (ad 6)) rfl d_RB_insertInOrder_55 ?_
        refine lv_iload_n S.1 S.2.1 d_RB_insertInOrder_58 rfl (lv_at hl 0 rfl) ?_
        refine lv_iload_n S.1 S.2.1 d_RB_insertInOrder_59 rfl (lv_at hl 2 rfl) ?_
        obtain ⟨s_1, hs_1⟩ : ∃ z : Nat → Nat → Int32, z = up2 s9 6 0 (nI n) := ⟨_, rfl⟩
        refine g_ias S hO (fun _ h => h) (by decide) (sh_6 G ad _ _) (vp_in_nI (show 0 < 24 by decide) (by decide)) (E2 := enc G ad s_1 τ) (by rw [hs_1, nI_clamp (by omega)]; exact enc_i (sh_6 G ad _ _)) d_RB_insertInOrder_60 (fun H locs hO => ?_)
        subst hs_1
        exact im_v S hk hr hO ⟨rfl, by rw [hq]; rfl, rfl⟩ (Nat.le_of_ble_eq_true rfl) (Nat.le_of_ble_eq_true rfl) d_RB_insertInOrder_61
      · skip
        have hg0 : g9 ≠ 0 := fun z => c_3 (by rw [z]; decide)
        obtain ⟨t, rfl⟩ : ∃ t, g9 = t + 1 := ⟨g9 - 1, by omega⟩
        obtain ⟨q, hq24, hq6⟩ := hod t (by omega)
        rw [← h6 t (by omega)] at hq6
        refine lv_aload_n S.1 S.2.1 d_RB_insertInOrder_6 rfl (lv_at hl 1 rfl) ?_
        refine g_get S hO fl_RB_11 (by decide) (sh_4 G ad _ _) (v := .ref (ad 5)) rfl d_RB_insertInOrder_7 ?_
        refine lv_aload_n S.1 S.2.1 d_RB_insertInOrder_10 rfl (lv_at hl 1 rfl) ?_
        refine g_get S hO fl_RB_17 (by decide) (sh_4 G ad _ _) (v := .ref (ad 6)) rfl d_RB_insertInOrder_11 ?_
        refine lv_iload_n S.1 S.2.1 d_RB_insertInOrder_14 rfl (lv_at hl 0 rfl) ?_
        refine lv_iconst (v := 1) S.1 S.2.1 d_RB_insertInOrder_15 (by decide) ?_
        refine lv_isub S.1 S.2.1 d_RB_insertInOrder_16 ?_
        refine W.eq (g2 := F0 m 17 ls [.int (nI t), .ref (ad 6), .ref (ad 5)]) (by rw [nI_pred]) ?_
        refine g_ial S hO (by decide) (sh_6 G ad _ _) (vp_in_nI (show t < 24 by omega) (by decide)) d_RB_insertInOrder_17 ?_
        refine W.eq (g2 := F0 m 18 ls [.int (s9 6 t), .ref (ad 5)]) (by rw [nI_clamp (by omega)]) ?_
        refine W.eq (g2 := F0 m 18 ls [.int (nI q), .ref (ad 5)]) (by rw [hq6]) ?_
        refine g_aal S hO (t0 := 6) (by decide) (sh_5 G ad _ _) rfl (vp_in_nI hq24 (by decide)) (v := .ref (ad (9 + q))) (by rw [nI_clamp (by omega)]; rfl) d_RB_insertInOrder_18 ?_
        refine g_get S hO fl_RB_32 (by omega) (sh_RU G ad _ _ (by omega)) (v := .int (s9 (9 + q) 0)) rfl d_RB_insertInOrder_19 ?_
        refine lv_aload_n S.1 S.2.1 d_RB_insertInOrder_22 rfl (lv_at hl 1 rfl) ?_
        refine g_get S hO fl_RB_11 (by decide) (sh_4 G ad _ _) (v := .ref (ad 5)) rfl d_RB_insertInOrder_23 ?_
        refine lv_iload_n S.1 S.2.1 d_RB_insertInOrder_26 rfl (lv_at hl 2 rfl) ?_
        refine g_aal S hO (t0 := 6) (by decide) (sh_5 G ad _ _) rfl (vp_in_nI hn (by decide)) (v := .ref (ad (9 + n))) (by rw [nI_clamp (by omega)]; rfl) d_RB_insertInOrder_27 ?_
        refine g_get S hO fl_RB_32 (by omega) (sh_RU G ad _ _ (by omega)) (v := .int (s9 (9 + n) 0)) rfl d_RB_insertInOrder_28 ?_
        refine lv_icmp_le (tgt := 54) S.1 S.2.1 d_RB_insertInOrder_31 (by decide) (fun c_31 => ?_) (fun c_31 => ?_)
        · skip
          refine lv_aload_n S.1 S.2.1 d_RB_insertInOrder_54 rfl (lv_at hl 1 rfl) ?_
          refine g_get S hO fl_RB_17 (by decide) (sh_4 G ad _ _) (v := .ref (ad 6)) rfl d_RB_insertInOrder_55 ?_
          refine lv_iload_n S.1 S.2.1 d_RB_insertInOrder_58 rfl (lv_at hl 0 rfl) ?_
          refine lv_iload_n S.1 S.2.1 d_RB_insertInOrder_59 rfl (lv_at hl 2 rfl) ?_
          obtain ⟨s_2, hs_2⟩ : ∃ z : Nat → Nat → Int32, z = up2 s9 6 (t + 1) (nI n) := ⟨_, rfl⟩
          refine g_ias S hO (fun _ h => h) (by decide) (sh_6 G ad _ _) (vp_in_nI (show t + 1 < 24 by omega) (by decide)) (E2 := enc G ad s_2 τ) (by rw [hs_2, nI_clamp (by omega)]; exact enc_i (sh_6 G ad _ _)) d_RB_insertInOrder_60 (fun H locs hO => ?_)
          subst hs_2
          exact im_v S hk hr hO ⟨rfl, by rw [hq, ioS, if_neg (by rw [hq6, nI_clamp (by omega)]; exact Int32.not_lt.mpr c_31)], rfl⟩ (Nat.le_of_ble_eq_true rfl) (Nat.le_of_ble_eq_true rfl) d_RB_insertInOrder_61
        · skip
          refine lv_aload_n S.1 S.2.1 d_RB_insertInOrder_34 rfl (lv_at hl 1 rfl) ?_
          refine g_get S hO fl_RB_17 (by decide) (sh_4 G ad _ _) (v := .ref (ad 6)) rfl d_RB_insertInOrder_35 ?_
          refine lv_iload_n S.1 S.2.1 d_RB_insertInOrder_38 rfl (lv_at hl 0 rfl) ?_
          refine lv_aload_n S.1 S.2.1 d_RB_insertInOrder_39 rfl (lv_at hl 1 rfl) ?_
          refine g_get S hO fl_RB_17 (by decide) (sh_4 G ad _ _) (v := .ref (ad 6)) rfl d_RB_insertInOrder_40 ?_
          refine lv_iload_n S.1 S.2.1 d_RB_insertInOrder_43 rfl (lv_at hl 0 rfl) ?_
          refine lv_iconst (v := 1) S.1 S.2.1 d_RB_insertInOrder_44 (by decide) ?_
          refine lv_isub S.1 S.2.1 d_RB_insertInOrder_45 ?_
          refine W.eq (g2 := F0 m 46 ls [.int (nI t), .ref (ad 6), .int (nI ((t + 1))), .ref (ad 6)]) (by rw [nI_pred]) ?_
          refine g_ial S hO (by decide) (sh_6 G ad _ _) (vp_in_nI (show t < 24 by omega) (by decide)) d_RB_insertInOrder_46 ?_
          refine W.eq (g2 := F0 m 47 ls [.int (s9 6 t), .int (nI ((t + 1))), .ref (ad 6)]) (by rw [nI_clamp (by omega)]) ?_
          obtain ⟨sa, hsa⟩ : ∃ z : Nat → Nat → Int32, z = up2 s9 6 (t + 1) (s9 6 t) := ⟨_, rfl⟩
          refine g_ias S hO (fun _ h => h) (by decide) (sh_6 G ad _ _) (vp_in_nI (show t + 1 < 24 by omega) (by decide)) (E2 := enc G ad sa τ) (by rw [hsa, nI_clamp (by omega)]; exact enc_i (sh_6 G ad _ _)) d_RB_insertInOrder_47 (fun H locs hO => ?_)
          obtain ⟨x_3, ex_3⟩ : ∃ z : Int32, z = (nI ((t + 1))) + (-1) := ⟨_, rfl⟩
          refine lv_iinc (v := x_3) (lv' := [(2, .int x_3), (0, .ref (ad 4)), (1, .int (nI n))]) S.1 S.2.1 d_RB_insertInOrder_48 hl (k := 0) rfl (by rw [ex_3]; rfl) (by decide) rfl (fun ls hl => ?_)
          refine lv_goto (tgt := 2) S.1 S.2.1 d_RB_insertInOrder_51 (by decide) ?_
          obtain rfl : x_3 = nI t := by rw [ex_3]; exact pk_m1 t
          exact ih_2 t sa (by omega) (by omega) (by rw [hq, ioS, if_pos (by rw [hq6, nI_clamp (by omega)]; exact Int32.not_le.mp c_31), hsa, hq6]) (by intro z hz; rw [hsa, up2_j (by omega)]; exact h6 z (by omega)) (by intro z hz; rw [hsa, up2_c hz]; exact ho z hz) _ _ hO ls (lv_sub hl [0, 1, 2] rfl)
  exact K_2 (n + 1) n σ (by omega) (by omega) rfl (fun _ _ => rfl) (fun _ _ => rfl) _ _ hO ls (lv_sub hl [0, 1, 2] rfl)
/-- the rule's numbers are written; .. and it comes -/
def awS (σ : Nat → Nat → Int32) (n : Nat) (rk k a b : Int32) : Nat → Nat → Int32 := up2 (up2 (up2 (up2 σ (9 + n) 0 rk) (9 + n) 1 k) (9 + n) 2 a) (9 + n) 3 b
def arS (σ : Nat → Nat → Int32) (n : Nat) (rk k a b : Int32) : Nat → Nat → Int32 := up2 (ioS n (ncx n (awS σ n rk k a b) n) n) 4 2 (ioS n (ncx n (awS σ n rk k a b) n) n 4 2 + 1)
theorem awS_c {σ : Nat → Nat → Int32} {n q : Nat} {rk k a b : Int32} (h : q ≠ 9 + n) : awS σ n rk k a b q = σ q := by
  unfold awS
  rw [up2_c h, up2_c h, up2_c h, up2_c h]
theorem awS_1 {σ : Nat → Nat → Int32} {n : Nat} {rk k a b : Int32} : awS σ n rk k a b (9 + n) 1 = k := by
  unfold awS
  rw [up2_j (by decide), up2_j (by decide), up2_s]
theorem aw_kd {σ : Nat → Nat → Int32} {n : Nat} {rk k a b : Int32} (hk : ∃ z : Nat, z < 11 ∧ k = nI z) (h : ∀ r, r < 24 → ∃ z : Nat, z < 11 ∧ σ (9 + r) 1 = nI z) : ∀ r, r < 24 → ∃ z : Nat, z < 11 ∧ awS σ n rk k a b (9 + r) 1 = nI z := by
  intro r hr
  by_cases hrn : r = n
  · subst hrn
    rw [awS_1]
    exact hk
  · rw [awS_c (by omega)]
    exact h r hr
set_option maxHeartbeats 4000000 in
set_option maxRecDepth 100000 in
theorem k_RB_addRule (l : Launch) (G : gP) (ad : Nat → Nat) (σ : Nat → Nat → Int32) (τ : Nat → Nat → Int64) (rk : Int32) (k : Nat) (hk1 : k < 11) (a b : Int32) (n : Nat) (hn : n < 24) (hrc : σ 4 2 = nI n) (nc : Nat) (hcl : σ 4 5 = nI nc) (hn2 : 2 * nc ≤ n * (n - 1)) (hod : ∀ i, i < n → ∃ q : Nat, q < 24 ∧ σ 6 i = nI q) (hkd : ∀ r, r < 24 → ∃ k : Nat, k < 11 ∧ σ (9 + r) 1 = nI k) : gim l y_RB_addRule c_RB_addRule 7 (some .int) { frames := 1, cells := 0, slots := 0, locals := 23 } G ad σ τ [.ref (ad 4), .int rk, .ref (ga G k), .int a, .int b] 0 0 (fun v σ1 τ1 => v = some (.int (nI n)) ∧ σ1 = arS σ n rk (nI k) a b ∧ τ1 = τ) (fun _ => False) := by
  refine gs_of (fun _ h => h) (by decide) (Nat.le_of_ble_eq_true rfl) ?_
  intro p e s m args below meth c ls S hk hr hx hl hO
  have hl : lv_has ls 7 [(0, .ref (ad 4)), (1, .int rk), (2, .ref (ga G k)), (3, .int a), (4, .int b)] := hl
  refine lv_aload_n S.1 S.2.1 d_RB_addRule_0 rfl (lv_at hl 0 rfl) ?_
  refine g_get S hO fl_RB_28 (by decide) (sh_4 G ad _ _) (v := .int (σ 4 2)) rfl d_RB_addRule_1 ?_
  refine W.eq (g2 := F0 m 4 ls [.int (nI n)]) (by rw [hrc]) ?_
  refine lv_istore (lv' := [(5, .int (nI n)), (0, .ref (ad 4)), (1, .int rk), (2, .ref (ga G k)), (3, .int a), (4, .int b)]) S.1 S.2.1 d_RB_addRule_4 hl (by decide) rfl (fun ls hl => ?_)
  refine lv_iload S.1 S.2.1 d_RB_addRule_6 (lv_at hl 0 rfl) ?_
  refine lv_bipush (v := 24) S.1 S.2.1 d_RB_addRule_8 (by decide) ?_
  refine lv_icmp_lt (tgt := 15) S.1 S.2.1 d_RB_addRule_10 (by decide) (fun c_10 => ?_) (fun c_10 => ?_)
  · skip
    refine lv_aload_n S.1 S.2.1 d_RB_addRule_15 rfl (lv_at hl 1 rfl) ?_
    refine g_get S hO fl_RB_11 (by decide) (sh_4 G ad _ _) (v := .ref (ad 5)) rfl d_RB_addRule_16 ?_
    refine lv_iload S.1 S.2.1 d_RB_addRule_19 (lv_at hl 0 rfl) ?_
    refine g_aal S hO (t0 := 6) (by decide) (sh_5 G ad _ _) rfl (vp_in_nI hn (by decide)) (v := .ref (ad (9 + n))) (by rw [nI_clamp (by omega)]; rfl) d_RB_addRule_21 ?_
    refine lv_astore (lv' := [(6, .ref (ad (9 + n))), (5, .int (nI n)), (0, .ref (ad 4)), (1, .int rk), (2, .ref (ga G k)), (3, .int a), (4, .int b)]) S.1 S.2.1 d_RB_addRule_22 hl (by decide) rfl (fun ls hl => ?_)
    refine lv_aload S.1 S.2.1 d_RB_addRule_24 (lv_at hl 0 rfl) ?_
    refine lv_iload_n S.1 S.2.1 d_RB_addRule_26 rfl (lv_at hl 3 rfl) ?_
    obtain ⟨sa, hsa⟩ : ∃ z : Nat → Nat → Int32, z = up2 σ (9 + n) 0 rk := ⟨_, rfl⟩
    refine g_put S hO (fun _ h => h) fp_RB_32 (by omega) (sh_RU G ad _ _ (by omega)) (v := .int rk) rfl rfl (Nat.le_of_ble_eq_true rfl) (E2 := enc G ad sa τ) (by rw [hsa]; exact enc_i (sh_RU G ad _ _ (by omega))) d_RB_addRule_27 (fun H locs hO => ?_)
    refine lv_aload S.1 S.2.1 d_RB_addRule_30 (lv_at hl 0 rfl) ?_
    refine lv_aload_n S.1 S.2.1 d_RB_addRule_32 rfl (lv_at hl 4 rfl) ?_
    refine W.eq (g2 := F0 m 33 ls [.ref (ga G ((nI k).toNatClampNeg)), .ref (ad (9 + n))]) (by rw [nI_clamp (by omega)]) ?_
    obtain ⟨sb, hsb⟩ : ∃ z : Nat → Nat → Int32, z = up2 sa (9 + n) 1 (nI k) := ⟨_, rfl⟩
    refine g_put S hO (fun _ h => h) fp_RB_35 (by omega) (sh_RU G ad _ _ (by omega)) (v := .ref (ga G ((nI k).toNatClampNeg))) rfl rfl (Nat.le_of_ble_eq_true rfl) (E2 := enc G ad sb τ) (by rw [hsb]; exact enc_i (sh_RU G ad _ _ (by omega))) d_RB_addRule_33 (fun H locs hO => ?_)
    refine lv_aload S.1 S.2.1 d_RB_addRule_36 (lv_at hl 0 rfl) ?_
    refine lv_iload_n S.1 S.2.1 d_RB_addRule_38 rfl (lv_at hl 5 rfl) ?_
    obtain ⟨sc, hsc⟩ : ∃ z : Nat → Nat → Int32, z = up2 sb (9 + n) 2 a := ⟨_, rfl⟩
    refine g_put S hO (fun _ h => h) fp_RB_39 (by omega) (sh_RU G ad _ _ (by omega)) (v := .int a) rfl rfl (Nat.le_of_ble_eq_true rfl) (E2 := enc G ad sc τ) (by rw [hsc]; exact enc_i (sh_RU G ad _ _ (by omega))) d_RB_addRule_39 (fun H locs hO => ?_)
    refine lv_aload S.1 S.2.1 d_RB_addRule_42 (lv_at hl 0 rfl) ?_
    refine lv_iload S.1 S.2.1 d_RB_addRule_44 (lv_at hl 6 rfl) ?_
    obtain ⟨sd, hsd⟩ : ∃ z : Nat → Nat → Int32, z = up2 sc (9 + n) 3 b := ⟨_, rfl⟩
    refine g_put S hO (fun _ h => h) fp_RB_42 (by omega) (sh_RU G ad _ _ (by omega)) (v := .int b) rfl rfl (Nat.le_of_ble_eq_true rfl) (E2 := enc G ad sd τ) (by rw [hsd]; exact enc_i (sh_RU G ad _ _ (by omega))) d_RB_addRule_46 (fun H locs hO => ?_)
    have eaw : sd = awS σ n rk (nI k) a b := by rw [hsd, hsc, hsb, hsa]; rfl
    refine lv_aload_n S.1 S.2.1 d_RB_addRule_49 rfl (lv_at hl 2 rfl) ?_
    refine lv_iload S.1 S.2.1 d_RB_addRule_50 (lv_at hl 1 rfl) ?_
    refine g_VI (As := [.int (nI n)]) (rest := []) S hO (fun _ h => h) (k_RB_noteClashes l G ad sd τ n hn nc (by rw [eaw, awS_c (by omega)]; exact hcl) hn2 (by rw [eaw]; exact aw_kd ⟨k, hk1, rfl⟩ hkd)) cw_RB_45 (by decide) (sh_4 G ad _ _) rfl rfl hl.1 (Nat.le_of_ble_eq_true rfl) ⟨(Nat.le_of_ble_eq_true rfl), (Nat.le_of_ble_eq_true rfl)⟩ ⟨(Nat.le_of_ble_eq_true rfl), (Nat.le_of_ble_eq_true rfl)⟩ d_RB_addRule_52 (fun q x ce H locs h9 => h9.elim) (fun v E1 H locs v_1 hO => ?_)
    obtain ⟨se, t_2, rfl, rfl, hse, ht_2⟩ := v_1
    rw [ht_2] at hO
    refine W.eq (g2 := F0 m 55 ls []) rfl ?_
    refine lv_aload_n S.1 S.2.1 d_RB_addRule_55 rfl (lv_at hl 2 rfl) ?_
    refine lv_iload S.1 S.2.1 d_RB_addRule_56 (lv_at hl 1 rfl) ?_
    refine g_VI (As := [.int (nI n)]) (rest := []) S hO (fun _ h => h) (k_RB_insertInOrder l G ad se τ n hn (by intro z hz; rw [hse, ncx_9 6 (by decide) (by decide) (by decide), eaw, awS_c (by omega)]; exact hod z hz)) cw_RB_49 (by decide) (sh_4 G ad _ _) rfl rfl hl.1 (Nat.le_of_ble_eq_true rfl) ⟨(Nat.le_of_ble_eq_true rfl), (Nat.le_of_ble_eq_true rfl)⟩ ⟨(Nat.le_of_ble_eq_true rfl), (Nat.le_of_ble_eq_true rfl)⟩ d_RB_addRule_58 (fun q x ce H locs h9 => h9.elim) (fun v E1 H locs v_3 hO => ?_)
    obtain ⟨sf, t_4, rfl, rfl, hsf, ht_4⟩ := v_3
    rw [ht_4] at hO
    refine W.eq (g2 := F0 m 61 ls []) rfl ?_
    refine lv_aload_n S.1 S.2.1 d_RB_addRule_61 rfl (lv_at hl 2 rfl) ?_
    refine lv_dup S.1 S.2.1 d_RB_addRule_62 rfl ?_
    refine g_get S hO fl_RB_28 (by decide) (sh_4 G ad _ _) (v := .int (sf 4 2)) rfl d_RB_addRule_63 ?_
    refine lv_iconst (v := 1) S.1 S.2.1 d_RB_addRule_66 (by decide) ?_
    refine lv_iadd S.1 S.2.1 d_RB_addRule_67 ?_
    obtain ⟨sg, hsg⟩ : ∃ z : Nat → Nat → Int32, z = up2 sf 4 2 ((sf 4 2) + 1) := ⟨_, rfl⟩
    refine g_put S hO (fun _ h => h) fp_RB_28 (by decide) (sh_4 G ad _ _) (v := .int ((sf 4 2) + 1)) rfl rfl (Nat.le_of_ble_eq_true rfl) (E2 := enc G ad sg τ) (by rw [hsg]; exact enc_i (sh_4 G ad _ _)) d_RB_addRule_68 (fun H locs hO => ?_)
    refine lv_iload S.1 S.2.1 d_RB_addRule_71 (lv_at hl 1 rfl) ?_
    subst hsg
    subst hsf
    subst hse
    subst hsd
    subst hsc
    subst hsb
    subst hsa
    exact im_i S hk hr hO ⟨rfl, rfl, rfl⟩ (Nat.le_of_ble_eq_true rfl) (Nat.le_of_ble_eq_true rfl) d_RB_addRule_73
  · skip
    exact absurd (nI_lt (show n < 24 by omega) (by decide)) c_10
set_option maxHeartbeats 4000000 in
set_option maxRecDepth 100000 in
theorem k_PR_rule (l : Launch) (hst : l.stackTraces = false) (G : gP) (ad : Nat → Nat) (σ : Nat → Nat → Int32) (τ : Nat → Nat → Int64) (a b d f : Int32) (n : Nat) (hn24 : n ≤ 24) (hrc : σ 4 2 = nI n) (nc : Nat) (hcl : σ 4 5 = nI nc) (hn2 : 2 * nc ≤ n * (n - 1)) (hod : ∀ i, i < n → ∃ q : Nat, q < 24 ∧ σ 6 i = nI q) (hkd : ∀ r, r < 24 → ∃ k : Nat, k < 11 ∧ σ (9 + r) 1 = nI k) : gim l y_PR_rule c_PR_rule 6 (some .int) { frames := 7, cells := 5, slots := 30, locals := 112 } G ad σ τ [.ref (ad 0), .int a, .int b, .int d, .int f] 5 30 (fun v σ1 τ1 => v = some (.int (nI n)) ∧ (gwi a 1 100 ∧ gwi b 0 10 ∧ gwi d (kLe b.toNatClampNeg) (kMo b.toNatClampNeg) ∧ gwi f (if kNu b.toNatClampNeg = 2 then kLe b.toNatClampNeg else 0) (if kNu b.toNatClampNeg = 2 then kMo b.toNatClampNeg else 0)) ∧ n < 24 ∧ σ1 = arS σ n a b d f ∧ τ1 = τ) (fun x => (x = "java/lang/IllegalArgumentException" ∧ ¬ (gwi a 1 100 ∧ gwi b 0 10 ∧ gwi d (kLe b.toNatClampNeg) (kMo b.toNatClampNeg) ∧ gwi f (if kNu b.toNatClampNeg = 2 then kLe b.toNatClampNeg else 0) (if kNu b.toNatClampNeg = 2 then kMo b.toNatClampNeg else 0))) ∨ ((gwi a 1 100 ∧ gwi b 0 10 ∧ gwi d (kLe b.toNatClampNeg) (kMo b.toNatClampNeg) ∧ gwi f (if kNu b.toNatClampNeg = 2 then kLe b.toNatClampNeg else 0) (if kNu b.toNatClampNeg = 2 then kMo b.toNatClampNeg else 0)) ∧ x = "java/lang/UnsupportedOperationException" ∧ ¬ 0 < 24 - σ 4 2)) := by
  refine gs_of (fun _ h => h) (by decide) (Nat.le_of_ble_eq_true rfl) ?_
  intro p e s m args below meth c ls S hk hr hx hl hO
  have hl : lv_has ls 6 [(0, .ref (ad 0)), (1, .int a), (2, .int b), (3, .int d), (4, .int f)] := hl
  refine lv_iload_n S.1 S.2.1 d_PR_rule_0 rfl (lv_at hl 1 rfl) ?_
  refine lv_iconst (v := 1) S.1 S.2.1 d_PR_rule_1 (by decide) ?_
  refine lv_bipush (v := 100) S.1 S.2.1 d_PR_rule_2 (by decide) ?_
  refine g_SP (As := [.int a, .int 1, .int 100]) (rest := []) S hO (k_PR_needWithin l hst G ad σ τ a 1 100) cw_PR_81 g_cfC hl.1 (Nat.le_of_ble_eq_true rfl) ⟨(Nat.le_of_ble_eq_true rfl), (Nat.le_of_ble_eq_true rfl)⟩ ⟨(Nat.le_of_ble_eq_true rfl), (Nat.le_of_ble_eq_true rfl)⟩ d_PR_rule_4 (fun q x ce H h9 hO hce hcv hcl => im_x hx hk hO hce hcv hcl (Or.inl ⟨h9.1, fun z => h9.2 z.1⟩) (Nat.le_of_ble_eq_true rfl) (Nat.le_of_ble_eq_true rfl)) (fun v H v_1 hO => ?_)
  obtain ⟨rfl, h_4⟩ := v_1
  refine W.eq (g2 := F0 m 7 ls []) rfl ?_
  refine lv_iload_n S.1 S.2.1 d_PR_rule_7 rfl (lv_at hl 2 rfl) ?_
  refine lv_iconst (v := 0) S.1 S.2.1 d_PR_rule_8 (by decide) ?_
  refine va_gets S.1 S.2.1 hO.2.2.2.2.2.2.2.2.2.2.1 hO.SG S.2.2.2.1 (S.2.2.2.2 _ kf_PR_131) (fun _ h => h) d_PR_rule_9 ?_
  refine va_tlen S.1 S.2.1 hO.2.2.2.2.2.2.2.2.2.2.2.1 hO.SG (v := 11) (by decide) d_PR_rule_12 ?_
  refine lv_iconst (v := 1) S.1 S.2.1 d_PR_rule_13 (by decide) ?_
  refine lv_isub S.1 S.2.1 d_PR_rule_14 ?_
  refine g_SP (As := [.int b, .int 0, .int (11 - 1)]) (rest := []) S hO (k_PR_needWithin l hst G ad σ τ b 0 (11 - 1)) cw_PR_81 g_cfC hl.1 (Nat.le_of_ble_eq_true rfl) ⟨(Nat.le_of_ble_eq_true rfl), (Nat.le_of_ble_eq_true rfl)⟩ ⟨(Nat.le_of_ble_eq_true rfl), (Nat.le_of_ble_eq_true rfl)⟩ d_PR_rule_15 (fun q x ce H h9 hO hce hcv hcl => im_x hx hk hO hce hcv hcl (Or.inl ⟨h9.1, fun z => h9.2 z.2.1⟩) (Nat.le_of_ble_eq_true rfl) (Nat.le_of_ble_eq_true rfl)) (fun v H v_2 hO => ?_)
  obtain ⟨rfl, h_15⟩ := v_2
  refine W.eq (g2 := F0 m 18 ls []) rfl ?_
  obtain ⟨k, hk1, rfl⟩ := gwi_n (n := 10) (M := 11 - 1) (by decide) h_15
  refine va_gets S.1 S.2.1 hO.2.2.2.2.2.2.2.2.2.2.1 hO.SG S.2.2.2.1 (S.2.2.2.2 _ kf_PR_131) (fun _ h => h) d_PR_rule_18 ?_
  refine lv_iload_n S.1 S.2.1 d_PR_rule_21 rfl (lv_at hl 2 rfl) ?_
  refine vb_tq S.1 S.2.1 hO.2.2.2.2.2.2.2.2.2.2.2.1 hO.SG (vp_in_nI hk1 (by decide)) (v := .ref (ga G k)) (by rw [nI_clamp (by omega)]) d_PR_rule_22 ?_
  refine lv_astore (lv' := [(5, .ref (ga G k)), (0, .ref (ad 0)), (1, .int a), (2, .int (nI k)), (3, .int d), (4, .int f)]) S.1 S.2.1 d_PR_rule_23 hl (by decide) rfl (fun ls hl => ?_)
  refine lv_iload_n S.1 S.2.1 d_PR_rule_25 rfl (lv_at hl 4 rfl) ?_
  refine lv_aload S.1 S.2.1 d_PR_rule_26 (lv_at hl 0 rfl) ?_
  refine g_getk S hO (i := k) (by omega) (q := gkF.getD 2 ("", "", "", [])) (by decide) kf_PR_135 d_PR_rule_28 ?_
  refine lv_aload S.1 S.2.1 d_PR_rule_31 (lv_at hl 0 rfl) ?_
  refine g_getk S hO (i := k) (by omega) (q := gkF.getD 3 ("", "", "", [])) (by decide) kf_PR_140 d_PR_rule_33 ?_
  refine g_SP (As := [.int d, .int (kLe k), .int (kMo k)]) (rest := []) S hO (k_PR_needWithin l hst G ad σ τ d (kLe k) (kMo k)) cw_PR_81 g_cfC hl.1 (Nat.le_of_ble_eq_true rfl) ⟨(Nat.le_of_ble_eq_true rfl), (Nat.le_of_ble_eq_true rfl)⟩ ⟨(Nat.le_of_ble_eq_true rfl), (Nat.le_of_ble_eq_true rfl)⟩ d_PR_rule_36 (fun q x ce H h9 hO hce hcv hcl => im_x hx hk hO hce hcv hcl (Or.inl ⟨h9.1, fun z => h9.2 (by rw [nI_clamp (show k < 2 ^ 31 by omega)] at z; exact z.2.2.1)⟩) (Nat.le_of_ble_eq_true rfl) (Nat.le_of_ble_eq_true rfl)) (fun v H v_3 hO => ?_)
  obtain ⟨rfl, h_36⟩ := v_3
  refine W.eq (g2 := F0 m 39 ls []) rfl ?_
  refine lv_iload S.1 S.2.1 d_PR_rule_39 (lv_at hl 5 rfl) ?_
  refine lv_aload S.1 S.2.1 d_PR_rule_41 (lv_at hl 0 rfl) ?_
  refine g_VPK (As := []) (rest := [.int f]) S hO (i := k) (by omega) (k_KD_leastSecond l G ad σ τ k (by omega)) cw_PR_143 rfl hl.1 (Nat.le_of_ble_eq_true rfl) ⟨(Nat.le_of_ble_eq_true rfl), (Nat.le_of_ble_eq_true rfl)⟩ ⟨(Nat.le_of_ble_eq_true rfl), (Nat.le_of_ble_eq_true rfl)⟩ d_PR_rule_43 (fun q x ce H h9 => h9.elim) (fun v H v_4 hO => ?_)
  subst v_4
  refine W.eq (g2 := F0 m 46 ls [.int (if kNu k = 2 then kLe k else 0), .int f]) rfl ?_
  refine lv_aload S.1 S.2.1 d_PR_rule_46 (lv_at hl 0 rfl) ?_
  refine g_VPK (As := []) (rest := [.int (if kNu k = 2 then kLe k else 0), .int f]) S hO (i := k) (by omega) (k_KD_mostSecond l G ad σ τ k (by omega)) cw_PR_147 rfl hl.1 (Nat.le_of_ble_eq_true rfl) ⟨(Nat.le_of_ble_eq_true rfl), (Nat.le_of_ble_eq_true rfl)⟩ ⟨(Nat.le_of_ble_eq_true rfl), (Nat.le_of_ble_eq_true rfl)⟩ d_PR_rule_48 (fun q x ce H h9 => h9.elim) (fun v H v_5 hO => ?_)
  subst v_5
  refine W.eq (g2 := F0 m 51 ls [.int (if kNu k = 2 then kMo k else 0), .int (if kNu k = 2 then kLe k else 0), .int f]) rfl ?_
  refine g_SP (As := [.int f, .int (if kNu k = 2 then kLe k else 0), .int (if kNu k = 2 then kMo k else 0)]) (rest := []) S hO (k_PR_needWithin l hst G ad σ τ f (if kNu k = 2 then kLe k else 0) (if kNu k = 2 then kMo k else 0)) cw_PR_81 g_cfC hl.1 (Nat.le_of_ble_eq_true rfl) ⟨(Nat.le_of_ble_eq_true rfl), (Nat.le_of_ble_eq_true rfl)⟩ ⟨(Nat.le_of_ble_eq_true rfl), (Nat.le_of_ble_eq_true rfl)⟩ d_PR_rule_51 (fun q x ce H h9 hO hce hcv hcl => im_x hx hk hO hce hcv hcl (Or.inl ⟨h9.1, fun z => h9.2 (by rw [nI_clamp (show k < 2 ^ 31 by omega)] at z; exact z.2.2.2)⟩) (Nat.le_of_ble_eq_true rfl) (Nat.le_of_ble_eq_true rfl)) (fun v H v_6 hO => ?_)
  obtain ⟨rfl, h_51⟩ := v_6
  refine W.eq (g2 := F0 m 54 ls []) rfl ?_
  refine lv_aload_n S.1 S.2.1 d_PR_rule_54 rfl (lv_at hl 1 rfl) ?_
  refine g_get S hO fl_PR_30 (by decide) (sh_0 G ad _ _) (v := .ref (ad 4)) rfl d_PR_rule_55 ?_
  refine g_VP (As := []) (rest := []) S hO (k_RB_room l G ad σ τ) cw_PR_150 (by decide) (sh_4 G ad _ _) rfl rfl hl.1 (Nat.le_of_ble_eq_true rfl) ⟨(Nat.le_of_ble_eq_true rfl), (Nat.le_of_ble_eq_true rfl)⟩ ⟨(Nat.le_of_ble_eq_true rfl), (Nat.le_of_ble_eq_true rfl)⟩ d_PR_rule_58 (fun q x ce H h9 => h9.elim) (fun v H v_7 hO => ?_)
  subst v_7
  refine W.eq (g2 := F0 m 61 ls [.int (24 - σ 4 2)]) rfl ?_
  refine lv_if_gt (tgt := 74) S.1 S.2.1 d_PR_rule_61 (by decide) (fun c_61 => ?_) (fun c_61 => ?_)
  · skip
    have hn : n < 24 := by
      rcases Nat.lt_or_ge n 24 with q9 | q9
      · exact q9
      · exact absurd c_61 (by rw [hrc, show n = 24 by omega]; decide)
    refine lv_aload_n S.1 S.2.1 d_PR_rule_74 rfl (lv_at hl 1 rfl) ?_
    refine g_get S hO fl_PR_30 (by decide) (sh_0 G ad _ _) (v := .ref (ad 4)) rfl d_PR_rule_75 ?_
    refine lv_iload_n S.1 S.2.1 d_PR_rule_78 rfl (lv_at hl 2 rfl) ?_
    refine lv_aload S.1 S.2.1 d_PR_rule_79 (lv_at hl 0 rfl) ?_
    refine lv_iload_n S.1 S.2.1 d_PR_rule_81 rfl (lv_at hl 4 rfl) ?_
    refine lv_iload S.1 S.2.1 d_PR_rule_82 (lv_at hl 5 rfl) ?_
    refine g_VI (As := [.int a, .ref (ga G k), .int d, .int f]) (rest := []) S hO (fun _ h => h) (k_RB_addRule l G ad σ τ a k hk1 d f n hn hrc nc hcl hn2 hod hkd) cw_PR_155 (by decide) (sh_4 G ad _ _) rfl rfl hl.1 (Nat.le_of_ble_eq_true rfl) ⟨(Nat.le_of_ble_eq_true rfl), (Nat.le_of_ble_eq_true rfl)⟩ ⟨(Nat.le_of_ble_eq_true rfl), (Nat.le_of_ble_eq_true rfl)⟩ d_PR_rule_84 (fun q x ce H locs h9 => h9.elim) (fun v E1 H locs v_8 hO => ?_)
    obtain ⟨s_9, t_10, rfl, rfl, hs_9, ht_10⟩ := v_8
    rw [ht_10] at hO
    refine W.eq (g2 := F0 m 87 ls [.int (nI n)]) rfl ?_
    subst hs_9
    exact im_i S hk hr hO ⟨rfl, by rw [nI_clamp (show k < 2 ^ 31 by omega)]; exact ⟨h_4, h_15, h_36, h_51⟩, hn, rfl, rfl⟩ (Nat.le_of_ble_eq_true rfl) (Nat.le_of_ble_eq_true rfl) d_PR_rule_87
  · skip
    exact g_throwN S hst hO xw_UOE (hO.2.2.2.2.2.2.2.2.1 1 (by decide)) hl.1 hx hk (Nat.le_of_ble_eq_true rfl) (Nat.le_of_ble_eq_true rfl) ⟨(Nat.le_of_ble_eq_true rfl), (Nat.le_of_ble_eq_true rfl)⟩ (Nat.le_of_ble_eq_true rfl) (Nat.le_of_ble_eq_true rfl) (fun t ht => ⟨Or.inr ⟨by rw [nI_clamp (show k < 2 ^ 31 by omega)]; exact ⟨h_4, h_15, h_36, h_51⟩, rfl, c_61⟩, hO.2.1.kept (fun k q hk => ht q.1 ((hO.2.1 k q hk).lt))⟩) d_PR_rule_64 d_PR_rule_67 d_PR_rule_68 d_PR_rule_70 d_PR_rule_73
