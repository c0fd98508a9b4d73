/-! The reference reads a line. Written by wip/tools/m40.py. -/
section PLM
variable {T : Nat → Int32} {N p : Nat}
theorem pnrm_e {e : Nat} {lo hi : Int32} (h : pnm T N p = .error e) : pnr T N p lo hi = .error e := by simp only [pnr, h]
theorem pnrm_n {q : Nat} {x lo hi : Int32} (h : pnm T N p = .ok (x, q)) (h2 : inB x lo hi = false) : pnr T N p lo hi = .error p := by simp [pnr, h, h2]
theorem pnrm_y {q : Nat} {x lo hi : Int32} (h : pnm T N p = .ok (x, q)) (h2 : inB x lo hi = true) : pnr T N p lo hi = .ok (x, q) := by simp [pnr, h, h2]
theorem pdl_b (f d : Nat) (v : Int32) (e : Nat) (h : pdl T N p f d v = .error e) : e ≤ p + d + f := by
  induction f generalizing d v with
  | zero => simp [pdl] at h
  | succ f ih =>
    unfold pdl at h
    split at h
    · split at h
      · simp at h; omega
      · have := ih _ _ h; omega
    · simp at h
theorem pnm_b {e : Nat} (h : pnm T N p = .error e) : e ≤ p + 7 := by
  unfold pnm at h
  cases h1 : pdl T N p 7 0 0 with
  | error e1 => have h2 := pdl_b _ _ _ _ h1; simp [h1] at h; omega
  | ok r =>
    obtain ⟨v, d⟩ := r
    simp only [h1] at h
    split at h <;> simp at h
    omega
theorem pnm_d {q : Nat} {x : Int32} (h : pnm T N p = .ok (x, q)) : q ≤ p + 7 := by
  unfold pnm at h
  cases h1 : pdl T N p 7 0 0 with
  | error e1 => simp [h1] at h
  | ok r =>
    obtain ⟨v, d⟩ := r
    have h2 := pdl_d _ _ _ _ _ h1
    simp only [h1] at h
    split at h <;> simp at h
    omega
theorem pkb_o {k q : Nat} (h : pkb T N p = .ok (k, q)) : pkd T N p = .ok (k, q) ∧ nxS T N q = 32 := by
  unfold pkb at h
  cases h1 : pkd T N p with
  | error e => simp [h1] at h
  | ok r =>
    obtain ⟨k1, q1⟩ := r
    simp only [h1] at h
    split at h
    · simp only [Except.ok.injEq, Prod.mk.injEq] at h
      obtain ⟨rfl, rfl⟩ := h
      exact ⟨rfl, by assumption⟩
    · simp at h
theorem pln_ke {q1 e : Nat} {rk : Int32} (h1 : pnr T N p 1 100 = .ok (rk, q1)) (h2 : nxS T N q1 = 32) (h : pkb T N (q1 + 1) = .error e) : pln T N p = .error e := by
  unfold pkb at h
  cases h3 : pkd T N (q1 + 1) with
  | error e1 =>
    simp only [h3] at h
    simp only [pln, h1, if_pos h2, h3]
    simpa using h
  | ok r =>
    obtain ⟨k, q2⟩ := r
    simp only [h3] at h
    split at h
    · simp at h
    · rename_i z
      simp only [pln, h1, if_pos h2, h3, if_neg z]
      simpa using h
end PLM
theorem isA_k {k : Nat} {a : Int32} (hk : k < 11) : isAB (nI k) a = inB a (kLe k) (kMo k) := by
  have h : k = 0 ∨ k = 1 ∨ k = 2 ∨ k = 3 ∨ k = 4 ∨ k = 5 ∨ k = 6 ∨ k = 7 ∨ k = 8 ∨ k = 9 ∨ k = 10 := by omega
  rcases h with h | h | h | h | h | h | h | h | h | h | h <;> subst h <;> rfl
theorem two_k {k : Nat} (hk : k < 11) : (twB (nI k) = true → kNu k = 2 ∧ kLe k = 0 ∧ kMo k = 7) ∧ (twB (nI k) = false → ¬ kNu k = 2) := by
  have h : ∀ k, k < 11 → (twB (nI k) = true → kNu k = 2 ∧ kLe k = 0 ∧ kMo k = 7) ∧ (twB (nI k) = false → ¬ kNu k = 2) := by decide +kernel
  exact h k hk
def lnP (mk : Bool) (n : Nat) (r : Except Nat (RUL × Nat)) (s1 σ : Nat → Nat → Int32) : Prop := ∃ s, MXF s σ ∧ (match r with
  | .error e => s1 = s ∧ s 140 25 = nI e
  | .ok (x, q) => s 140 25 = (-1) ∧ s 140 24 = nI q ∧ s1 = if mk = true then mCm s n x.1 (nI x.2.1) x.2.2.1 x.2.2.2 else s)
theorem lnP_e {mk : Bool} {n e : Nat} {r : Except Nat (RUL × Nat)} {s σ : Nat → Nat → Int32} (h : r = .error e) (h1 : MXF s σ) (h2 : s 140 25 = nI e) : lnP mk n r s σ := by
  subst h
  exact ⟨s, h1, rfl, h2⟩
theorem lnP_o {mk : Bool} {n q k : Nat} {x1 x3 x4 : Int32} {r : Except Nat (RUL × Nat)} {s s1 σ : Nat → Nat → Int32} (h : r = .ok ((x1, k, x3, x4), q)) (h1 : MXF s σ) (h2 : s 140 25 = (-1)) (h3 : s 140 24 = nI q) (h4 : s1 = if mk = true then mCm s n x1 (nI k) x3 x4 else s) : lnP mk n r s1 σ := by
  subst h
  exact ⟨s, h1, h2, h3, h4⟩
theorem MXF.up2' {s σ : Nat → Nat → Int32} (h : MXF s σ) {j i : Nat} {v w : Int32} (hj : j = 24 ∨ j = 25 ∨ j = 26) (hi : i = 24 ∨ i = 25 ∨ i = 26) : MXF (up2 (up2 s 140 j v) 140 i w) σ := (h.up hj).up hi
set_option maxHeartbeats 4000000 in
set_option maxRecDepth 100000 in
theorem k_MD_line (l : Launch) (G : gP) (ad : Nat → Nat) (σ : Nat → Nat → Int32) (τ : Nat → Nat → Int64) (mk : Bool) (n : Nat) (hmk : mk = true → n < 24) (hmr : σ 140 5 = nI n) (nc : Nat) (hmc : σ 140 18 = nI nc) (hn2 : 2 * nc ≤ n * (n - 1)) (N : Nat) (hN : σ 140 22 = nI N) (hN4 : N ≤ 400) (pp : Nat) (hp : σ 140 24 = nI pp) (hp2 : pp < 1000) (hw : σ 140 25 = (-1)) (hNM : NMH σ) : gim l y_MD_line c_MD_line 6 none { frames := 3, cells := 0, slots := 0, locals := 63 } G ad σ τ [.ref (ad 140), .int (bI mk)] 0 0 (fun v σ1 τ1 => v = none ∧ lnP mk n (pln (σ 156) N pp) σ1 σ ∧ τ1 = τ) (fun _ => False) := by
  refine gs_of (fun _ h => h) (by decide) (Nat.le_of_ble_eq_true rfl) ?_
  intro p e s m args below meth c ls S hk hr hx hl hO
  have hl : lv_has ls 6 [(0, .ref (ad 140)), (1, .int (bI mk))] := hl
  refine lv_aload_n S.1 S.2.1 d_MD_line_0 rfl (lv_at hl 0 rfl) ?_
  refine g_VI (As := []) (rest := []) S hO (fun _ h => h) (k_MD_digits l G ad σ τ N hN hN4 pp hp (by omega) hw) cw_MD_143 (by decide) (sh_140 G ad _ _) rfl rfl hl.1 (Nat.le_of_ble_eq_true rfl) ⟨(Nat.le_of_ble_eq_true rfl), (Nat.le_of_ble_eq_true rfl)⟩ ⟨(Nat.le_of_ble_eq_true rfl), (Nat.le_of_ble_eq_true rfl)⟩ d_MD_line_1 (fun q x ce H locs h9 => h9.elim) (fun v E1 H locs v_1 hO => ?_)
  obtain ⟨s1, t_2, rfl, rfl, hM_s1, ht_2, hP_1⟩ := v_1
  rw [ht_2] at hO
  rw [show σ 156 = σ 156 from MXF.T (σ := σ) (MXF.refl σ)] at hP_1
  have hL_s1 : MXF s1 σ := MXF.trans (MXF.refl σ) hM_s1
  have hN_s1 : s1 140 22 = nI N := by rw [hL_s1 140 22 (by omega)]; exact hN
  rcases hr_1 : pnm (σ 156) N pp with e_1 | ⟨x1, q1⟩
  · skip
    rw [hr_1] at hP_1
    have h25_s1 : s1 140 25 = nI e_1 := hP_1
    have he_1 := pnm_b hr_1
    refine W.eq (g2 := F0 m 4 ls [.int (nI pp)]) rfl ?_
    have hr1 : pnr (σ 156) N pp 1 100 = .error e_1 := pnrm_e hr_1
    refine lv_istore_n (lv' := [(2, .int (nI pp)), (0, .ref (ad 140)), (1, .int (bI mk))]) S.1 S.2.1 d_MD_line_4 rfl hl (by decide) rfl (fun ls hl => ?_)
    refine lv_aload_n S.1 S.2.1 d_MD_line_5 rfl (lv_at hl 1 rfl) ?_
    refine g_get S hO fl_MD_128 (by decide) (sh_140 G ad _ _) (v := .int (s1 140 26)) rfl d_MD_line_6 ?_
    refine lv_istore_n (lv' := [(3, .int (s1 140 26)), (2, .int (nI pp)), (0, .ref (ad 140)), (1, .int (bI mk))]) S.1 S.2.1 d_MD_line_9 rfl hl (by decide) rfl (fun ls hl => ?_)
    refine lv_aload_n S.1 S.2.1 d_MD_line_10 rfl (lv_at hl 2 rfl) ?_
    refine g_get S hO fl_MD_117 (by decide) (sh_140 G ad _ _) (v := .int (s1 140 25)) rfl d_MD_line_11 ?_
    refine W.eq (g2 := F0 m 14 ls [.int (nI e_1)]) (by rw [show s1 140 25 = nI e_1 from h25_s1]) ?_
    refine lv_if_ge (tgt := 32) S.1 S.2.1 d_MD_line_14 (by decide) (fun c_14 => ?_) (fun c_14 => ?_)
    · skip
      refine lv_aload_n S.1 S.2.1 d_MD_line_32 rfl (lv_at hl 2 rfl) ?_
      refine g_get S hO fl_MD_117 (by decide) (sh_140 G ad _ _) (v := .int (s1 140 25)) rfl d_MD_line_33 ?_
      refine W.eq (g2 := F0 m 36 ls [.int (nI e_1)]) (by rw [show s1 140 25 = nI e_1 from h25_s1]) ?_
      refine lv_if_ge (tgt := 45) S.1 S.2.1 d_MD_line_36 (by decide) (fun c_36 => ?_) (fun c_36 => ?_)
      · skip
        refine lv_aload_n S.1 S.2.1 d_MD_line_45 rfl (lv_at hl 2 rfl) ?_
        refine g_get S hO fl_MD_117 (by decide) (sh_140 G ad _ _) (v := .int (s1 140 25)) rfl d_MD_line_46 ?_
        refine W.eq (g2 := F0 m 49 ls [.int (nI e_1)]) (by rw [show s1 140 25 = nI e_1 from h25_s1]) ?_
        refine lv_if_ge (tgt := 59) S.1 S.2.1 d_MD_line_49 (by decide) (fun c_49 => ?_) (fun c_49 => ?_)
        · skip
          refine lv_iconst (v := 0) S.1 S.2.1 d_MD_line_59 (by decide) ?_
          refine lv_istore (lv' := [(4, .int 0), (3, .int (s1 140 26)), (2, .int (nI pp)), (0, .ref (ad 140)), (1, .int (bI mk))]) S.1 S.2.1 d_MD_line_60 hl (by decide) rfl (fun ls hl => ?_)
          refine lv_aload_n S.1 S.2.1 d_MD_line_62 rfl (lv_at hl 3 rfl) ?_
          refine g_get S hO fl_MD_117 (by decide) (sh_140 G ad _ _) (v := .int (s1 140 25)) rfl d_MD_line_63 ?_
          refine W.eq (g2 := F0 m 66 ls [.int (nI e_1)]) (by rw [show s1 140 25 = nI e_1 from h25_s1]) ?_
          refine lv_if_lt (tgt := 70) S.1 S.2.1 d_MD_line_66 (by decide) (fun c_66 => ?_) (fun c_66 => ?_)
          · skip
            exact absurd c_66 (nI_pos (by omega))
          · skip
            exact im_v S hk hr hO ⟨rfl, lnP_e (e := e_1) (by simp only [pln, hr1]) hL_s1 h25_s1, rfl⟩ (Nat.le_of_ble_eq_true rfl) (Nat.le_of_ble_eq_true rfl) d_MD_line_69
        · skip
          exact absurd (nI_pos' (by omega)) c_49
      · skip
        exact absurd (nI_pos' (by omega)) c_36
    · skip
      exact absurd (nI_pos' (by omega)) c_14
  · skip
    rw [hr_1] at hP_1
    obtain ⟨h25_s1, h24_s1, h26_s1⟩ := hP_1
    have he_1 := pnm_d hr_1
    refine W.eq (g2 := F0 m 4 ls [.int (nI pp)]) rfl ?_
    refine lv_istore_n (lv' := [(2, .int (nI pp)), (0, .ref (ad 140)), (1, .int (bI mk))]) S.1 S.2.1 d_MD_line_4 rfl hl (by decide) rfl (fun ls hl => ?_)
    refine lv_aload_n S.1 S.2.1 d_MD_line_5 rfl (lv_at hl 1 rfl) ?_
    refine g_get S hO fl_MD_128 (by decide) (sh_140 G ad _ _) (v := .int (s1 140 26)) rfl d_MD_line_6 ?_
    refine W.eq (g2 := F0 m 9 ls [.int x1]) (by rw [show s1 140 26 = x1 from h26_s1]) ?_
    refine lv_istore_n (lv' := [(3, .int x1), (2, .int (nI pp)), (0, .ref (ad 140)), (1, .int (bI mk))]) S.1 S.2.1 d_MD_line_9 rfl hl (by decide) rfl (fun ls hl => ?_)
    refine lv_aload_n S.1 S.2.1 d_MD_line_10 rfl (lv_at hl 2 rfl) ?_
    refine g_get S hO fl_MD_117 (by decide) (sh_140 G ad _ _) (v := .int (s1 140 25)) rfl d_MD_line_11 ?_
    refine W.eq (g2 := F0 m 14 ls [.int (-1)]) (by rw [show s1 140 25 = (-1) from h25_s1]) ?_
    refine lv_if_ge (tgt := 32) S.1 S.2.1 d_MD_line_14 (by decide) (fun c_14 => ?_) (fun c_14 => ?_)
    · skip
      exact absurd c_14 (by decide)
    · skip
      refine lv_iload_n S.1 S.2.1 d_MD_line_17 rfl (lv_at hl 0 rfl) ?_
      refine lv_iconst (v := 1) S.1 S.2.1 d_MD_line_18 (by decide) ?_
      refine lv_bipush (v := 100) S.1 S.2.1 d_MD_line_19 (by decide) ?_
      refine g_SP (As := [.int x1, .int 1, .int 100]) (rest := []) S hO (k_MD_in l G ad s1 τ x1 1 100) cw_MD_67 g_cfC hl.1 (Nat.le_of_ble_eq_true rfl) ⟨(Nat.le_of_ble_eq_true rfl), (Nat.le_of_ble_eq_true rfl)⟩ ⟨(Nat.le_of_ble_eq_true rfl), (Nat.le_of_ble_eq_true rfl)⟩ d_MD_line_21 (fun q x ce H h9 => h9.elim) (fun v H v_3 hO => ?_)
      subst v_3
      refine W.eq (g2 := F0 m 24 ls [.int (bI (inB x1 1 100))]) rfl ?_
      refine lv_if_ne (tgt := 32) S.1 S.2.1 d_MD_line_24 (by decide) (fun c_24 => ?_) (fun c_24 => ?_)
      · skip
        have q_24 : (inB x1 1 100) = true := b_1 c_24
        have hr1 := pnrm_y hr_1 q_24
        refine lv_aload_n S.1 S.2.1 d_MD_line_32 rfl (lv_at hl 2 rfl) ?_
        refine g_get S hO fl_MD_117 (by decide) (sh_140 G ad _ _) (v := .int (s1 140 25)) rfl d_MD_line_33 ?_
        refine W.eq (g2 := F0 m 36 ls [.int (-1)]) (by rw [show s1 140 25 = (-1) from h25_s1]) ?_
        refine lv_if_ge (tgt := 45) S.1 S.2.1 d_MD_line_36 (by decide) (fun c_36 => ?_) (fun c_36 => ?_)
        · skip
          exact absurd c_36 (by decide)
        · skip
          refine lv_aload_n S.1 S.2.1 d_MD_line_39 rfl (lv_at hl 2 rfl) ?_
          refine lv_bipush (v := 32) S.1 S.2.1 d_MD_line_40 (by decide) ?_
          refine g_VI (As := [.int 32]) (rest := []) S hO (fun _ h => h) (k_MD_pass l G ad s1 τ 32 N hN_s1 hN4 q1 h24_s1 (by omega) h25_s1) cw_MD_146 (by decide) (sh_140 G ad _ _) rfl rfl hl.1 (Nat.le_of_ble_eq_true rfl) ⟨(Nat.le_of_ble_eq_true rfl), (Nat.le_of_ble_eq_true rfl)⟩ ⟨(Nat.le_of_ble_eq_true rfl), (Nat.le_of_ble_eq_true rfl)⟩ d_MD_line_42 (fun q x ce H locs h9 => h9.elim) (fun v E1 H locs v_4 hO => ?_)
          obtain ⟨s2, t_5, rfl, rfl, hs2, ht_5⟩ := v_4
          rw [ht_5] at hO
          have eT_42 : s1 156 = σ 156 := MXF.T (σ := σ) hL_s1
          rw [psS, eT_42] at hs2
          by_cases b_42 : nxS (σ 156) N q1 = 32
          · skip
            rw [if_pos b_42] at hs2
            refine W.eq (g2 := F0 m 45 ls []) rfl ?_
            refine lv_aload_n S.1 S.2.1 d_MD_line_45 rfl (lv_at hl 2 rfl) ?_
            refine g_get S hO fl_MD_117 (by decide) (sh_140 G ad _ _) (v := .int (s2 140 25)) rfl d_MD_line_46 ?_
            refine W.eq (g2 := F0 m 49 ls [.int (-1)]) (by rw [show s2 140 25 = (-1) from (by simp [hs2, up2_at, h25_s1])]) ?_
            refine lv_if_ge (tgt := 59) S.1 S.2.1 d_MD_line_49 (by decide) (fun c_49 => ?_) (fun c_49 => ?_)
            · skip
              exact absurd c_49 (by decide)
            · skip
              refine lv_aload_n S.1 S.2.1 d_MD_line_52 rfl (lv_at hl 2 rfl) ?_
              refine g_VI (As := []) (rest := []) S hO (fun _ h => h) (k_MD_kind l G ad s2 τ N (by simp [hs2, up2_at, hN_s1]) hN4 (q1 + 1) (by simp [hs2, up2_at]) (by omega) (by simp [hs2, up2_at, h25_s1]) (fun k j h1 h2 => by rw [(show MXF s2 σ from (by rw [hs2]; exact MXF.up hL_s1 (by omega))) 157 (8 * k + j) (by omega)]; exact hNM k j h1 h2)) cw_MD_149 (by decide) (sh_140 G ad _ _) rfl rfl hl.1 (Nat.le_of_ble_eq_true rfl) ⟨(Nat.le_of_ble_eq_true rfl), (Nat.le_of_ble_eq_true rfl)⟩ ⟨(Nat.le_of_ble_eq_true rfl), (Nat.le_of_ble_eq_true rfl)⟩ d_MD_line_53 (fun q x ce H locs h9 => h9.elim) (fun v E1 H locs v_6 hO => ?_)
              obtain ⟨s3, t_7, rfl, hvv, hs3, ht_7⟩ := v_6
              rw [ht_7] at hO
              have eT_53 : s2 156 = σ 156 := MXF.T (σ := σ) (by rw [hs2]; exact MXF.up hL_s1 (by omega))
              have hb6 := bsN_6 (T := σ 156) (N := N) (p := q1 + 1) 11 (by omega)
              rcases hw_53 : lsf (whB (s2 156) N (q1 + 1)) 11 with _ | kf
              · skip
                rw [(mkS_n hw_53).1, eT_53] at hs3
                rw [(mkS_n hw_53).2] at hvv
                subst hvv
                rw [eT_53] at hw_53
                have hpk := pkb_wh.1 hw_53
                refine W.eq (g2 := F0 m 56 ls [.int 0]) rfl ?_
                refine lv_goto (tgt := 60) S.1 S.2.1 d_MD_line_56 (by decide) ?_
                refine lv_istore (lv' := [(4, .int 0), (3, .int x1), (2, .int (nI pp)), (0, .ref (ad 140)), (1, .int (bI mk))]) S.1 S.2.1 d_MD_line_60 hl (by decide) rfl (fun ls hl => ?_)
                refine lv_aload_n S.1 S.2.1 d_MD_line_62 rfl (lv_at hl 3 rfl) ?_
                refine g_get S hO fl_MD_117 (by decide) (sh_140 G ad _ _) (v := .int (s3 140 25)) rfl d_MD_line_63 ?_
                refine W.eq (g2 := F0 m 66 ls [.int (nI (q1 + 1 + bsN (σ 156) N (q1 + 1) 11))]) (by rw [show s3 140 25 = nI (q1 + 1 + bsN (σ 156) N (q1 + 1) 11) from (by simp [hs3, hs2, up2_at])]) ?_
                refine lv_if_lt (tgt := 70) S.1 S.2.1 d_MD_line_66 (by decide) (fun c_66 => ?_) (fun c_66 => ?_)
                · skip
                  exact absurd c_66 (nI_pos (by omega))
                · skip
                  exact im_v S hk hr hO ⟨rfl, lnP_e (pln_ke hr1 b_42 hpk) (by rw [hs3]; exact MXF.up (by rw [hs2]; exact MXF.up hL_s1 (by omega)) (by omega)) (by simp [hs3, hs2, up2_at]), rfl⟩ (Nat.le_of_ble_eq_true rfl) (Nat.le_of_ble_eq_true rfl) d_MD_line_69
              · skip
                rw [(mkS_s hw_53).1] at hs3
                rw [(mkS_s hw_53).2] at hvv
                subst hvv
                rw [eT_53] at hw_53
                have hpk := pkb_o (pkb_wh.2 kf hw_53)
                have hk11 := (lsf_lt _ _ hw_53).1
                have hg6 := (gkl_6 hk11).1
                refine W.eq (g2 := F0 m 56 ls [.int (nI kf)]) rfl ?_
                refine lv_goto (tgt := 60) S.1 S.2.1 d_MD_line_56 (by decide) ?_
                refine lv_istore (lv' := [(4, .int (nI kf)), (3, .int x1), (2, .int (nI pp)), (0, .ref (ad 140)), (1, .int (bI mk))]) S.1 S.2.1 d_MD_line_60 hl (by decide) rfl (fun ls hl => ?_)
                refine lv_aload_n S.1 S.2.1 d_MD_line_62 rfl (lv_at hl 3 rfl) ?_
                refine g_get S hO fl_MD_117 (by decide) (sh_140 G ad _ _) (v := .int (s3 140 25)) rfl d_MD_line_63 ?_
                refine W.eq (g2 := F0 m 66 ls [.int (-1)]) (by rw [show s3 140 25 = (-1) from (by simp [hs3, hs2, up2_at, h25_s1])]) ?_
                refine lv_if_lt (tgt := 70) S.1 S.2.1 d_MD_line_66 (by decide) (fun c_66 => ?_) (fun c_66 => ?_)
                · skip
                  refine lv_aload_n S.1 S.2.1 d_MD_line_70 rfl (lv_at hl 3 rfl) ?_
                  refine lv_bipush (v := 32) S.1 S.2.1 d_MD_line_71 (by decide) ?_
                  refine g_VI (As := [.int 32]) (rest := []) S hO (fun _ h => h) (k_MD_pass l G ad s3 τ 32 N (by simp [hs3, hs2, up2_at, hN_s1]) hN4 (q1 + 1 + gkl.getD kf 0) (by simp [hs3, hs2, up2_at]) (by omega) (by simp [hs3, hs2, up2_at, h25_s1])) cw_MD_146 (by decide) (sh_140 G ad _ _) rfl rfl hl.1 (Nat.le_of_ble_eq_true rfl) ⟨(Nat.le_of_ble_eq_true rfl), (Nat.le_of_ble_eq_true rfl)⟩ ⟨(Nat.le_of_ble_eq_true rfl), (Nat.le_of_ble_eq_true rfl)⟩ d_MD_line_73 (fun q x ce H locs h9 => h9.elim) (fun v E1 H locs v_8 hO => ?_)
                  obtain ⟨s4, t_9, rfl, rfl, hs4, ht_9⟩ := v_8
                  rw [ht_9] at hO
                  have eT_73 : s3 156 = σ 156 := MXF.T (σ := σ) (by rw [hs3]; exact MXF.up (by rw [hs2]; exact MXF.up hL_s1 (by omega)) (by omega))
                  rw [psS, eT_73] at hs4
                  by_cases b_73 : nxS (σ 156) N (q1 + 1 + gkl.getD kf 0) = 32
                  · skip
                    rw [if_pos b_73] at hs4
                    refine W.eq (g2 := F0 m 76 ls []) rfl ?_
                    refine lv_aload_n S.1 S.2.1 d_MD_line_76 rfl (lv_at hl 3 rfl) ?_
                    refine g_VI (As := []) (rest := []) S hO (fun _ h => h) (k_MD_digits l G ad s4 τ N (by simp [hs4, hs3, hs2, up2_at, hN_s1]) hN4 (q1 + 1 + gkl.getD kf 0 + 1) (by simp [hs4, hs3, hs2, up2_at]) (by omega) (by simp [hs4, hs3, hs2, up2_at, h25_s1])) cw_MD_143 (by decide) (sh_140 G ad _ _) rfl rfl hl.1 (Nat.le_of_ble_eq_true rfl) ⟨(Nat.le_of_ble_eq_true rfl), (Nat.le_of_ble_eq_true rfl)⟩ ⟨(Nat.le_of_ble_eq_true rfl), (Nat.le_of_ble_eq_true rfl)⟩ d_MD_line_77 (fun q x ce H locs h9 => h9.elim) (fun v E1 H locs v_10 hO => ?_)
                    obtain ⟨s5, t_11, rfl, rfl, hM_s5, ht_11, hP_77⟩ := v_10
                    rw [ht_11] at hO
                    rw [show s4 156 = σ 156 from MXF.T (σ := σ) (by rw [hs4]; exact MXF.up (by rw [hs3]; exact MXF.up (by rw [hs2]; exact MXF.up hL_s1 (by omega)) (by omega)) (by omega))] at hP_77
                    have hL_s5 : MXF s5 σ := MXF.trans (by rw [hs4]; exact MXF.up (by rw [hs3]; exact MXF.up (by rw [hs2]; exact MXF.up hL_s1 (by omega)) (by omega)) (by omega)) hM_s5
                    have hN_s5 : s5 140 22 = nI N := by rw [hL_s5 140 22 (by omega)]; exact hN
                    rcases hr_77 : pnm (σ 156) N (q1 + 1 + gkl.getD kf 0 + 1) with e_77 | ⟨x3, q3⟩
                    · skip
                      rw [hr_77] at hP_77
                      have h25_s5 : s5 140 25 = nI e_77 := hP_77
                      have he_77 := pnm_b hr_77
                      refine W.eq (g2 := F0 m 80 ls [.int (nI (q1 + 1 + gkl.getD kf 0 + 1))]) rfl ?_
                      have hr3 : pnr (σ 156) N (q1 + 1 + gkl.getD kf 0 + 1) (kLe kf) (kMo kf) = .error e_77 := pnrm_e hr_77
                      refine lv_istore_n (lv' := [(2, .int (nI (q1 + 1 + gkl.getD kf 0 + 1))), (4, .int (nI kf)), (3, .int x1), (0, .ref (ad 140)), (1, .int (bI mk))]) S.1 S.2.1 d_MD_line_80 rfl hl (by decide) rfl (fun ls hl => ?_)
                      refine lv_aload_n S.1 S.2.1 d_MD_line_81 rfl (lv_at hl 3 rfl) ?_
                      refine g_get S hO fl_MD_128 (by decide) (sh_140 G ad _ _) (v := .int (s5 140 26)) rfl d_MD_line_82 ?_
                      refine lv_istore (lv' := [(5, .int (s5 140 26)), (2, .int (nI (q1 + 1 + gkl.getD kf 0 + 1))), (4, .int (nI kf)), (3, .int x1), (0, .ref (ad 140)), (1, .int (bI mk))]) S.1 S.2.1 d_MD_line_85 hl (by decide) rfl (fun ls hl => ?_)
                      refine lv_aload_n S.1 S.2.1 d_MD_line_87 rfl (lv_at hl 4 rfl) ?_
                      refine g_get S hO fl_MD_117 (by decide) (sh_140 G ad _ _) (v := .int (s5 140 25)) rfl d_MD_line_88 ?_
                      refine W.eq (g2 := F0 m 91 ls [.int (nI e_77)]) (by rw [show s5 140 25 = nI e_77 from h25_s5]) ?_
                      refine lv_if_ge (tgt := 109) S.1 S.2.1 d_MD_line_91 (by decide) (fun c_91 => ?_) (fun c_91 => ?_)
                      · skip
                        refine lv_aload_n S.1 S.2.1 d_MD_line_109 rfl (lv_at hl 4 rfl) ?_
                        refine g_get S hO fl_MD_117 (by decide) (sh_140 G ad _ _) (v := .int (s5 140 25)) rfl d_MD_line_110 ?_
                        refine W.eq (g2 := F0 m 113 ls [.int (nI e_77)]) (by rw [show s5 140 25 = nI e_77 from h25_s5]) ?_
                        refine lv_if_ge (tgt := 174) S.1 S.2.1 d_MD_line_113 (by decide) (fun c_113 => ?_) (fun c_113 => ?_)
                        · skip
                          refine lv_aload_n S.1 S.2.1 d_MD_line_174 rfl (lv_at hl 4 rfl) ?_
                          refine g_get S hO fl_MD_117 (by decide) (sh_140 G ad _ _) (v := .int (s5 140 25)) rfl d_MD_line_175 ?_
                          refine W.eq (g2 := F0 m 178 ls [.int (nI e_77)]) (by rw [show s5 140 25 = nI e_77 from h25_s5]) ?_
                          refine lv_if_ge (tgt := 198) S.1 S.2.1 d_MD_line_178 (by decide) (fun c_178 => ?_) (fun c_178 => ?_)
                          · skip
                            refine lv_iload_n S.1 S.2.1 d_MD_line_198 rfl (lv_at hl 5 rfl) ?_
                            refine lv_if_eq (tgt := 234) S.1 S.2.1 d_MD_line_199 (by decide) (fun c_199 => ?_) (fun c_199 => ?_)
                            · skip
                              have q_199 : mk = false := b_0 c_199
                              exact im_v S hk hr hO ⟨rfl, lnP_e (e := e_77) (by simp only [pln, hr1, if_pos b_42, hpk.1, if_pos hpk.2, hr3]) hL_s5 h25_s5, rfl⟩ (Nat.le_of_ble_eq_true rfl) (Nat.le_of_ble_eq_true rfl) d_MD_line_234
                            · skip
                              have q_199 : mk = true := b_1 c_199
                              refine lv_aload_n S.1 S.2.1 d_MD_line_202 rfl (lv_at hl 4 rfl) ?_
                              refine g_get S hO fl_MD_117 (by decide) (sh_140 G ad _ _) (v := .int (s5 140 25)) rfl d_MD_line_203 ?_
                              refine W.eq (g2 := F0 m 206 ls [.int (nI e_77)]) (by rw [show s5 140 25 = nI e_77 from h25_s5]) ?_
                              refine lv_if_ge (tgt := 234) S.1 S.2.1 d_MD_line_206 (by decide) (fun c_206 => ?_) (fun c_206 => ?_)
                              · skip
                                exact im_v S hk hr hO ⟨rfl, lnP_e (e := e_77) (by simp only [pln, hr1, if_pos b_42, hpk.1, if_pos hpk.2, hr3]) hL_s5 h25_s5, rfl⟩ (Nat.le_of_ble_eq_true rfl) (Nat.le_of_ble_eq_true rfl) d_MD_line_234
                              · skip
                                exact absurd (nI_pos' (by omega)) c_206
                          · skip
                            exact absurd (nI_pos' (by omega)) c_178
                        · skip
                          exact absurd (nI_pos' (by omega)) c_113
                      · skip
                        exact absurd (nI_pos' (by omega)) c_91
                    · skip
                      rw [hr_77] at hP_77
                      obtain ⟨h25_s5, h24_s5, h26_s5⟩ := hP_77
                      have he_77 := pnm_d hr_77
                      refine W.eq (g2 := F0 m 80 ls [.int (nI (q1 + 1 + gkl.getD kf 0 + 1))]) rfl ?_
                      refine lv_istore_n (lv' := [(2, .int (nI (q1 + 1 + gkl.getD kf 0 + 1))), (4, .int (nI kf)), (3, .int x1), (0, .ref (ad 140)), (1, .int (bI mk))]) S.1 S.2.1 d_MD_line_80 rfl hl (by decide) rfl (fun ls hl => ?_)
                      refine lv_aload_n S.1 S.2.1 d_MD_line_81 rfl (lv_at hl 3 rfl) ?_
                      refine g_get S hO fl_MD_128 (by decide) (sh_140 G ad _ _) (v := .int (s5 140 26)) rfl d_MD_line_82 ?_
                      refine W.eq (g2 := F0 m 85 ls [.int x3]) (by rw [show s5 140 26 = x3 from h26_s5]) ?_
                      refine lv_istore (lv' := [(5, .int x3), (2, .int (nI (q1 + 1 + gkl.getD kf 0 + 1))), (4, .int (nI kf)), (3, .int x1), (0, .ref (ad 140)), (1, .int (bI mk))]) S.1 S.2.1 d_MD_line_85 hl (by decide) rfl (fun ls hl => ?_)
                      refine lv_aload_n S.1 S.2.1 d_MD_line_87 rfl (lv_at hl 4 rfl) ?_
                      refine g_get S hO fl_MD_117 (by decide) (sh_140 G ad _ _) (v := .int (s5 140 25)) rfl d_MD_line_88 ?_
                      refine W.eq (g2 := F0 m 91 ls [.int (-1)]) (by rw [show s5 140 25 = (-1) from h25_s5]) ?_
                      refine lv_if_ge (tgt := 109) S.1 S.2.1 d_MD_line_91 (by decide) (fun c_91 => ?_) (fun c_91 => ?_)
                      · skip
                        exact absurd c_91 (by decide)
                      · skip
                        refine lv_iload S.1 S.2.1 d_MD_line_94 (lv_at hl 2 rfl) ?_
                        refine lv_iload S.1 S.2.1 d_MD_line_96 (lv_at hl 0 rfl) ?_
                        refine g_SP (As := [.int (nI kf), .int x3]) (rest := []) S hO (k_MD_isA l G ad s5 τ (nI kf) x3) cw_MD_100 g_cfC hl.1 (Nat.le_of_ble_eq_true rfl) ⟨(Nat.le_of_ble_eq_true rfl), (Nat.le_of_ble_eq_true rfl)⟩ ⟨(Nat.le_of_ble_eq_true rfl), (Nat.le_of_ble_eq_true rfl)⟩ d_MD_line_98 (fun q x ce H h9 => h9.elim) (fun v H v_12 hO => ?_)
                        subst v_12
                        refine W.eq (g2 := F0 m 101 ls [.int (bI (isAB (nI kf) x3))]) rfl ?_
                        refine lv_if_ne (tgt := 109) S.1 S.2.1 d_MD_line_101 (by decide) (fun c_101 => ?_) (fun c_101 => ?_)
                        · skip
                          have q_101 : (isAB (nI kf) x3) = true := b_1 c_101
                          have hr3 := pnrm_y hr_77 ((isA_k hk11).symm.trans q_101)
                          refine lv_aload_n S.1 S.2.1 d_MD_line_109 rfl (lv_at hl 4 rfl) ?_
                          refine g_get S hO fl_MD_117 (by decide) (sh_140 G ad _ _) (v := .int (s5 140 25)) rfl d_MD_line_110 ?_
                          refine W.eq (g2 := F0 m 113 ls [.int (-1)]) (by rw [show s5 140 25 = (-1) from h25_s5]) ?_
                          refine lv_if_ge (tgt := 174) S.1 S.2.1 d_MD_line_113 (by decide) (fun c_113 => ?_) (fun c_113 => ?_)
                          · skip
                            exact absurd c_113 (by decide)
                          · skip
                            refine lv_iload S.1 S.2.1 d_MD_line_116 (lv_at hl 2 rfl) ?_
                            refine g_SP (As := [.int (nI kf)]) (rest := []) S hO (k_MD_isTwo l G ad s5 τ (nI kf)) cw_MD_104 g_cfC hl.1 (Nat.le_of_ble_eq_true rfl) ⟨(Nat.le_of_ble_eq_true rfl), (Nat.le_of_ble_eq_true rfl)⟩ ⟨(Nat.le_of_ble_eq_true rfl), (Nat.le_of_ble_eq_true rfl)⟩ d_MD_line_118 (fun q x ce H h9 => h9.elim) (fun v H v_13 hO => ?_)
                            subst v_13
                            refine W.eq (g2 := F0 m 121 ls [.int (bI (twB (nI kf)))]) rfl ?_
                            refine lv_if_eq (tgt := 174) S.1 S.2.1 d_MD_line_121 (by decide) (fun c_121 => ?_) (fun c_121 => ?_)
                            · skip
                              have q_121 : (twB (nI kf)) = false := b_0 c_121
                              have h2n := (two_k hk11).2 q_121
                              refine lv_aload_n S.1 S.2.1 d_MD_line_174 rfl (lv_at hl 4 rfl) ?_
                              refine g_get S hO fl_MD_117 (by decide) (sh_140 G ad _ _) (v := .int (s5 140 25)) rfl d_MD_line_175 ?_
                              refine W.eq (g2 := F0 m 178 ls [.int (-1)]) (by rw [show s5 140 25 = (-1) from h25_s5]) ?_
                              refine lv_if_ge (tgt := 198) S.1 S.2.1 d_MD_line_178 (by decide) (fun c_178 => ?_) (fun c_178 => ?_)
                              · skip
                                exact absurd c_178 (by decide)
                              · skip
                                refine lv_aload_n S.1 S.2.1 d_MD_line_181 rfl (lv_at hl 4 rfl) ?_
                                refine g_get S hO fl_MD_114 (by decide) (sh_140 G ad _ _) (v := .int (s5 140 24)) rfl d_MD_line_182 ?_
                                refine W.eq (g2 := F0 m 185 ls [.int (nI q3)]) (by rw [show s5 140 24 = nI q3 from h24_s5]) ?_
                                refine lv_aload_n S.1 S.2.1 d_MD_line_185 rfl (lv_at hl 4 rfl) ?_
                                refine g_get S hO fl_MD_111 (by decide) (sh_140 G ad _ _) (v := .int (s5 140 22)) rfl d_MD_line_186 ?_
                                refine W.eq (g2 := F0 m 189 ls [.int (nI N), .int (nI q3)]) (by rw [show s5 140 22 = nI N from hN_s5]) ?_
                                refine lv_icmp_ge (tgt := 198) S.1 S.2.1 d_MD_line_189 (by decide) (fun c_189 => ?_) (fun c_189 => ?_)
                                · skip
                                  have hge : N ≤ q3 := ge_nI (x := nI N) rfl rfl (by omega) (by omega) c_189
                                  refine lv_iload_n S.1 S.2.1 d_MD_line_198 rfl (lv_at hl 5 rfl) ?_
                                  refine lv_if_eq (tgt := 234) S.1 S.2.1 d_MD_line_199 (by decide) (fun c_199 => ?_) (fun c_199 => ?_)
                                  · skip
                                    have q_199 : mk = false := b_0 c_199
                                    exact im_v S hk hr hO ⟨rfl, lnP_o (x1 := x1) (k := kf) (x3 := x3) (x4 := 0) (q := q3) (s := s5) (by simp only [pln, hr1, if_pos b_42, hpk.1, if_pos hpk.2, hr3, if_neg h2n, pen, if_neg (Nat.not_lt.mpr hge)]) hL_s5 h25_s5 h24_s5 (by rw [q_199]; exact rfl), rfl⟩ (Nat.le_of_ble_eq_true rfl) (Nat.le_of_ble_eq_true rfl) d_MD_line_234
                                  · skip
                                    have q_199 : mk = true := b_1 c_199
                                    refine lv_aload_n S.1 S.2.1 d_MD_line_202 rfl (lv_at hl 4 rfl) ?_
                                    refine g_get S hO fl_MD_117 (by decide) (sh_140 G ad _ _) (v := .int (s5 140 25)) rfl d_MD_line_203 ?_
                                    refine W.eq (g2 := F0 m 206 ls [.int (-1)]) (by rw [show s5 140 25 = (-1) from h25_s5]) ?_
                                    refine lv_if_ge (tgt := 234) S.1 S.2.1 d_MD_line_206 (by decide) (fun c_206 => ?_) (fun c_206 => ?_)
                                    · skip
                                      exact absurd c_206 (by decide)
                                    · skip
                                      refine lv_aload_n S.1 S.2.1 d_MD_line_209 rfl (lv_at hl 4 rfl) ?_
                                      refine lv_iload_n S.1 S.2.1 d_MD_line_210 rfl (lv_at hl 3 rfl) ?_
                                      refine lv_iload S.1 S.2.1 d_MD_line_211 (lv_at hl 2 rfl) ?_
                                      refine lv_iload S.1 S.2.1 d_MD_line_213 (lv_at hl 0 rfl) ?_
                                      refine lv_iload S.1 S.2.1 d_MD_line_215 (lv_at hl 2 rfl) ?_
                                      refine g_SP (As := [.int (nI kf)]) (rest := [.int x3, .int (nI kf), .int x1, .ref (ad 140)]) S hO (k_MD_isTwo l G ad s5 τ (nI kf)) cw_MD_104 g_cfC hl.1 (Nat.le_of_ble_eq_true rfl) ⟨(Nat.le_of_ble_eq_true rfl), (Nat.le_of_ble_eq_true rfl)⟩ ⟨(Nat.le_of_ble_eq_true rfl), (Nat.le_of_ble_eq_true rfl)⟩ d_MD_line_217 (fun q x ce H h9 => h9.elim) (fun v H v_14 hO => ?_)
                                      subst v_14
                                      refine W.eq (g2 := F0 m 220 ls [.int (bI (twB (nI kf))), .int x3, .int (nI kf), .int x1, .ref (ad 140)]) rfl ?_
                                      refine lv_if_eq (tgt := 230) S.1 S.2.1 d_MD_line_220 (by decide) (fun c_220 => ?_) (fun c_220 => ?_)
                                      · skip
                                        have q_220 : (twB (nI kf)) = false := b_0 c_220
                                        refine lv_iconst (v := 0) S.1 S.2.1 d_MD_line_230 (by decide) ?_
                                        refine g_VI (As := [.int x1, .int (nI kf), .int x3, .int 0]) (rest := []) S hO (fun _ h => h) (k_MD_comes l G ad s5 τ x1 (nI kf) x3 0 n (hmk q_199) (by rw [(show MXF s5 σ from hL_s5) 140 5 (by omega)]; exact hmr) nc (by rw [(show MXF s5 σ from hL_s5) 140 18 (by omega)]; exact hmc) hn2) cw_MD_107 (by decide) (sh_140 G ad _ _) rfl rfl hl.1 (Nat.le_of_ble_eq_true rfl) ⟨(Nat.le_of_ble_eq_true rfl), (Nat.le_of_ble_eq_true rfl)⟩ ⟨(Nat.le_of_ble_eq_true rfl), (Nat.le_of_ble_eq_true rfl)⟩ d_MD_line_231 (fun q x ce H locs h9 => h9.elim) (fun v E1 H locs v_15 hO => ?_)
                                        obtain ⟨sc, t_16, rfl, rfl, hsc, ht_16⟩ := v_15
                                        rw [ht_16] at hO
                                        refine W.eq (g2 := F0 m 234 ls []) rfl ?_
                                        exact im_v S hk hr hO ⟨rfl, lnP_o (x1 := x1) (k := kf) (x3 := x3) (x4 := 0) (q := q3) (s := s5) (by simp only [pln, hr1, if_pos b_42, hpk.1, if_pos hpk.2, hr3, if_neg h2n, pen, if_neg (Nat.not_lt.mpr hge)]) hL_s5 h25_s5 h24_s5 (by rw [q_199]; exact hsc), rfl⟩ (Nat.le_of_ble_eq_true rfl) (Nat.le_of_ble_eq_true rfl) d_MD_line_234
                                      · skip
                                        have q_220 : (twB (nI kf)) = true := b_1 c_220
                                        rw [q_121] at q_220
                                        exact absurd q_220 (by decide)
                                · skip
                                  have hlt : q3 < N := ngt_nI (x := nI N) rfl rfl (by omega) (by omega) c_189
                                  refine lv_aload_n S.1 S.2.1 d_MD_line_192 rfl (lv_at hl 4 rfl) ?_
                                  refine lv_bipush (v := 10) S.1 S.2.1 d_MD_line_193 (by decide) ?_
                                  refine g_VI (As := [.int 10]) (rest := []) S hO (fun _ h => h) (k_MD_pass l G ad s5 τ 10 N hN_s5 hN4 q3 h24_s5 (by omega) h25_s5) cw_MD_146 (by decide) (sh_140 G ad _ _) rfl rfl hl.1 (Nat.le_of_ble_eq_true rfl) ⟨(Nat.le_of_ble_eq_true rfl), (Nat.le_of_ble_eq_true rfl)⟩ ⟨(Nat.le_of_ble_eq_true rfl), (Nat.le_of_ble_eq_true rfl)⟩ d_MD_line_195 (fun q x ce H locs h9 => h9.elim) (fun v E1 H locs v_17 hO => ?_)
                                  obtain ⟨s8, t_18, rfl, rfl, hs8, ht_18⟩ := v_17
                                  rw [ht_18] at hO
                                  have eT_195 : s5 156 = σ 156 := MXF.T (σ := σ) hL_s5
                                  rw [psS, eT_195] at hs8
                                  by_cases b_195 : nxS (σ 156) N q3 = 10
                                  · skip
                                    rw [if_pos b_195] at hs8
                                    refine W.eq (g2 := F0 m 198 ls []) rfl ?_
                                    refine lv_iload_n S.1 S.2.1 d_MD_line_198 rfl (lv_at hl 5 rfl) ?_
                                    refine lv_if_eq (tgt := 234) S.1 S.2.1 d_MD_line_199 (by decide) (fun c_199 => ?_) (fun c_199 => ?_)
                                    · skip
                                      have q_199 : mk = false := b_0 c_199
                                      exact im_v S hk hr hO ⟨rfl, lnP_o (x1 := x1) (k := kf) (x3 := x3) (x4 := 0) (q := q3 + 1) (s := s8) (by simp only [pln, hr1, if_pos b_42, hpk.1, if_pos hpk.2, hr3, if_neg h2n, pen, if_pos hlt, if_pos b_195]) (by rw [hs8]; exact MXF.up hL_s5 (by omega)) (by simp [hs8, up2_at, h25_s5]) (by simp [hs8, up2_at]) (by rw [q_199]; exact rfl), rfl⟩ (Nat.le_of_ble_eq_true rfl) (Nat.le_of_ble_eq_true rfl) d_MD_line_234
                                    · skip
                                      have q_199 : mk = true := b_1 c_199
                                      refine lv_aload_n S.1 S.2.1 d_MD_line_202 rfl (lv_at hl 4 rfl) ?_
                                      refine g_get S hO fl_MD_117 (by decide) (sh_140 G ad _ _) (v := .int (s8 140 25)) rfl d_MD_line_203 ?_
                                      refine W.eq (g2 := F0 m 206 ls [.int (-1)]) (by rw [show s8 140 25 = (-1) from (by simp [hs8, up2_at, h25_s5])]) ?_
                                      refine lv_if_ge (tgt := 234) S.1 S.2.1 d_MD_line_206 (by decide) (fun c_206 => ?_) (fun c_206 => ?_)
                                      · skip
                                        exact absurd c_206 (by decide)
                                      · skip
                                        refine lv_aload_n S.1 S.2.1 d_MD_line_209 rfl (lv_at hl 4 rfl) ?_
                                        refine lv_iload_n S.1 S.2.1 d_MD_line_210 rfl (lv_at hl 3 rfl) ?_
                                        refine lv_iload S.1 S.2.1 d_MD_line_211 (lv_at hl 2 rfl) ?_
                                        refine lv_iload S.1 S.2.1 d_MD_line_213 (lv_at hl 0 rfl) ?_
                                        refine lv_iload S.1 S.2.1 d_MD_line_215 (lv_at hl 2 rfl) ?_
                                        refine g_SP (As := [.int (nI kf)]) (rest := [.int x3, .int (nI kf), .int x1, .ref (ad 140)]) S hO (k_MD_isTwo l G ad s8 τ (nI kf)) cw_MD_104 g_cfC hl.1 (Nat.le_of_ble_eq_true rfl) ⟨(Nat.le_of_ble_eq_true rfl), (Nat.le_of_ble_eq_true rfl)⟩ ⟨(Nat.le_of_ble_eq_true rfl), (Nat.le_of_ble_eq_true rfl)⟩ d_MD_line_217 (fun q x ce H h9 => h9.elim) (fun v H v_19 hO => ?_)
                                        subst v_19
                                        refine W.eq (g2 := F0 m 220 ls [.int (bI (twB (nI kf))), .int x3, .int (nI kf), .int x1, .ref (ad 140)]) rfl ?_
                                        refine lv_if_eq (tgt := 230) S.1 S.2.1 d_MD_line_220 (by decide) (fun c_220 => ?_) (fun c_220 => ?_)
                                        · skip
                                          have q_220 : (twB (nI kf)) = false := b_0 c_220
                                          refine lv_iconst (v := 0) S.1 S.2.1 d_MD_line_230 (by decide) ?_
                                          refine g_VI (As := [.int x1, .int (nI kf), .int x3, .int 0]) (rest := []) S hO (fun _ h => h) (k_MD_comes l G ad s8 τ x1 (nI kf) x3 0 n (hmk q_199) (by rw [(show MXF s8 σ from (by rw [hs8]; exact MXF.up hL_s5 (by omega))) 140 5 (by omega)]; exact hmr) nc (by rw [(show MXF s8 σ from (by rw [hs8]; exact MXF.up hL_s5 (by omega))) 140 18 (by omega)]; exact hmc) hn2) cw_MD_107 (by decide) (sh_140 G ad _ _) rfl rfl hl.1 (Nat.le_of_ble_eq_true rfl) ⟨(Nat.le_of_ble_eq_true rfl), (Nat.le_of_ble_eq_true rfl)⟩ ⟨(Nat.le_of_ble_eq_true rfl), (Nat.le_of_ble_eq_true rfl)⟩ d_MD_line_231 (fun q x ce H locs h9 => h9.elim) (fun v E1 H locs v_20 hO => ?_)
                                          obtain ⟨sc, t_21, rfl, rfl, hsc, ht_21⟩ := v_20
                                          rw [ht_21] at hO
                                          refine W.eq (g2 := F0 m 234 ls []) rfl ?_
                                          exact im_v S hk hr hO ⟨rfl, lnP_o (x1 := x1) (k := kf) (x3 := x3) (x4 := 0) (q := q3 + 1) (s := s8) (by simp only [pln, hr1, if_pos b_42, hpk.1, if_pos hpk.2, hr3, if_neg h2n, pen, if_pos hlt, if_pos b_195]) (by rw [hs8]; exact MXF.up hL_s5 (by omega)) (by simp [hs8, up2_at, h25_s5]) (by simp [hs8, up2_at]) (by rw [q_199]; exact hsc), rfl⟩ (Nat.le_of_ble_eq_true rfl) (Nat.le_of_ble_eq_true rfl) d_MD_line_234
                                        · skip
                                          have q_220 : (twB (nI kf)) = true := b_1 c_220
                                          rw [q_121] at q_220
                                          exact absurd q_220 (by decide)
                                  · skip
                                    rw [if_neg b_195] at hs8
                                    refine W.eq (g2 := F0 m 198 ls []) rfl ?_
                                    refine lv_iload_n S.1 S.2.1 d_MD_line_198 rfl (lv_at hl 5 rfl) ?_
                                    refine lv_if_eq (tgt := 234) S.1 S.2.1 d_MD_line_199 (by decide) (fun c_199 => ?_) (fun c_199 => ?_)
                                    · skip
                                      have q_199 : mk = false := b_0 c_199
                                      exact im_v S hk hr hO ⟨rfl, lnP_e (e := q3) (by simp only [pln, hr1, if_pos b_42, hpk.1, if_pos hpk.2, hr3, if_neg h2n, pen, if_pos hlt, if_neg b_195]) (by rw [hs8]; exact MXF.up2' hL_s5 (by omega) (by omega)) (by simp [hs8, up2_at]), rfl⟩ (Nat.le_of_ble_eq_true rfl) (Nat.le_of_ble_eq_true rfl) d_MD_line_234
                                    · skip
                                      have q_199 : mk = true := b_1 c_199
                                      refine lv_aload_n S.1 S.2.1 d_MD_line_202 rfl (lv_at hl 4 rfl) ?_
                                      refine g_get S hO fl_MD_117 (by decide) (sh_140 G ad _ _) (v := .int (s8 140 25)) rfl d_MD_line_203 ?_
                                      refine W.eq (g2 := F0 m 206 ls [.int (nI q3)]) (by rw [show s8 140 25 = nI q3 from (by simp [hs8, up2_at])]) ?_
                                      refine lv_if_ge (tgt := 234) S.1 S.2.1 d_MD_line_206 (by decide) (fun c_206 => ?_) (fun c_206 => ?_)
                                      · skip
                                        exact im_v S hk hr hO ⟨rfl, lnP_e (e := q3) (by simp only [pln, hr1, if_pos b_42, hpk.1, if_pos hpk.2, hr3, if_neg h2n, pen, if_pos hlt, if_neg b_195]) (by rw [hs8]; exact MXF.up2' hL_s5 (by omega) (by omega)) (by simp [hs8, up2_at]), rfl⟩ (Nat.le_of_ble_eq_true rfl) (Nat.le_of_ble_eq_true rfl) d_MD_line_234
                                      · skip
                                        exact absurd (nI_pos' (by omega)) c_206
                            · skip
                              have q_121 : (twB (nI kf)) = true := b_1 c_121
                              have h2k := (two_k hk11).1 q_121
                              refine lv_aload_n S.1 S.2.1 d_MD_line_124 rfl (lv_at hl 4 rfl) ?_
                              refine lv_bipush (v := 32) S.1 S.2.1 d_MD_line_125 (by decide) ?_
                              refine g_VI (As := [.int 32]) (rest := []) S hO (fun _ h => h) (k_MD_pass l G ad s5 τ 32 N hN_s5 hN4 q3 h24_s5 (by omega) h25_s5) cw_MD_146 (by decide) (sh_140 G ad _ _) rfl rfl hl.1 (Nat.le_of_ble_eq_true rfl) ⟨(Nat.le_of_ble_eq_true rfl), (Nat.le_of_ble_eq_true rfl)⟩ ⟨(Nat.le_of_ble_eq_true rfl), (Nat.le_of_ble_eq_true rfl)⟩ d_MD_line_127 (fun q x ce H locs h9 => h9.elim) (fun v E1 H locs v_22 hO => ?_)
                              obtain ⟨s6, t_23, rfl, rfl, hs6, ht_23⟩ := v_22
                              rw [ht_23] at hO
                              have eT_127 : s5 156 = σ 156 := MXF.T (σ := σ) hL_s5
                              rw [psS, eT_127] at hs6
                              by_cases b_127 : nxS (σ 156) N q3 = 32
                              · skip
                                rw [if_pos b_127] at hs6
                                refine W.eq (g2 := F0 m 130 ls []) rfl ?_
                                refine lv_aload_n S.1 S.2.1 d_MD_line_130 rfl (lv_at hl 4 rfl) ?_
                                refine g_get S hO fl_MD_117 (by decide) (sh_140 G ad _ _) (v := .int (s6 140 25)) rfl d_MD_line_131 ?_
                                refine W.eq (g2 := F0 m 134 ls [.int (-1)]) (by rw [show s6 140 25 = (-1) from (by simp [hs6, up2_at, h25_s5])]) ?_
                                refine lv_if_ge (tgt := 144) S.1 S.2.1 d_MD_line_134 (by decide) (fun c_134 => ?_) (fun c_134 => ?_)
                                · skip
                                  exact absurd c_134 (by decide)
                                · skip
                                  refine lv_aload_n S.1 S.2.1 d_MD_line_137 rfl (lv_at hl 4 rfl) ?_
                                  refine g_VI (As := []) (rest := []) S hO (fun _ h => h) (k_MD_digits l G ad s6 τ N (by simp [hs6, up2_at, hN_s5]) hN4 (q3 + 1) (by simp [hs6, up2_at]) (by omega) (by simp [hs6, up2_at, h25_s5])) cw_MD_143 (by decide) (sh_140 G ad _ _) rfl rfl hl.1 (Nat.le_of_ble_eq_true rfl) ⟨(Nat.le_of_ble_eq_true rfl), (Nat.le_of_ble_eq_true rfl)⟩ ⟨(Nat.le_of_ble_eq_true rfl), (Nat.le_of_ble_eq_true rfl)⟩ d_MD_line_138 (fun q x ce H locs h9 => h9.elim) (fun v E1 H locs v_24 hO => ?_)
                                  obtain ⟨s7, t_25, rfl, rfl, hM_s7, ht_25, hP_138⟩ := v_24
                                  rw [ht_25] at hO
                                  rw [show s6 156 = σ 156 from MXF.T (σ := σ) (by rw [hs6]; exact MXF.up hL_s5 (by omega))] at hP_138
                                  have hL_s7 : MXF s7 σ := MXF.trans (by rw [hs6]; exact MXF.up hL_s5 (by omega)) hM_s7
                                  have hN_s7 : s7 140 22 = nI N := by rw [hL_s7 140 22 (by omega)]; exact hN
                                  rcases hr_138 : pnm (σ 156) N (q3 + 1) with e_138 | ⟨x4, q4⟩
                                  · skip
                                    rw [hr_138] at hP_138
                                    have h25_s7 : s7 140 25 = nI e_138 := hP_138
                                    have he_138 := pnm_b hr_138
                                    refine W.eq (g2 := F0 m 141 ls [.int (nI (q3 + 1))]) rfl ?_
                                    have hr4 : pnr (σ 156) N (q3 + 1) (kLe kf) (kMo kf) = .error e_138 := pnrm_e hr_138
                                    refine lv_goto (tgt := 148) S.1 S.2.1 d_MD_line_141 (by decide) ?_
                                    refine lv_istore_n (lv' := [(2, .int (nI (q3 + 1))), (5, .int x3), (4, .int (nI kf)), (3, .int x1), (0, .ref (ad 140)), (1, .int (bI mk))]) S.1 S.2.1 d_MD_line_148 rfl hl (by decide) rfl (fun ls hl => ?_)
                                    refine lv_aload_n S.1 S.2.1 d_MD_line_149 rfl (lv_at hl 4 rfl) ?_
                                    refine g_get S hO fl_MD_117 (by decide) (sh_140 G ad _ _) (v := .int (s7 140 25)) rfl d_MD_line_150 ?_
                                    refine W.eq (g2 := F0 m 153 ls [.int (nI e_138)]) (by rw [show s7 140 25 = nI e_138 from h25_s7]) ?_
                                    refine lv_if_ge (tgt := 174) S.1 S.2.1 d_MD_line_153 (by decide) (fun c_153 => ?_) (fun c_153 => ?_)
                                    · skip
                                      refine lv_aload_n S.1 S.2.1 d_MD_line_174 rfl (lv_at hl 4 rfl) ?_
                                      refine g_get S hO fl_MD_117 (by decide) (sh_140 G ad _ _) (v := .int (s7 140 25)) rfl d_MD_line_175 ?_
                                      refine W.eq (g2 := F0 m 178 ls [.int (nI e_138)]) (by rw [show s7 140 25 = nI e_138 from h25_s7]) ?_
                                      refine lv_if_ge (tgt := 198) S.1 S.2.1 d_MD_line_178 (by decide) (fun c_178 => ?_) (fun c_178 => ?_)
                                      · skip
                                        refine lv_iload_n S.1 S.2.1 d_MD_line_198 rfl (lv_at hl 5 rfl) ?_
                                        refine lv_if_eq (tgt := 234) S.1 S.2.1 d_MD_line_199 (by decide) (fun c_199 => ?_) (fun c_199 => ?_)
                                        · skip
                                          have q_199 : mk = false := b_0 c_199
                                          exact im_v S hk hr hO ⟨rfl, lnP_e (e := e_138) (by simp only [pln, hr1, if_pos b_42, hpk.1, if_pos hpk.2, hr3, if_pos h2k.1, if_pos b_127, hr4]) hL_s7 h25_s7, rfl⟩ (Nat.le_of_ble_eq_true rfl) (Nat.le_of_ble_eq_true rfl) d_MD_line_234
                                        · skip
                                          have q_199 : mk = true := b_1 c_199
                                          refine lv_aload_n S.1 S.2.1 d_MD_line_202 rfl (lv_at hl 4 rfl) ?_
                                          refine g_get S hO fl_MD_117 (by decide) (sh_140 G ad _ _) (v := .int (s7 140 25)) rfl d_MD_line_203 ?_
                                          refine W.eq (g2 := F0 m 206 ls [.int (nI e_138)]) (by rw [show s7 140 25 = nI e_138 from h25_s7]) ?_
                                          refine lv_if_ge (tgt := 234) S.1 S.2.1 d_MD_line_206 (by decide) (fun c_206 => ?_) (fun c_206 => ?_)
                                          · skip
                                            exact im_v S hk hr hO ⟨rfl, lnP_e (e := e_138) (by simp only [pln, hr1, if_pos b_42, hpk.1, if_pos hpk.2, hr3, if_pos h2k.1, if_pos b_127, hr4]) hL_s7 h25_s7, rfl⟩ (Nat.le_of_ble_eq_true rfl) (Nat.le_of_ble_eq_true rfl) d_MD_line_234
                                          · skip
                                            exact absurd (nI_pos' (by omega)) c_206
                                      · skip
                                        exact absurd (nI_pos' (by omega)) c_178
                                    · skip
                                      exact absurd (nI_pos' (by omega)) c_153
                                  · skip
                                    rw [hr_138] at hP_138
                                    obtain ⟨h25_s7, h24_s7, h26_s7⟩ := hP_138
                                    have he_138 := pnm_d hr_138
                                    refine W.eq (g2 := F0 m 141 ls [.int (nI (q3 + 1))]) rfl ?_
                                    refine lv_goto (tgt := 148) S.1 S.2.1 d_MD_line_141 (by decide) ?_
                                    refine lv_istore_n (lv' := [(2, .int (nI (q3 + 1))), (5, .int x3), (4, .int (nI kf)), (3, .int x1), (0, .ref (ad 140)), (1, .int (bI mk))]) S.1 S.2.1 d_MD_line_148 rfl hl (by decide) rfl (fun ls hl => ?_)
                                    refine lv_aload_n S.1 S.2.1 d_MD_line_149 rfl (lv_at hl 4 rfl) ?_
                                    refine g_get S hO fl_MD_117 (by decide) (sh_140 G ad _ _) (v := .int (s7 140 25)) rfl d_MD_line_150 ?_
                                    refine W.eq (g2 := F0 m 153 ls [.int (-1)]) (by rw [show s7 140 25 = (-1) from h25_s7]) ?_
                                    refine lv_if_ge (tgt := 174) S.1 S.2.1 d_MD_line_153 (by decide) (fun c_153 => ?_) (fun c_153 => ?_)
                                    · skip
                                      exact absurd c_153 (by decide)
                                    · skip
                                      refine lv_aload_n S.1 S.2.1 d_MD_line_156 rfl (lv_at hl 4 rfl) ?_
                                      refine g_get S hO fl_MD_128 (by decide) (sh_140 G ad _ _) (v := .int (s7 140 26)) rfl d_MD_line_157 ?_
                                      refine W.eq (g2 := F0 m 160 ls [.int x4]) (by rw [show s7 140 26 = x4 from h26_s7]) ?_
                                      refine lv_iconst (v := 0) S.1 S.2.1 d_MD_line_160 (by decide) ?_
                                      refine lv_bipush (v := 7) S.1 S.2.1 d_MD_line_161 (by decide) ?_
                                      refine g_SP (As := [.int x4, .int 0, .int 7]) (rest := []) S hO (k_MD_in l G ad s7 τ x4 0 7) cw_MD_67 g_cfC hl.1 (Nat.le_of_ble_eq_true rfl) ⟨(Nat.le_of_ble_eq_true rfl), (Nat.le_of_ble_eq_true rfl)⟩ ⟨(Nat.le_of_ble_eq_true rfl), (Nat.le_of_ble_eq_true rfl)⟩ d_MD_line_163 (fun q x ce H h9 => h9.elim) (fun v H v_26 hO => ?_)
                                      subst v_26
                                      refine W.eq (g2 := F0 m 166 ls [.int (bI (inB x4 0 7))]) rfl ?_
                                      refine lv_if_ne (tgt := 174) S.1 S.2.1 d_MD_line_166 (by decide) (fun c_166 => ?_) (fun c_166 => ?_)
                                      · skip
                                        have q_166 : (inB x4 0 7) = true := b_1 c_166
                                        have hr4 : pnr (σ 156) N _ (kLe kf) (kMo kf) = _ := pnrm_y hr_138 (by rw [h2k.2.1, h2k.2.2]; exact q_166)
                                        refine lv_aload_n S.1 S.2.1 d_MD_line_174 rfl (lv_at hl 4 rfl) ?_
                                        refine g_get S hO fl_MD_117 (by decide) (sh_140 G ad _ _) (v := .int (s7 140 25)) rfl d_MD_line_175 ?_
                                        refine W.eq (g2 := F0 m 178 ls [.int (-1)]) (by rw [show s7 140 25 = (-1) from h25_s7]) ?_
                                        refine lv_if_ge (tgt := 198) S.1 S.2.1 d_MD_line_178 (by decide) (fun c_178 => ?_) (fun c_178 => ?_)
                                        · skip
                                          exact absurd c_178 (by decide)
                                        · skip
                                          refine lv_aload_n S.1 S.2.1 d_MD_line_181 rfl (lv_at hl 4 rfl) ?_
                                          refine g_get S hO fl_MD_114 (by decide) (sh_140 G ad _ _) (v := .int (s7 140 24)) rfl d_MD_line_182 ?_
                                          refine W.eq (g2 := F0 m 185 ls [.int (nI q4)]) (by rw [show s7 140 24 = nI q4 from h24_s7]) ?_
                                          refine lv_aload_n S.1 S.2.1 d_MD_line_185 rfl (lv_at hl 4 rfl) ?_
                                          refine g_get S hO fl_MD_111 (by decide) (sh_140 G ad _ _) (v := .int (s7 140 22)) rfl d_MD_line_186 ?_
                                          refine W.eq (g2 := F0 m 189 ls [.int (nI N), .int (nI q4)]) (by rw [show s7 140 22 = nI N from hN_s7]) ?_
                                          refine lv_icmp_ge (tgt := 198) S.1 S.2.1 d_MD_line_189 (by decide) (fun c_189 => ?_) (fun c_189 => ?_)
                                          · skip
                                            have hge : N ≤ q4 := ge_nI (x := nI N) rfl rfl (by omega) (by omega) c_189
                                            refine lv_iload_n S.1 S.2.1 d_MD_line_198 rfl (lv_at hl 5 rfl) ?_
                                            refine lv_if_eq (tgt := 234) S.1 S.2.1 d_MD_line_199 (by decide) (fun c_199 => ?_) (fun c_199 => ?_)
                                            · skip
                                              have q_199 : mk = false := b_0 c_199
                                              exact im_v S hk hr hO ⟨rfl, lnP_o (x1 := x1) (k := kf) (x3 := x3) (x4 := x4) (q := q4) (s := s7) (by simp only [pln, hr1, if_pos b_42, hpk.1, if_pos hpk.2, hr3, if_pos h2k.1, if_pos b_127, hr4, pen, if_neg (Nat.not_lt.mpr hge)]) hL_s7 h25_s7 h24_s7 (by rw [q_199]; exact rfl), rfl⟩ (Nat.le_of_ble_eq_true rfl) (Nat.le_of_ble_eq_true rfl) d_MD_line_234
                                            · skip
                                              have q_199 : mk = true := b_1 c_199
                                              refine lv_aload_n S.1 S.2.1 d_MD_line_202 rfl (lv_at hl 4 rfl) ?_
                                              refine g_get S hO fl_MD_117 (by decide) (sh_140 G ad _ _) (v := .int (s7 140 25)) rfl d_MD_line_203 ?_
                                              refine W.eq (g2 := F0 m 206 ls [.int (-1)]) (by rw [show s7 140 25 = (-1) from h25_s7]) ?_
                                              refine lv_if_ge (tgt := 234) S.1 S.2.1 d_MD_line_206 (by decide) (fun c_206 => ?_) (fun c_206 => ?_)
                                              · skip
                                                exact absurd c_206 (by decide)
                                              · skip
                                                refine lv_aload_n S.1 S.2.1 d_MD_line_209 rfl (lv_at hl 4 rfl) ?_
                                                refine lv_iload_n S.1 S.2.1 d_MD_line_210 rfl (lv_at hl 3 rfl) ?_
                                                refine lv_iload S.1 S.2.1 d_MD_line_211 (lv_at hl 2 rfl) ?_
                                                refine lv_iload S.1 S.2.1 d_MD_line_213 (lv_at hl 1 rfl) ?_
                                                refine lv_iload S.1 S.2.1 d_MD_line_215 (lv_at hl 2 rfl) ?_
                                                refine g_SP (As := [.int (nI kf)]) (rest := [.int x3, .int (nI kf), .int x1, .ref (ad 140)]) S hO (k_MD_isTwo l G ad s7 τ (nI kf)) cw_MD_104 g_cfC hl.1 (Nat.le_of_ble_eq_true rfl) ⟨(Nat.le_of_ble_eq_true rfl), (Nat.le_of_ble_eq_true rfl)⟩ ⟨(Nat.le_of_ble_eq_true rfl), (Nat.le_of_ble_eq_true rfl)⟩ d_MD_line_217 (fun q x ce H h9 => h9.elim) (fun v H v_27 hO => ?_)
                                                subst v_27
                                                refine W.eq (g2 := F0 m 220 ls [.int (bI (twB (nI kf))), .int x3, .int (nI kf), .int x1, .ref (ad 140)]) rfl ?_
                                                refine lv_if_eq (tgt := 230) S.1 S.2.1 d_MD_line_220 (by decide) (fun c_220 => ?_) (fun c_220 => ?_)
                                                · skip
                                                  have q_220 : (twB (nI kf)) = false := b_0 c_220
                                                  rw [q_121] at q_220
                                                  exact absurd q_220 (by decide)
                                                · skip
                                                  have q_220 : (twB (nI kf)) = true := b_1 c_220
                                                  refine lv_aload_n S.1 S.2.1 d_MD_line_223 rfl (lv_at hl 4 rfl) ?_
                                                  refine g_get S hO fl_MD_128 (by decide) (sh_140 G ad _ _) (v := .int (s7 140 26)) rfl d_MD_line_224 ?_
                                                  refine W.eq (g2 := F0 m 227 ls [.int x4, .int x3, .int (nI kf), .int x1, .ref (ad 140)]) (by rw [show s7 140 26 = x4 from h26_s7]) ?_
                                                  refine lv_goto (tgt := 231) S.1 S.2.1 d_MD_line_227 (by decide) ?_
                                                  refine g_VI (As := [.int x1, .int (nI kf), .int x3, .int x4]) (rest := []) S hO (fun _ h => h) (k_MD_comes l G ad s7 τ x1 (nI kf) x3 x4 n (hmk q_199) (by rw [(show MXF s7 σ from hL_s7) 140 5 (by omega)]; exact hmr) nc (by rw [(show MXF s7 σ from hL_s7) 140 18 (by omega)]; exact hmc) hn2) cw_MD_107 (by decide) (sh_140 G ad _ _) rfl rfl hl.1 (Nat.le_of_ble_eq_true rfl) ⟨(Nat.le_of_ble_eq_true rfl), (Nat.le_of_ble_eq_true rfl)⟩ ⟨(Nat.le_of_ble_eq_true rfl), (Nat.le_of_ble_eq_true rfl)⟩ d_MD_line_231 (fun q x ce H locs h9 => h9.elim) (fun v E1 H locs v_28 hO => ?_)
                                                  obtain ⟨sc, t_29, rfl, rfl, hsc, ht_29⟩ := v_28
                                                  rw [ht_29] at hO
                                                  refine W.eq (g2 := F0 m 234 ls []) rfl ?_
                                                  exact im_v S hk hr hO ⟨rfl, lnP_o (x1 := x1) (k := kf) (x3 := x3) (x4 := x4) (q := q4) (s := s7) (by simp only [pln, hr1, if_pos b_42, hpk.1, if_pos hpk.2, hr3, if_pos h2k.1, if_pos b_127, hr4, pen, if_neg (Nat.not_lt.mpr hge)]) hL_s7 h25_s7 h24_s7 (by rw [q_199]; exact hsc), rfl⟩ (Nat.le_of_ble_eq_true rfl) (Nat.le_of_ble_eq_true rfl) d_MD_line_234
                                          · skip
                                            have hlt : q4 < N := ngt_nI (x := nI N) rfl rfl (by omega) (by omega) c_189
                                            refine lv_aload_n S.1 S.2.1 d_MD_line_192 rfl (lv_at hl 4 rfl) ?_
                                            refine lv_bipush (v := 10) S.1 S.2.1 d_MD_line_193 (by decide) ?_
                                            refine g_VI (As := [.int 10]) (rest := []) S hO (fun _ h => h) (k_MD_pass l G ad s7 τ 10 N hN_s7 hN4 q4 h24_s7 (by omega) h25_s7) cw_MD_146 (by decide) (sh_140 G ad _ _) rfl rfl hl.1 (Nat.le_of_ble_eq_true rfl) ⟨(Nat.le_of_ble_eq_true rfl), (Nat.le_of_ble_eq_true rfl)⟩ ⟨(Nat.le_of_ble_eq_true rfl), (Nat.le_of_ble_eq_true rfl)⟩ d_MD_line_195 (fun q x ce H locs h9 => h9.elim) (fun v E1 H locs v_30 hO => ?_)
                                            obtain ⟨s8, t_31, rfl, rfl, hs8, ht_31⟩ := v_30
                                            rw [ht_31] at hO
                                            have eT_195 : s7 156 = σ 156 := MXF.T (σ := σ) hL_s7
                                            rw [psS, eT_195] at hs8
                                            by_cases b_195 : nxS (σ 156) N q4 = 10
                                            · skip
                                              rw [if_pos b_195] at hs8
                                              refine W.eq (g2 := F0 m 198 ls []) rfl ?_
                                              refine lv_iload_n S.1 S.2.1 d_MD_line_198 rfl (lv_at hl 5 rfl) ?_
                                              refine lv_if_eq (tgt := 234) S.1 S.2.1 d_MD_line_199 (by decide) (fun c_199 => ?_) (fun c_199 => ?_)
                                              · skip
                                                have q_199 : mk = false := b_0 c_199
                                                exact im_v S hk hr hO ⟨rfl, lnP_o (x1 := x1) (k := kf) (x3 := x3) (x4 := x4) (q := q4 + 1) (s := s8) (by simp only [pln, hr1, if_pos b_42, hpk.1, if_pos hpk.2, hr3, if_pos h2k.1, if_pos b_127, hr4, pen, if_pos hlt, if_pos b_195]) (by rw [hs8]; exact MXF.up hL_s7 (by omega)) (by simp [hs8, up2_at, h25_s7]) (by simp [hs8, up2_at]) (by rw [q_199]; exact rfl), rfl⟩ (Nat.le_of_ble_eq_true rfl) (Nat.le_of_ble_eq_true rfl) d_MD_line_234
                                              · skip
                                                have q_199 : mk = true := b_1 c_199
                                                refine lv_aload_n S.1 S.2.1 d_MD_line_202 rfl (lv_at hl 4 rfl) ?_
                                                refine g_get S hO fl_MD_117 (by decide) (sh_140 G ad _ _) (v := .int (s8 140 25)) rfl d_MD_line_203 ?_
                                                refine W.eq (g2 := F0 m 206 ls [.int (-1)]) (by rw [show s8 140 25 = (-1) from (by simp [hs8, up2_at, h25_s7])]) ?_
                                                refine lv_if_ge (tgt := 234) S.1 S.2.1 d_MD_line_206 (by decide) (fun c_206 => ?_) (fun c_206 => ?_)
                                                · skip
                                                  exact absurd c_206 (by decide)
                                                · skip
                                                  refine lv_aload_n S.1 S.2.1 d_MD_line_209 rfl (lv_at hl 4 rfl) ?_
                                                  refine lv_iload_n S.1 S.2.1 d_MD_line_210 rfl (lv_at hl 3 rfl) ?_
                                                  refine lv_iload S.1 S.2.1 d_MD_line_211 (lv_at hl 2 rfl) ?_
                                                  refine lv_iload S.1 S.2.1 d_MD_line_213 (lv_at hl 1 rfl) ?_
                                                  refine lv_iload S.1 S.2.1 d_MD_line_215 (lv_at hl 2 rfl) ?_
                                                  refine g_SP (As := [.int (nI kf)]) (rest := [.int x3, .int (nI kf), .int x1, .ref (ad 140)]) S hO (k_MD_isTwo l G ad s8 τ (nI kf)) cw_MD_104 g_cfC hl.1 (Nat.le_of_ble_eq_true rfl) ⟨(Nat.le_of_ble_eq_true rfl), (Nat.le_of_ble_eq_true rfl)⟩ ⟨(Nat.le_of_ble_eq_true rfl), (Nat.le_of_ble_eq_true rfl)⟩ d_MD_line_217 (fun q x ce H h9 => h9.elim) (fun v H v_32 hO => ?_)
                                                  subst v_32
                                                  refine W.eq (g2 := F0 m 220 ls [.int (bI (twB (nI kf))), .int x3, .int (nI kf), .int x1, .ref (ad 140)]) rfl ?_
                                                  refine lv_if_eq (tgt := 230) S.1 S.2.1 d_MD_line_220 (by decide) (fun c_220 => ?_) (fun c_220 => ?_)
                                                  · skip
                                                    have q_220 : (twB (nI kf)) = false := b_0 c_220
                                                    rw [q_121] at q_220
                                                    exact absurd q_220 (by decide)
                                                  · skip
                                                    have q_220 : (twB (nI kf)) = true := b_1 c_220
                                                    refine lv_aload_n S.1 S.2.1 d_MD_line_223 rfl (lv_at hl 4 rfl) ?_
                                                    refine g_get S hO fl_MD_128 (by decide) (sh_140 G ad _ _) (v := .int (s8 140 26)) rfl d_MD_line_224 ?_
                                                    refine W.eq (g2 := F0 m 227 ls [.int x4, .int x3, .int (nI kf), .int x1, .ref (ad 140)]) (by rw [show s8 140 26 = x4 from (by simp [hs8, up2_at, h26_s7])]) ?_
                                                    refine lv_goto (tgt := 231) S.1 S.2.1 d_MD_line_227 (by decide) ?_
                                                    refine g_VI (As := [.int x1, .int (nI kf), .int x3, .int x4]) (rest := []) S hO (fun _ h => h) (k_MD_comes l G ad s8 τ x1 (nI kf) x3 x4 n (hmk q_199) (by rw [(show MXF s8 σ from (by rw [hs8]; exact MXF.up hL_s7 (by omega))) 140 5 (by omega)]; exact hmr) nc (by rw [(show MXF s8 σ from (by rw [hs8]; exact MXF.up hL_s7 (by omega))) 140 18 (by omega)]; exact hmc) hn2) cw_MD_107 (by decide) (sh_140 G ad _ _) rfl rfl hl.1 (Nat.le_of_ble_eq_true rfl) ⟨(Nat.le_of_ble_eq_true rfl), (Nat.le_of_ble_eq_true rfl)⟩ ⟨(Nat.le_of_ble_eq_true rfl), (Nat.le_of_ble_eq_true rfl)⟩ d_MD_line_231 (fun q x ce H locs h9 => h9.elim) (fun v E1 H locs v_33 hO => ?_)
                                                    obtain ⟨sc, t_34, rfl, rfl, hsc, ht_34⟩ := v_33
                                                    rw [ht_34] at hO
                                                    refine W.eq (g2 := F0 m 234 ls []) rfl ?_
                                                    exact im_v S hk hr hO ⟨rfl, lnP_o (x1 := x1) (k := kf) (x3 := x3) (x4 := x4) (q := q4 + 1) (s := s8) (by simp only [pln, hr1, if_pos b_42, hpk.1, if_pos hpk.2, hr3, if_pos h2k.1, if_pos b_127, hr4, pen, if_pos hlt, if_pos b_195]) (by rw [hs8]; exact MXF.up hL_s7 (by omega)) (by simp [hs8, up2_at, h25_s7]) (by simp [hs8, up2_at]) (by rw [q_199]; exact hsc), rfl⟩ (Nat.le_of_ble_eq_true rfl) (Nat.le_of_ble_eq_true rfl) d_MD_line_234
                                            · skip
                                              rw [if_neg b_195] at hs8
                                              refine W.eq (g2 := F0 m 198 ls []) rfl ?_
                                              refine lv_iload_n S.1 S.2.1 d_MD_line_198 rfl (lv_at hl 5 rfl) ?_
                                              refine lv_if_eq (tgt := 234) S.1 S.2.1 d_MD_line_199 (by decide) (fun c_199 => ?_) (fun c_199 => ?_)
                                              · skip
                                                have q_199 : mk = false := b_0 c_199
                                                exact im_v S hk hr hO ⟨rfl, lnP_e (e := q4) (by simp only [pln, hr1, if_pos b_42, hpk.1, if_pos hpk.2, hr3, if_pos h2k.1, if_pos b_127, hr4, pen, if_pos hlt, if_neg b_195]) (by rw [hs8]; exact MXF.up2' hL_s7 (by omega) (by omega)) (by simp [hs8, up2_at]), rfl⟩ (Nat.le_of_ble_eq_true rfl) (Nat.le_of_ble_eq_true rfl) d_MD_line_234
                                              · skip
                                                have q_199 : mk = true := b_1 c_199
                                                refine lv_aload_n S.1 S.2.1 d_MD_line_202 rfl (lv_at hl 4 rfl) ?_
                                                refine g_get S hO fl_MD_117 (by decide) (sh_140 G ad _ _) (v := .int (s8 140 25)) rfl d_MD_line_203 ?_
                                                refine W.eq (g2 := F0 m 206 ls [.int (nI q4)]) (by rw [show s8 140 25 = nI q4 from (by simp [hs8, up2_at])]) ?_
                                                refine lv_if_ge (tgt := 234) S.1 S.2.1 d_MD_line_206 (by decide) (fun c_206 => ?_) (fun c_206 => ?_)
                                                · skip
                                                  exact im_v S hk hr hO ⟨rfl, lnP_e (e := q4) (by simp only [pln, hr1, if_pos b_42, hpk.1, if_pos hpk.2, hr3, if_pos h2k.1, if_pos b_127, hr4, pen, if_pos hlt, if_neg b_195]) (by rw [hs8]; exact MXF.up2' hL_s7 (by omega) (by omega)) (by simp [hs8, up2_at]), rfl⟩ (Nat.le_of_ble_eq_true rfl) (Nat.le_of_ble_eq_true rfl) d_MD_line_234
                                                · skip
                                                  exact absurd (nI_pos' (by omega)) c_206
                                      · skip
                                        have q_166 : (inB x4 0 7) = false := b_0 c_166
                                        have hr4 : pnr (σ 156) N _ (kLe kf) (kMo kf) = _ := pnrm_n hr_138 (by rw [h2k.2.1, h2k.2.2]; exact q_166)
                                        refine lv_aload_n S.1 S.2.1 d_MD_line_169 rfl (lv_at hl 4 rfl) ?_
                                        refine lv_iload_n S.1 S.2.1 d_MD_line_170 rfl (lv_at hl 0 rfl) ?_
                                        refine g_VI (As := [.int (nI (q3 + 1))]) (rest := []) S hO (fun _ h => h) (k_MD_fault l G ad s7 τ (nI (q3 + 1)) h25_s7) cw_MD_124 (by decide) (sh_140 G ad _ _) rfl rfl hl.1 (Nat.le_of_ble_eq_true rfl) ⟨(Nat.le_of_ble_eq_true rfl), (Nat.le_of_ble_eq_true rfl)⟩ ⟨(Nat.le_of_ble_eq_true rfl), (Nat.le_of_ble_eq_true rfl)⟩ d_MD_line_171 (fun q x ce H locs h9 => h9.elim) (fun v E1 H locs v_35 hO => ?_)
                                        obtain ⟨sf3, t_36, rfl, rfl, hsf3, ht_36⟩ := v_35
                                        rw [ht_36] at hO
                                        refine W.eq (g2 := F0 m 174 ls []) rfl ?_
                                        refine lv_aload_n S.1 S.2.1 d_MD_line_174 rfl (lv_at hl 4 rfl) ?_
                                        refine g_get S hO fl_MD_117 (by decide) (sh_140 G ad _ _) (v := .int (sf3 140 25)) rfl d_MD_line_175 ?_
                                        refine W.eq (g2 := F0 m 178 ls [.int (nI (q3 + 1))]) (by rw [show sf3 140 25 = nI (q3 + 1) from (by simp [hsf3, up2_at])]) ?_
                                        refine lv_if_ge (tgt := 198) S.1 S.2.1 d_MD_line_178 (by decide) (fun c_178 => ?_) (fun c_178 => ?_)
                                        · skip
                                          refine lv_iload_n S.1 S.2.1 d_MD_line_198 rfl (lv_at hl 5 rfl) ?_
                                          refine lv_if_eq (tgt := 234) S.1 S.2.1 d_MD_line_199 (by decide) (fun c_199 => ?_) (fun c_199 => ?_)
                                          · skip
                                            have q_199 : mk = false := b_0 c_199
                                            exact im_v S hk hr hO ⟨rfl, lnP_e (e := q3 + 1) (by simp only [pln, hr1, if_pos b_42, hpk.1, if_pos hpk.2, hr3, if_pos h2k.1, if_pos b_127, hr4]) (by rw [hsf3]; exact MXF.up hL_s7 (by omega)) (by simp [hsf3, up2_at]), rfl⟩ (Nat.le_of_ble_eq_true rfl) (Nat.le_of_ble_eq_true rfl) d_MD_line_234
                                          · skip
                                            have q_199 : mk = true := b_1 c_199
                                            refine lv_aload_n S.1 S.2.1 d_MD_line_202 rfl (lv_at hl 4 rfl) ?_
                                            refine g_get S hO fl_MD_117 (by decide) (sh_140 G ad _ _) (v := .int (sf3 140 25)) rfl d_MD_line_203 ?_
                                            refine W.eq (g2 := F0 m 206 ls [.int (nI (q3 + 1))]) (by rw [show sf3 140 25 = nI (q3 + 1) from (by simp [hsf3, up2_at])]) ?_
                                            refine lv_if_ge (tgt := 234) S.1 S.2.1 d_MD_line_206 (by decide) (fun c_206 => ?_) (fun c_206 => ?_)
                                            · skip
                                              exact im_v S hk hr hO ⟨rfl, lnP_e (e := q3 + 1) (by simp only [pln, hr1, if_pos b_42, hpk.1, if_pos hpk.2, hr3, if_pos h2k.1, if_pos b_127, hr4]) (by rw [hsf3]; exact MXF.up hL_s7 (by omega)) (by simp [hsf3, up2_at]), rfl⟩ (Nat.le_of_ble_eq_true rfl) (Nat.le_of_ble_eq_true rfl) d_MD_line_234
                                            · skip
                                              exact absurd (nI_pos' (by omega)) c_206
                                        · skip
                                          exact absurd (nI_pos' (by omega)) c_178
                              · skip
                                rw [if_neg b_127] at hs6
                                refine W.eq (g2 := F0 m 130 ls []) rfl ?_
                                refine lv_aload_n S.1 S.2.1 d_MD_line_130 rfl (lv_at hl 4 rfl) ?_
                                refine g_get S hO fl_MD_117 (by decide) (sh_140 G ad _ _) (v := .int (s6 140 25)) rfl d_MD_line_131 ?_
                                refine W.eq (g2 := F0 m 134 ls [.int (nI q3)]) (by rw [show s6 140 25 = nI q3 from (by simp [hs6, up2_at])]) ?_
                                refine lv_if_ge (tgt := 144) S.1 S.2.1 d_MD_line_134 (by decide) (fun c_134 => ?_) (fun c_134 => ?_)
                                · skip
                                  refine lv_aload_n S.1 S.2.1 d_MD_line_144 rfl (lv_at hl 4 rfl) ?_
                                  refine g_get S hO fl_MD_114 (by decide) (sh_140 G ad _ _) (v := .int (s6 140 24)) rfl d_MD_line_145 ?_
                                  refine W.eq (g2 := F0 m 148 ls [.int (nI (q3 + 1))]) (by rw [show s6 140 24 = nI (q3 + 1) from (by simp [hs6, up2_at])]) ?_
                                  refine lv_istore_n (lv' := [(2, .int (nI (q3 + 1))), (5, .int x3), (4, .int (nI kf)), (3, .int x1), (0, .ref (ad 140)), (1, .int (bI mk))]) S.1 S.2.1 d_MD_line_148 rfl hl (by decide) rfl (fun ls hl => ?_)
                                  refine lv_aload_n S.1 S.2.1 d_MD_line_149 rfl (lv_at hl 4 rfl) ?_
                                  refine g_get S hO fl_MD_117 (by decide) (sh_140 G ad _ _) (v := .int (s6 140 25)) rfl d_MD_line_150 ?_
                                  refine W.eq (g2 := F0 m 153 ls [.int (nI q3)]) (by rw [show s6 140 25 = nI q3 from (by simp [hs6, up2_at])]) ?_
                                  refine lv_if_ge (tgt := 174) S.1 S.2.1 d_MD_line_153 (by decide) (fun c_153 => ?_) (fun c_153 => ?_)
                                  · skip
                                    refine lv_aload_n S.1 S.2.1 d_MD_line_174 rfl (lv_at hl 4 rfl) ?_
                                    refine g_get S hO fl_MD_117 (by decide) (sh_140 G ad _ _) (v := .int (s6 140 25)) rfl d_MD_line_175 ?_
                                    refine W.eq (g2 := F0 m 178 ls [.int (nI q3)]) (by rw [show s6 140 25 = nI q3 from (by simp [hs6, up2_at])]) ?_
                                    refine lv_if_ge (tgt := 198) S.1 S.2.1 d_MD_line_178 (by decide) (fun c_178 => ?_) (fun c_178 => ?_)
                                    · skip
                                      refine lv_iload_n S.1 S.2.1 d_MD_line_198 rfl (lv_at hl 5 rfl) ?_
                                      refine lv_if_eq (tgt := 234) S.1 S.2.1 d_MD_line_199 (by decide) (fun c_199 => ?_) (fun c_199 => ?_)
                                      · skip
                                        have q_199 : mk = false := b_0 c_199
                                        exact im_v S hk hr hO ⟨rfl, lnP_e (e := q3) (by simp only [pln, hr1, if_pos b_42, hpk.1, if_pos hpk.2, hr3, if_pos h2k.1, if_neg b_127]) (by rw [hs6]; exact MXF.up2' hL_s5 (by omega) (by omega)) (by simp [hs6, up2_at]), rfl⟩ (Nat.le_of_ble_eq_true rfl) (Nat.le_of_ble_eq_true rfl) d_MD_line_234
                                      · skip
                                        have q_199 : mk = true := b_1 c_199
                                        refine lv_aload_n S.1 S.2.1 d_MD_line_202 rfl (lv_at hl 4 rfl) ?_
                                        refine g_get S hO fl_MD_117 (by decide) (sh_140 G ad _ _) (v := .int (s6 140 25)) rfl d_MD_line_203 ?_
                                        refine W.eq (g2 := F0 m 206 ls [.int (nI q3)]) (by rw [show s6 140 25 = nI q3 from (by simp [hs6, up2_at])]) ?_
                                        refine lv_if_ge (tgt := 234) S.1 S.2.1 d_MD_line_206 (by decide) (fun c_206 => ?_) (fun c_206 => ?_)
                                        · skip
                                          exact im_v S hk hr hO ⟨rfl, lnP_e (e := q3) (by simp only [pln, hr1, if_pos b_42, hpk.1, if_pos hpk.2, hr3, if_pos h2k.1, if_neg b_127]) (by rw [hs6]; exact MXF.up2' hL_s5 (by omega) (by omega)) (by simp [hs6, up2_at]), rfl⟩ (Nat.le_of_ble_eq_true rfl) (Nat.le_of_ble_eq_true rfl) d_MD_line_234
                                        · skip
                                          exact absurd (nI_pos' (by omega)) c_206
                                    · skip
                                      exact absurd (nI_pos' (by omega)) c_178
                                  · skip
                                    exact absurd (nI_pos' (by omega)) c_153
                                · skip
                                  exact absurd (nI_pos' (by omega)) c_134
                        · skip
                          have q_101 : (isAB (nI kf) x3) = false := b_0 c_101
                          have hr3 := pnrm_n hr_77 ((isA_k hk11).symm.trans q_101)
                          refine lv_aload_n S.1 S.2.1 d_MD_line_104 rfl (lv_at hl 4 rfl) ?_
                          refine lv_iload_n S.1 S.2.1 d_MD_line_105 rfl (lv_at hl 1 rfl) ?_
                          refine g_VI (As := [.int (nI (q1 + 1 + gkl.getD kf 0 + 1))]) (rest := []) S hO (fun _ h => h) (k_MD_fault l G ad s5 τ (nI (q1 + 1 + gkl.getD kf 0 + 1)) h25_s5) cw_MD_124 (by decide) (sh_140 G ad _ _) rfl rfl hl.1 (Nat.le_of_ble_eq_true rfl) ⟨(Nat.le_of_ble_eq_true rfl), (Nat.le_of_ble_eq_true rfl)⟩ ⟨(Nat.le_of_ble_eq_true rfl), (Nat.le_of_ble_eq_true rfl)⟩ d_MD_line_106 (fun q x ce H locs h9 => h9.elim) (fun v E1 H locs v_37 hO => ?_)
                          obtain ⟨sf2, t_38, rfl, rfl, hsf2, ht_38⟩ := v_37
                          rw [ht_38] at hO
                          refine W.eq (g2 := F0 m 109 ls []) rfl ?_
                          refine lv_aload_n S.1 S.2.1 d_MD_line_109 rfl (lv_at hl 4 rfl) ?_
                          refine g_get S hO fl_MD_117 (by decide) (sh_140 G ad _ _) (v := .int (sf2 140 25)) rfl d_MD_line_110 ?_
                          refine W.eq (g2 := F0 m 113 ls [.int (nI (q1 + 1 + gkl.getD kf 0 + 1))]) (by rw [show sf2 140 25 = nI (q1 + 1 + gkl.getD kf 0 + 1) from (by simp [hsf2, up2_at])]) ?_
                          refine lv_if_ge (tgt := 174) S.1 S.2.1 d_MD_line_113 (by decide) (fun c_113 => ?_) (fun c_113 => ?_)
                          · skip
                            refine lv_aload_n S.1 S.2.1 d_MD_line_174 rfl (lv_at hl 4 rfl) ?_
                            refine g_get S hO fl_MD_117 (by decide) (sh_140 G ad _ _) (v := .int (sf2 140 25)) rfl d_MD_line_175 ?_
                            refine W.eq (g2 := F0 m 178 ls [.int (nI (q1 + 1 + gkl.getD kf 0 + 1))]) (by rw [show sf2 140 25 = nI (q1 + 1 + gkl.getD kf 0 + 1) from (by simp [hsf2, up2_at])]) ?_
                            refine lv_if_ge (tgt := 198) S.1 S.2.1 d_MD_line_178 (by decide) (fun c_178 => ?_) (fun c_178 => ?_)
                            · skip
                              refine lv_iload_n S.1 S.2.1 d_MD_line_198 rfl (lv_at hl 5 rfl) ?_
                              refine lv_if_eq (tgt := 234) S.1 S.2.1 d_MD_line_199 (by decide) (fun c_199 => ?_) (fun c_199 => ?_)
                              · skip
                                have q_199 : mk = false := b_0 c_199
                                exact im_v S hk hr hO ⟨rfl, lnP_e (e := q1 + 1 + gkl.getD kf 0 + 1) (by simp only [pln, hr1, if_pos b_42, hpk.1, if_pos hpk.2, hr3]) (by rw [hsf2]; exact MXF.up hL_s5 (by omega)) (by simp [hsf2, up2_at]), rfl⟩ (Nat.le_of_ble_eq_true rfl) (Nat.le_of_ble_eq_true rfl) d_MD_line_234
                              · skip
                                have q_199 : mk = true := b_1 c_199
                                refine lv_aload_n S.1 S.2.1 d_MD_line_202 rfl (lv_at hl 4 rfl) ?_
                                refine g_get S hO fl_MD_117 (by decide) (sh_140 G ad _ _) (v := .int (sf2 140 25)) rfl d_MD_line_203 ?_
                                refine W.eq (g2 := F0 m 206 ls [.int (nI (q1 + 1 + gkl.getD kf 0 + 1))]) (by rw [show sf2 140 25 = nI (q1 + 1 + gkl.getD kf 0 + 1) from (by simp [hsf2, up2_at])]) ?_
                                refine lv_if_ge (tgt := 234) S.1 S.2.1 d_MD_line_206 (by decide) (fun c_206 => ?_) (fun c_206 => ?_)
                                · skip
                                  exact im_v S hk hr hO ⟨rfl, lnP_e (e := q1 + 1 + gkl.getD kf 0 + 1) (by simp only [pln, hr1, if_pos b_42, hpk.1, if_pos hpk.2, hr3]) (by rw [hsf2]; exact MXF.up hL_s5 (by omega)) (by simp [hsf2, up2_at]), rfl⟩ (Nat.le_of_ble_eq_true rfl) (Nat.le_of_ble_eq_true rfl) d_MD_line_234
                                · skip
                                  exact absurd (nI_pos' (by omega)) c_206
                            · skip
                              exact absurd (nI_pos' (by omega)) c_178
                          · skip
                            exact absurd (nI_pos' (by omega)) c_113
                  · skip
                    rw [if_neg b_73] at hs4
                    refine W.eq (g2 := F0 m 76 ls []) rfl ?_
                    exact absurd hpk.2 b_73
                · skip
                  exact absurd (by decide) c_66
          · skip
            rw [if_neg b_42] at hs2
            refine W.eq (g2 := F0 m 45 ls []) rfl ?_
            refine lv_aload_n S.1 S.2.1 d_MD_line_45 rfl (lv_at hl 2 rfl) ?_
            refine g_get S hO fl_MD_117 (by decide) (sh_140 G ad _ _) (v := .int (s2 140 25)) rfl d_MD_line_46 ?_
            refine W.eq (g2 := F0 m 49 ls [.int (nI q1)]) (by rw [show s2 140 25 = nI q1 from (by simp [hs2, up2_at])]) ?_
            refine lv_if_ge (tgt := 59) S.1 S.2.1 d_MD_line_49 (by decide) (fun c_49 => ?_) (fun c_49 => ?_)
            · skip
              refine lv_iconst (v := 0) S.1 S.2.1 d_MD_line_59 (by decide) ?_
              refine lv_istore (lv' := [(4, .int 0), (3, .int x1), (2, .int (nI pp)), (0, .ref (ad 140)), (1, .int (bI mk))]) S.1 S.2.1 d_MD_line_60 hl (by decide) rfl (fun ls hl => ?_)
              refine lv_aload_n S.1 S.2.1 d_MD_line_62 rfl (lv_at hl 3 rfl) ?_
              refine g_get S hO fl_MD_117 (by decide) (sh_140 G ad _ _) (v := .int (s2 140 25)) rfl d_MD_line_63 ?_
              refine W.eq (g2 := F0 m 66 ls [.int (nI q1)]) (by rw [show s2 140 25 = nI q1 from (by simp [hs2, up2_at])]) ?_
              refine lv_if_lt (tgt := 70) S.1 S.2.1 d_MD_line_66 (by decide) (fun c_66 => ?_) (fun c_66 => ?_)
              · skip
                exact absurd c_66 (nI_pos (by omega))
              · skip
                exact im_v S hk hr hO ⟨rfl, lnP_e (e := q1) (by simp only [pln, hr1, if_neg b_42]) (by rw [hs2]; exact MXF.up2' hL_s1 (by omega) (by omega)) (by simp [hs2, up2_at]), rfl⟩ (Nat.le_of_ble_eq_true rfl) (Nat.le_of_ble_eq_true rfl) d_MD_line_69
            · skip
              exact absurd (nI_pos' (by omega)) c_49
      · skip
        have q_24 : (inB x1 1 100) = false := b_0 c_24
        have hr1 := pnrm_n hr_1 q_24
        refine lv_aload_n S.1 S.2.1 d_MD_line_27 rfl (lv_at hl 2 rfl) ?_
        refine lv_iload_n S.1 S.2.1 d_MD_line_28 rfl (lv_at hl 1 rfl) ?_
        refine g_VI (As := [.int (nI pp)]) (rest := []) S hO (fun _ h => h) (k_MD_fault l G ad s1 τ (nI pp) h25_s1) cw_MD_124 (by decide) (sh_140 G ad _ _) rfl rfl hl.1 (Nat.le_of_ble_eq_true rfl) ⟨(Nat.le_of_ble_eq_true rfl), (Nat.le_of_ble_eq_true rfl)⟩ ⟨(Nat.le_of_ble_eq_true rfl), (Nat.le_of_ble_eq_true rfl)⟩ d_MD_line_29 (fun q x ce H locs h9 => h9.elim) (fun v E1 H locs v_39 hO => ?_)
        obtain ⟨sf1, t_40, rfl, rfl, hsf1, ht_40⟩ := v_39
        rw [ht_40] at hO
        refine W.eq (g2 := F0 m 32 ls []) rfl ?_
        refine lv_aload_n S.1 S.2.1 d_MD_line_32 rfl (lv_at hl 2 rfl) ?_
        refine g_get S hO fl_MD_117 (by decide) (sh_140 G ad _ _) (v := .int (sf1 140 25)) rfl d_MD_line_33 ?_
        refine W.eq (g2 := F0 m 36 ls [.int (nI pp)]) (by rw [show sf1 140 25 = nI pp from (by simp [hsf1, up2_at])]) ?_
        refine lv_if_ge (tgt := 45) S.1 S.2.1 d_MD_line_36 (by decide) (fun c_36 => ?_) (fun c_36 => ?_)
        · skip
          refine lv_aload_n S.1 S.2.1 d_MD_line_45 rfl (lv_at hl 2 rfl) ?_
          refine g_get S hO fl_MD_117 (by decide) (sh_140 G ad _ _) (v := .int (sf1 140 25)) rfl d_MD_line_46 ?_
          refine W.eq (g2 := F0 m 49 ls [.int (nI pp)]) (by rw [show sf1 140 25 = nI pp from (by simp [hsf1, up2_at])]) ?_
          refine lv_if_ge (tgt := 59) S.1 S.2.1 d_MD_line_49 (by decide) (fun c_49 => ?_) (fun c_49 => ?_)
          · skip
            refine lv_iconst (v := 0) S.1 S.2.1 d_MD_line_59 (by decide) ?_
            refine lv_istore (lv' := [(4, .int 0), (3, .int x1), (2, .int (nI pp)), (0, .ref (ad 140)), (1, .int (bI mk))]) S.1 S.2.1 d_MD_line_60 hl (by decide) rfl (fun ls hl => ?_)
            refine lv_aload_n S.1 S.2.1 d_MD_line_62 rfl (lv_at hl 3 rfl) ?_
            refine g_get S hO fl_MD_117 (by decide) (sh_140 G ad _ _) (v := .int (sf1 140 25)) rfl d_MD_line_63 ?_
            refine W.eq (g2 := F0 m 66 ls [.int (nI pp)]) (by rw [show sf1 140 25 = nI pp from (by simp [hsf1, up2_at])]) ?_
            refine lv_if_lt (tgt := 70) S.1 S.2.1 d_MD_line_66 (by decide) (fun c_66 => ?_) (fun c_66 => ?_)
            · skip
              exact absurd c_66 (nI_pos (by omega))
            · skip
              exact im_v S hk hr hO ⟨rfl, lnP_e (e := pp) (by simp only [pln, hr1]) (by rw [hsf1]; exact MXF.up hL_s1 (by omega)) (by simp [hsf1, up2_at]), rfl⟩ (Nat.le_of_ble_eq_true rfl) (Nat.le_of_ble_eq_true rfl) d_MD_line_69
          · skip
            exact absurd (nI_pos' (by omega)) c_49
        · skip
          exact absurd (nI_pos' (by omega)) c_36
