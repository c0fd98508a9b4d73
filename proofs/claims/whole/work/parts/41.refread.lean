/-! The reference reads. Written by wip/tools/m41.py. -/
def MB (σ : Nat → Nat → Int32) (n nc : Nat) : Prop := σ 140 5 = nI n ∧ σ 140 18 = nI nc ∧ 2 * nc ≤ n * (n - 1)
theorem mCm_k {σ : Nat → Nat → Int32} {n : Nat} {rk k a b : Int32} {q i : Nat} (h1 : q ≠ 154) (h2 : q ≠ 140 ∨ (i ≠ 18 ∧ i ≠ 5)) (h3 : q ≠ 144) (h4 : q ≠ 145) (h5 : q ≠ 146) (h6 : q ≠ 147) (h7 : q ≠ 148) : mCm σ n rk k a b q i = σ q i := by
  unfold mCm
  rw [up2_at, if_neg (by omega), up2_k h7, up2_k h6, up2_k h5, up2_k h4, up2_k h3, mcx_k h1 (by omega)]
theorem mCm_18 {σ : Nat → Nat → Int32} {n nc : Nat} {rk k a b : Int32} (h : MB σ n nc) (hn : n < 24) : ∃ c, c ≤ nc + n ∧ nc ≤ c ∧ mcx n rk k σ n 140 18 = nI c ∧ MB (mCm σ n rk k a b) (n + 1) c := by
  obtain ⟨h1, h2, h3⟩ := h
  have hnc3 : nc + n < 300 := by
    have h1 : n * (n - 1) ≤ 23 * 22 := Nat.mul_le_mul (by omega) (by omega)
    omega
  obtain ⟨c, c1, c2, c3⟩ := mcx_c (rk := rk) (k := k) hn hnc3 h2 n (Nat.le_refl _)
  refine ⟨c, c1, c2, c3, mCm_5, ?_, ?_⟩
  · unfold mCm
    rw [up2_j (by decide), up2_k (by decide), up2_k (by decide), up2_k (by decide), up2_k (by decide), up2_k (by decide)]
    exact c3
  · have e1 : (n + 1) * (n + 1 - 1) = n * (n - 1) + 2 * n := by
      cases n with
      | zero => rfl
      | succ m => simp only [Nat.add_sub_cancel]; rw [Nat.add_mul, Nat.mul_add, Nat.mul_add]; omega
    omega
def adM (σ : Nat → Nat → Int32) (n : Nat) : List RUL → Nat → Nat → Int32
  | [] => σ
  | x :: l => adM (mCm σ n x.1 (nI x.2.1) x.2.2.1 x.2.2.2) (n + 1) l
theorem adM_app {σ : Nat → Nat → Int32} {n : Nat} (l : List RUL) (x : RUL) : adM σ n (l ++ [x]) = mCm (adM σ n l) (n + l.length) x.1 (nI x.2.1) x.2.2.1 x.2.2.2 := by
  induction l generalizing σ n with
  | nil => rfl
  | cons y l ih =>
    show adM (mCm σ n y.1 (nI y.2.1) y.2.2.1 y.2.2.2) (n + 1) (l ++ [x]) = _
    rw [ih]
    show mCm (adM (mCm σ n y.1 (nI y.2.1) y.2.2.1 y.2.2.2) (n + 1) l) _ _ _ _ _ = mCm (adM (mCm σ n y.1 (nI y.2.1) y.2.2.1 y.2.2.2) (n + 1) l) _ _ _ _ _
    rw [show n + 1 + l.length = n + (y :: l).length by simp; omega]
theorem adM_MB {σ : Nat → Nat → Int32} {n nc : Nat} (l : List RUL) (h : MB σ n nc) (hl : n + l.length ≤ 24) : ∃ c, MB (adM σ n l) (n + l.length) c := by
  induction l generalizing σ n nc with
  | nil => exact ⟨nc, h⟩
  | cons x l ih =>
    simp only [List.length_cons] at hl
    obtain ⟨c, -, -, -, h2⟩ := mCm_18 (rk := x.1) (k := nI x.2.1) (a := x.2.2.1) (b := x.2.2.2) h (by omega)
    obtain ⟨c2, h3⟩ := ih h2 (by omega)
    exact ⟨c2, by rw [show n + (x :: l).length = n + 1 + l.length by simp; omega]; exact h3⟩
theorem adM_k {σ : Nat → Nat → Int32} {n q i : Nat} (l : List RUL) (h1 : q ≠ 154) (h2 : q ≠ 140 ∨ (i ≠ 18 ∧ i ≠ 5)) (h3 : q ≠ 144) (h4 : q ≠ 145) (h5 : q ≠ 146) (h6 : q ≠ 147) (h7 : q ≠ 148) : adM σ n l q i = σ q i := by
  induction l generalizing σ n with
  | nil => rfl
  | cons x l ih =>
    show adM (mCm σ n x.1 (nI x.2.1) x.2.2.1 x.2.2.2) (n + 1) l q i = σ q i
    rw [ih, mCm_k h1 h2 h3 h4 h5 h6 h7]
theorem MXF.upx {s t : Nat → Nat → Int32} (h : MXF s t) {c j : Nat} {v : Int32} : MXF (up2 s c j v) (up2 t c j v) := fun q i hq => by
  rw [up2_at, up2_at]
  split
  · rfl
  · exact h q i hq
theorem mcx_X {s t : Nat → Nat → Int32} {n : Nat} {rk k : Int32} (h : MXF s t) (i : Nat) : MXF (mcx n rk k s i) (mcx n rk k t i) := by
  induction i with
  | zero => exact h
  | succ i ih =>
    show MXF (mcn n rk k (mcx n rk k s i) i) (mcn n rk k (mcx n rk k t i) i)
    unfold mcn
    rw [ih 144 i (by omega), ih 145 i (by omega), ih 140 18 (by omega)]
    split
    · exact ((ih.upx).upx).upx
    · exact ih
theorem mCm_X {s t : Nat → Nat → Int32} {n : Nat} {rk k a b : Int32} (h : MXF s t) : MXF (mCm s n rk k a b) (mCm t n rk k a b) := ((((((mcx_X h n).upx).upx).upx).upx).upx).upx
def mrP (r : Except Nat (List RUL)) (n : Nat) (v : Option Value) (s1 σ : Nat → Nat → Int32) : Prop := match r with
  | .error e => v = some (.int (-1 - nI e)) ∧ ∃ s, MXF s σ ∧ s1 = up2 s 140 22 0
  | .ok l => v = some (.int (nI l.length)) ∧ ∃ s, MXF s (adM σ n l) ∧ s1 = up2 s 140 22 0
theorem mrP_e {r : Except Nat (List RUL)} {n e : Nat} {v : Option Value} {s s1 σ : Nat → Nat → Int32} (h : r = .error e) (h1 : v = some (.int (-1 - nI e))) (h2 : MXF s σ) (h3 : s1 = up2 s 140 22 0) : mrP r n v s1 σ := by
  subst h
  exact ⟨h1, s, h2, h3⟩
theorem mrP_o {r : Except Nat (List RUL)} {n : Nat} {l : List RUL} {v : Option Value} {s s1 σ : Nat → Nat → Int32} (h : r = .ok l) (h1 : v = some (.int (nI l.length))) (h2 : MXF s (adM σ n l)) (h3 : s1 = up2 s 140 22 0) : mrP r n v s1 σ := by
  subst h
  exact ⟨h1, s, h2, h3⟩
theorem pln_b {T : Nat → Int32} {N p e : Nat} (h : pln T N p = .error e) : e ≤ p + 60 := by
  have pnb : ∀ p lo hi e, pnr T N p lo hi = .error e → e ≤ p + 7 := by
    intro p lo hi e h
    unfold pnr at h
    cases h1 : pnm T N p with
    | error e1 => have := pnm_b h1; simp [h1] at h; omega
    | ok r =>
      obtain ⟨v, d⟩ := r
      simp only [h1] at h
      split at h <;> simp at h
      omega
  have kb : ∀ p e, pkd T N p = .error e → e ≤ p + 6 := by
    intro p e h
    obtain ⟨h1, h2⟩ := pkf_o (T := T) (N := N) (p := p) (k0 := 0) (by decide) 11 (by decide)
    obtain ⟨z, hz, hz2⟩ := h2.resolve_left (by decide)
    unfold pkd at h
    split at h
    · simp at h
    · rw [hz2, nI_clamp (by omega)] at h; simp at h; omega
  unfold pln at h
  cases h1 : pnr T N p 1 100 with
  | error e => have := pnb _ _ _ _ h1; simp [h1] at h; omega
  | ok r1 =>
    obtain ⟨rk, q1⟩ := r1
    simp only [h1] at h
    have d1 := (pnr_d h1).1
    split at h
    · cases h2 : pkd T N (q1 + 1) with
      | error e => have := kb _ _ h2; simp [h2] at h; omega
      | ok r2 =>
        obtain ⟨k, q2⟩ := r2
        simp only [h2] at h
        have d2 := (pkd_d h2).1
        split at h
        · cases h3 : pnr T N (q2 + 1) (kLe k) (kMo k) with
          | error e => have := pnb _ _ _ _ h3; simp only [h3] at h; simp at h; omega
          | ok r3 =>
            obtain ⟨a, q3⟩ := r3
            simp only [h3] at h
            have d3 := (pnr_d h3).1
            have hen : ∀ r q, pen T N r q = .error e → e ≤ q := by
              intro r q hp
              unfold pen at hp
              split at hp
              · split at hp <;> simp at hp
                omega
              · simp at hp
            by_cases y2 : kNu k = 2
            · simp only [if_pos y2] at h
              split at h
              · cases h4 : pnr T N (q3 + 1) (kLe k) (kMo k) with
                | error e => have := pnb _ _ _ _ h4; simp only [h4] at h; simp at h; omega
                | ok r4 =>
                  obtain ⟨b, q4⟩ := r4
                  simp only [h4] at h
                  have d4 := (pnr_d h4).1
                  have := hen _ _ h
                  omega
              · simp at h; omega
            · simp only [if_neg y2] at h
              have := hen _ _ h
              omega
        · simp at h; omega
    · simp at h; omega
theorem prs_eb {T : Nat → Int32} {N : Nat} (hN : N ≤ 400) (r p e : Nat) (h : prs T N r p = .error e) : e ≤ 500 := by
  induction r generalizing p with
  | zero =>
    unfold prs at h
    split at h
    · simp at h; omega
    · simp at h
  | succ r ih =>
    by_cases hp : p < N
    · cases h1 : pln T N p with
      | error e1 => rw [prs_e hp h1] at h; simp at h; have := pln_b h1; omega
      | ok y =>
        obtain ⟨x, q⟩ := y
        rw [prs_s hp h1] at h
        cases h2 : prs T N r q with
        | error e2 => rw [h2] at h; simp [prp] at h; subst h; exact ih q h2
        | ok l2 => rw [h2] at h; simp [prp] at h
    · rw [prs_n hp] at h; simp at h
theorem prs_ok {T : Nat → Int32} {N r p : Nat} {l : List RUL} (h : p < N) (h2 : prs T N r p = .ok l) : ∃ (y : RUL × Nat) (l3 : List RUL), pln T N p = .ok y ∧ prs T N (r - 1) y.2 = .ok l3 ∧ l = y.1 :: l3 := by
  cases r with
  | zero => rw [prs_0 h] at h2; simp at h2
  | succ r =>
    cases h1 : pln T N p with
    | error e => rw [prs_e h h1] at h2; simp at h2
    | ok y =>
      obtain ⟨x, q⟩ := y
      rw [prs_s h h1] at h2
      cases h3 : prs T N r q with
      | error e => rw [h3] at h2; simp [prp] at h2
      | ok l3 =>
        rw [h3] at h2
        simp only [prp, Except.ok.injEq] at h2
        exact ⟨(x, q), l3, rfl, h3, h2.symm⟩
set_option maxHeartbeats 4000000 in
set_option maxRecDepth 100000 in
theorem k_MD_read (l : Launch) (G : gP) (ad : Nat → Nat) (σ : Nat → Nat → Int32) (τ : Nat → Nat → Int64) (n nc : Nat) (hB : MB σ n nc) (hnn : n ≤ 24) (N : Nat) (hN : σ 140 22 = nI N) (hN4 : N ≤ 400) (hNM : NMH σ) : gim l y_MD_read c_MD_read 2 (some .int) { frames := 4, cells := 0, slots := 0, locals := 88 } G ad σ τ [.ref (ad 140)] 0 0 (fun v σ1 τ1 => mrP (prs (σ 156) N (24 - n) 0) n v σ1 (up2 σ 140 0 0) ∧ τ1 = τ) (fun _ => False) := by
  refine gs_of (fun _ h => h) (by decide) (Nat.le_of_ble_eq_true rfl) ?_
  intro p e s m args below meth c ls S hk hr hx hl hO
  have hl : lv_has ls 2 [(0, .ref (ad 140))] := hl
  refine lv_aload_n S.1 S.2.1 d_MD_read_0 rfl (lv_at hl 0 rfl) ?_
  refine lv_iconst (v := 0) S.1 S.2.1 d_MD_read_1 (by decide) ?_
  obtain ⟨sx, hsx⟩ : ∃ z : Nat → Nat → Int32, z = up2 σ 140 0 0 := ⟨_, rfl⟩
  refine g_put S hO (fun _ h => h) fp_MD_63 (by decide) (sh_140 G ad _ _) (v := .int 0) rfl rfl (Nat.le_of_ble_eq_true rfl) (E2 := enc G ad sx τ) (by rw [hsx]; exact enc_i (sh_140 G ad _ _)) d_MD_read_2 (fun H locs hO => ?_)
  refine lv_aload_n S.1 S.2.1 d_MD_read_5 rfl (lv_at hl 0 rfl) ?_
  refine lv_iconst (v := (-1)) S.1 S.2.1 d_MD_read_6 (by decide) ?_
  obtain ⟨sy, hsy⟩ : ∃ z : Nat → Nat → Int32, z = up2 sx 140 25 (-1) := ⟨_, rfl⟩
  refine g_put S hO (fun _ h => h) fp_MD_117 (by decide) (sh_140 G ad _ _) (v := .int (-1)) rfl rfl (Nat.le_of_ble_eq_true rfl) (E2 := enc G ad sy τ) (by rw [hsy]; exact enc_i (sh_140 G ad _ _)) d_MD_read_7 (fun H locs hO => ?_)
  refine lv_iconst (v := 0) S.1 S.2.1 d_MD_read_10 (by decide) ?_
  refine lv_istore_n (lv' := [(1, .int 0), (0, .ref (ad 140))]) S.1 S.2.1 d_MD_read_11 rfl hl (by decide) rfl (fun ls hl => ?_)
  refine lv_aload_n S.1 S.2.1 d_MD_read_12 rfl (lv_at hl 1 rfl) ?_
  refine lv_iconst (v := 0) S.1 S.2.1 d_MD_read_13 (by decide) ?_
  obtain ⟨sz, hsz⟩ : ∃ z : Nat → Nat → Int32, z = up2 sy 140 24 0 := ⟨_, rfl⟩
  refine g_put S hO (fun _ h => h) fp_MD_114 (by decide) (sh_140 G ad _ _) (v := .int 0) rfl rfl (Nat.le_of_ble_eq_true rfl) (E2 := enc G ad sz τ) (by rw [hsz]; exact enc_i (sh_140 G ad _ _)) d_MD_read_14 (fun H locs hO => ?_)
  have K_17 : ∀ (n9 : Nat) (j p9 : Nat) (l0 : List RUL) (s9 : Nat → Nat → Int32), 25 - j < n9 → (n + j ≤ 24) → (l0.length = j) → (prs (σ 156) N (24 - n) 0 = prp l0 (prs (σ 156) N (24 - n - j) p9)) → (MXF s9 (up2 σ 140 0 0)) → (s9 140 24 = nI p9) → (s9 140 25 = (-1)) → (p9 < 900) → ∀ (H : Heap) (locs : List Loc), gO G (gA G) 159 ad (enc G ad s9 τ) s H locs → ∀ ls : Array Slot, lv_has ls 2 [(1, .int (nI j)), (0, .ref (ad 140))] → W p l e { frames := 4, cells := 0, slots := 0, locals := 88 } s m args below meth c H locs 0 0 (gM below (gA G) 0 0 (fun v t => ∃ E1, (∃ σ1 τ1, E1 = enc G ad σ1 τ1 ∧ (fun v σ1 τ1 => mrP (prs (σ 156) N (24 - n) 0) n v σ1 (up2 σ 140 0 0) ∧ τ1 = τ) v σ1 τ1) ∧ va_P G.1 gcl (gw 159 ad E1) t.heap) (fun x t => (fun _ => False) x ∧ va_P G.1 gcl (gw 159 ad (enc G ad σ τ)) t.heap) args s) (F0 m 17 ls []) := by
    intro n9
    induction n9 with
    | zero =>
      intro j p9 l0 s9 hn9 hj hl0 hq hF h24 h25 hp9 H locs hO ls hl
      exact absurd hn9 (Nat.not_lt_zero _)
    | succ n9 ih_17 =>
      intro j p9 l0 s9 hn9 hj hl0 hq hF h24 h25 hp9 H locs hO ls hl
      have hN9 : s9 140 22 = nI N := by rw [hF 140 22 (by omega), up2_j (by decide)]; exact hN
      have hT : s9 156 = σ 156 := funext (fun j => by rw [hF 156 j (by omega), up2_k (by decide)])
      have hr9 : s9 140 5 = nI n := by rw [hF 140 5 (by omega), up2_j (by decide)]; exact hB.1
      have hc9 : s9 140 18 = nI nc := by rw [hF 140 18 (by omega), up2_j (by decide)]; exact hB.2.1
      have hM9 : NMH s9 := fun k j h1 h2 => by rw [hF 157 (8 * k + j) (by omega), up2_k (by decide)]; exact hNM k j h1 h2
      refine lv_aload_n S.1 S.2.1 d_MD_read_17 rfl (lv_at hl 1 rfl) ?_
      refine g_get S hO fl_MD_114 (by decide) (sh_140 G ad _ _) (v := .int (s9 140 24)) rfl d_MD_read_18 ?_
      refine W.eq (g2 := F0 m 21 ls [.int (nI p9)]) (by rw [show s9 140 24 = nI p9 from h24]) ?_
      refine lv_aload_n S.1 S.2.1 d_MD_read_21 rfl (lv_at hl 1 rfl) ?_
      refine g_get S hO fl_MD_111 (by decide) (sh_140 G ad _ _) (v := .int (s9 140 22)) rfl d_MD_read_22 ?_
      refine W.eq (g2 := F0 m 25 ls [.int (nI N), .int (nI p9)]) (by rw [show s9 140 22 = nI N from hN9]) ?_
      refine lv_icmp_ge (tgt := 68) S.1 S.2.1 d_MD_read_25 (by decide) (fun c_25 => ?_) (fun c_25 => ?_)
      · skip
        have hge : N ≤ p9 := ge_nI (x := nI N) rfl rfl (by omega) (by omega) c_25
        have hall : prs (σ 156) N (24 - n - ([] : List RUL).length) 0 = .ok l0 := by
          show prs (σ 156) N (24 - n) 0 = .ok l0
          rw [hq, prs_n (Nat.not_lt.mpr hge)]
          simp [prp]
        refine lv_aload_n S.1 S.2.1 d_MD_read_68 rfl (lv_at hl 1 rfl) ?_
        refine lv_iconst (v := 0) S.1 S.2.1 d_MD_read_69 (by decide) ?_
        obtain ⟨sw, hsw⟩ : ∃ z : Nat → Nat → Int32, z = up2 s9 140 24 0 := ⟨_, rfl⟩
        refine g_put S hO (fun _ h => h) fp_MD_114 (by decide) (sh_140 G ad _ _) (v := .int 0) rfl rfl (Nat.le_of_ble_eq_true rfl) (E2 := enc G ad sw τ) (by rw [hsw]; exact enc_i (sh_140 G ad _ _)) d_MD_read_70 (fun H locs hO => ?_)
        have K_73 : ∀ (n9 : Nat) (p8 : Nat) (l1 l2 : List RUL) (s8 : Nat → Nat → Int32), l2.length < n9 → (l0 = l1 ++ l2) → (prs (σ 156) N (24 - n - l1.length) p8 = .ok l2) → (MXF s8 (adM (up2 σ 140 0 0) n l1)) → (s8 140 24 = nI p8) → (s8 140 25 = (-1)) → (p8 < 900) → ∀ (H : Heap) (locs : List Loc), gO G (gA G) 159 ad (enc G ad s8 τ) s H locs → ∀ ls : Array Slot, lv_has ls 2 [(1, .int (nI j)), (0, .ref (ad 140))] → W p l e { frames := 4, cells := 0, slots := 0, locals := 88 } s m args below meth c H locs 0 0 (gM below (gA G) 0 0 (fun v t => ∃ E1, (∃ σ1 τ1, E1 = enc G ad σ1 τ1 ∧ (fun v σ1 τ1 => mrP (prs (σ 156) N (24 - n) 0) n v σ1 (up2 σ 140 0 0) ∧ τ1 = τ) v σ1 τ1) ∧ va_P G.1 gcl (gw 159 ad E1) t.heap) (fun x t => (fun _ => False) x ∧ va_P G.1 gcl (gw 159 ad (enc G ad σ τ)) t.heap) args s) (F0 m 73 ls []) := by
          intro n9
          induction n9 with
          | zero =>
            intro p8 l1 l2 s8 hn9 hl12 hp8 hF8 h248 h258 hp89 H locs hO ls hl
            exact absurd hn9 (Nat.not_lt_zero _)
          | succ n9 ih_73 =>
            intro p8 l1 l2 s8 hn9 hl12 hp8 hF8 h248 h258 hp89 H locs hO ls hl
            have hN8 : s8 140 22 = nI N := by rw [hF8 140 22 (by omega), adM_k _ (by decide) (by decide) (by decide) (by decide) (by decide) (by decide) (by decide), up2_j (by decide)]; exact hN
            have hT : s8 156 = σ 156 := funext (fun j => by rw [hF8 156 j (by omega), adM_k _ (by decide) (Or.inl (by decide)) (by decide) (by decide) (by decide) (by decide) (by decide), up2_k (by decide)])
            have hM8 : NMH s8 := fun k j h1 h2 => by rw [hF8 157 (8 * k + j) (by omega), adM_k _ (by decide) (Or.inl (by decide)) (by decide) (by decide) (by decide) (by decide) (by decide), up2_k (by decide)]; exact hNM k j h1 h2
            refine lv_aload_n S.1 S.2.1 d_MD_read_73 rfl (lv_at hl 1 rfl) ?_
            refine g_get S hO fl_MD_114 (by decide) (sh_140 G ad _ _) (v := .int (s8 140 24)) rfl d_MD_read_74 ?_
            refine W.eq (g2 := F0 m 77 ls [.int (nI p8)]) (by rw [show s8 140 24 = nI p8 from h248]) ?_
            refine lv_aload_n S.1 S.2.1 d_MD_read_77 rfl (lv_at hl 1 rfl) ?_
            refine g_get S hO fl_MD_111 (by decide) (sh_140 G ad _ _) (v := .int (s8 140 22)) rfl d_MD_read_78 ?_
            refine W.eq (g2 := F0 m 81 ls [.int (nI N), .int (nI p8)]) (by rw [show s8 140 22 = nI N from hN8]) ?_
            refine lv_icmp_ge (tgt := 99) S.1 S.2.1 d_MD_read_81 (by decide) (fun c_81 => ?_) (fun c_81 => ?_)
            · skip
              have hge8 : N ≤ p8 := ge_nI (x := nI N) rfl rfl (by omega) (by omega) c_81
              have hl2 : l2 = [] := by
                rw [prs_n (Nat.not_lt.mpr hge8)] at hp8
                exact (Except.ok.inj hp8).symm
              refine lv_aload_n S.1 S.2.1 d_MD_read_99 rfl (lv_at hl 1 rfl) ?_
              refine lv_iconst (v := 0) S.1 S.2.1 d_MD_read_100 (by decide) ?_
              obtain ⟨sv, hsv⟩ : ∃ z : Nat → Nat → Int32, z = up2 s8 140 22 0 := ⟨_, rfl⟩
              refine g_put S hO (fun _ h => h) fp_MD_111 (by decide) (sh_140 G ad _ _) (v := .int 0) rfl rfl (Nat.le_of_ble_eq_true rfl) (E2 := enc G ad sv τ) (by rw [hsv]; exact enc_i (sh_140 G ad _ _)) d_MD_read_101 (fun H locs hO => ?_)
              refine lv_aload_n S.1 S.2.1 d_MD_read_104 rfl (lv_at hl 1 rfl) ?_
              refine g_get S hO fl_MD_117 (by decide) (sh_140 G ad _ _) (v := .int (sv 140 25)) rfl d_MD_read_105 ?_
              refine W.eq (g2 := F0 m 108 ls [.int (-1)]) (by rw [show sv 140 25 = (-1) from (by simp [hsv, up2_at, h258])]) ?_
              refine lv_if_lt (tgt := 120) S.1 S.2.1 d_MD_read_108 (by decide) (fun c_108 => ?_) (fun c_108 => ?_)
              · skip
                refine lv_iload_n S.1 S.2.1 d_MD_read_120 rfl (lv_at hl 0 rfl) ?_
                exact im_i S hk hr hO ⟨mrP_o (l := l0) (s := s8) hall (by rw [hl0]) (by rw [hl12, hl2, List.append_nil]; exact hF8) hsv, rfl⟩ (Nat.le_of_ble_eq_true rfl) (Nat.le_of_ble_eq_true rfl) d_MD_read_121
              · skip
                exact absurd (by decide) c_108
            · skip
              have hlt8 : p8 < N := ngt_nI (x := nI N) rfl rfl (by omega) (by omega) c_81
              have hl1 : l1.length + 1 ≤ 24 - n := by
                obtain ⟨y, l4, -, -, z⟩ := prs_ok hlt8 hp8
                have h9 := (prs_len _ _ _ hp8).1
                rw [z] at h9; simp at h9
                omega
              obtain ⟨nc8, hB8⟩ := adM_MB (n := n) (nc := nc) (σ := (up2 σ 140 0 0)) l1 ⟨by rw [up2_j (by decide)]; exact hB.1, by rw [up2_j (by decide)]; exact hB.2.1, hB.2.2⟩ (by omega)
              refine lv_aload_n S.1 S.2.1 d_MD_read_84 rfl (lv_at hl 1 rfl) ?_
              refine g_get S hO fl_MD_117 (by decide) (sh_140 G ad _ _) (v := .int (s8 140 25)) rfl d_MD_read_85 ?_
              refine W.eq (g2 := F0 m 88 ls [.int (-1)]) (by rw [show s8 140 25 = (-1) from h258]) ?_
              refine lv_if_ge (tgt := 99) S.1 S.2.1 d_MD_read_88 (by decide) (fun c_88 => ?_) (fun c_88 => ?_)
              · skip
                exact absurd c_88 (by decide)
              · skip
                refine lv_aload_n S.1 S.2.1 d_MD_read_91 rfl (lv_at hl 1 rfl) ?_
                refine lv_iconst (v := 1) S.1 S.2.1 d_MD_read_92 (by decide) ?_
                refine g_VI (As := [.int 1]) (rest := []) S hO (fun _ h => h) (k_MD_line l G ad s8 τ true (n + l1.length) (fun _ => by omega) (by rw [hF8 140 5 (by omega)]; exact hB8.1) nc8 (by rw [hF8 140 18 (by omega)]; exact hB8.2.1) hB8.2.2 N hN8 hN4 p8 h248 (by omega) h258 hM8) cw_MD_152 (by decide) (sh_140 G ad _ _) rfl rfl hl.1 (Nat.le_of_ble_eq_true rfl) ⟨(Nat.le_of_ble_eq_true rfl), (Nat.le_of_ble_eq_true rfl)⟩ ⟨(Nat.le_of_ble_eq_true rfl), (Nat.le_of_ble_eq_true rfl)⟩ d_MD_read_93 (fun q x ce H locs h9 => h9.elim) (fun v E1 H locs v_1 hO => ?_)
                obtain ⟨s1, t_2, rfl, rfl, ⟨s3, hM3, hc3⟩, ht_2⟩ := v_1
                rw [ht_2] at hO
                rw [hT] at hc3
                obtain ⟨⟨x1, q1⟩, l3, hr1, hr2, rfl⟩ := prs_ok hlt8 hp8
                rw [hr1] at hc3
                obtain ⟨h253, h243, hs13⟩ := hc3
                rw [if_pos rfl] at hs13
                have hz1 := (pln_d hr1).1
                · skip
                  refine W.eq (g2 := F0 m 96 ls []) rfl ?_
                  refine lv_goto (tgt := 73) S.1 S.2.1 d_MD_read_96 (by decide) ?_
                  exact ih_73 q1 (l1 ++ [x1]) l3 s1 (by simp at hn9; omega) (by rw [hl12]; simp) (by rw [show 24 - n - (l1 ++ [x1]).length = 24 - n - l1.length - 1 by simp; omega]; exact hr2) (by rw [hs13, adM_app]; exact mCm_X (MXF.trans hF8 hM3)) (by rw [hs13, mCm_k (by decide) (by decide) (by decide) (by decide) (by decide) (by decide) (by decide)]; exact h243) (by rw [hs13, mCm_k (by decide) (by decide) (by decide) (by decide) (by decide) (by decide) (by decide)]; exact h253) (by omega) _ _ hO ls (lv_sub hl [0, 1] rfl)
        exact K_73 (l0.length + 1) 0 [] l0 sw (by omega) rfl hall (by rw [hsw]; exact hF.up (by omega)) (by rw [hsw, up2_s]; rfl) (by rw [hsw, up2_j (by decide)]; exact h25) (by omega) _ _ hO ls (lv_sub hl [0, 1] rfl)
      · skip
        have hlt : p9 < N := ngt_nI (x := nI N) rfl rfl (by omega) (by omega) c_25
        refine lv_aload_n S.1 S.2.1 d_MD_read_28 rfl (lv_at hl 1 rfl) ?_
        refine g_get S hO fl_MD_117 (by decide) (sh_140 G ad _ _) (v := .int (s9 140 25)) rfl d_MD_read_29 ?_
        refine W.eq (g2 := F0 m 32 ls [.int (-1)]) (by rw [show s9 140 25 = (-1) from h25]) ?_
        refine lv_if_ge (tgt := 68) S.1 S.2.1 d_MD_read_32 (by decide) (fun c_32 => ?_) (fun c_32 => ?_)
        · skip
          exact absurd c_32 (by decide)
        · skip
          refine lv_aload_n S.1 S.2.1 d_MD_read_35 rfl (lv_at hl 1 rfl) ?_
          refine g_get S hO fl_MD_94 (by decide) (sh_140 G ad _ _) (v := .int (s9 140 5)) rfl d_MD_read_36 ?_
          refine W.eq (g2 := F0 m 39 ls [.int (nI n)]) (by rw [show s9 140 5 = nI n from hr9]) ?_
          refine lv_iload_n S.1 S.2.1 d_MD_read_39 rfl (lv_at hl 0 rfl) ?_
          refine lv_iadd S.1 S.2.1 d_MD_read_40 ?_
          refine W.eq (g2 := F0 m 41 ls [.int (nI (n + j))]) (by rw [show (nI n) + (nI j) = nI (n + j) from nI_add n j]) ?_
          refine lv_bipush (v := 24) S.1 S.2.1 d_MD_read_41 (by decide) ?_
          refine lv_icmp_ne (tgt := 57) S.1 S.2.1 d_MD_read_43 (by decide) (fun c_43 => ?_) (fun c_43 => ?_)
          · skip
            have hn24 : n + j ≠ 24 := fun z => c_43 (by rw [z]; rfl)
            have e6 : 24 - n - j = (24 - n - (j + 1)) + 1 := by omega
            refine lv_aload_n S.1 S.2.1 d_MD_read_57 rfl (lv_at hl 1 rfl) ?_
            refine lv_iconst (v := 0) S.1 S.2.1 d_MD_read_58 (by decide) ?_
            refine g_VI (As := [.int 0]) (rest := []) S hO (fun _ h => h) (k_MD_line l G ad s9 τ false n (fun z => absurd z (by decide)) hr9 nc hc9 hB.2.2 N hN9 hN4 p9 h24 (by omega) h25 hM9) cw_MD_152 (by decide) (sh_140 G ad _ _) rfl rfl hl.1 (Nat.le_of_ble_eq_true rfl) ⟨(Nat.le_of_ble_eq_true rfl), (Nat.le_of_ble_eq_true rfl)⟩ ⟨(Nat.le_of_ble_eq_true rfl), (Nat.le_of_ble_eq_true rfl)⟩ d_MD_read_59 (fun q x ce H locs h9 => h9.elim) (fun v E1 H locs v_3 hO => ?_)
            obtain ⟨s1, t_4, rfl, rfl, ⟨s3, hM3, hc3⟩, ht_4⟩ := v_3
            rw [ht_4] at hO
            rw [hT] at hc3
            rcases hr1 : pln (σ 156) N p9 with e1 | ⟨x1, q1⟩
            · skip
              rw [hr1] at hc3
              obtain ⟨rfl, h253⟩ := hc3
              have he1 := pln_b hr1
              have hF3 : MXF s1 (up2 σ 140 0 0) := MXF.trans hF hM3
              have hN3 : s1 140 22 = nI N := by rw [hF3 140 22 (by omega), up2_j (by decide)]; exact hN
              refine W.eq (g2 := F0 m 62 ls []) rfl ?_
              refine lv_iinc (v := nI (j + 1)) (lv' := [(1, .int (nI (j + 1))), (0, .ref (ad 140))]) S.1 S.2.1 d_MD_read_62 hl (k := 0) rfl (nI_1 _) (by decide) rfl (fun ls hl => ?_)
              refine lv_goto (tgt := 17) S.1 S.2.1 d_MD_read_65 (by decide) ?_
              refine lv_aload_n S.1 S.2.1 d_MD_read_17 rfl (lv_at hl 1 rfl) ?_
              refine g_get S hO fl_MD_114 (by decide) (sh_140 G ad _ _) (v := .int (s1 140 24)) rfl d_MD_read_18 ?_
              refine lv_aload_n S.1 S.2.1 d_MD_read_21 rfl (lv_at hl 1 rfl) ?_
              refine g_get S hO fl_MD_111 (by decide) (sh_140 G ad _ _) (v := .int (s1 140 22)) rfl d_MD_read_22 ?_
              refine W.eq (g2 := F0 m 25 ls [.int (nI N), .int (s1 140 24)]) (by rw [show s1 140 22 = nI N from hN3]) ?_
              refine lv_icmp_ge (tgt := 68) S.1 S.2.1 d_MD_read_25 (by decide) (fun c_25 => ?_) (fun c_25 => ?_)
              · skip
                refine lv_aload_n S.1 S.2.1 d_MD_read_68 rfl (lv_at hl 1 rfl) ?_
                refine lv_iconst (v := 0) S.1 S.2.1 d_MD_read_69 (by decide) ?_
                obtain ⟨sw, hsw⟩ : ∃ z : Nat → Nat → Int32, z = up2 s1 140 24 0 := ⟨_, rfl⟩
                refine g_put S hO (fun _ h => h) fp_MD_114 (by decide) (sh_140 G ad _ _) (v := .int 0) rfl rfl (Nat.le_of_ble_eq_true rfl) (E2 := enc G ad sw τ) (by rw [hsw]; exact enc_i (sh_140 G ad _ _)) d_MD_read_70 (fun H locs hO => ?_)
                refine lv_aload_n S.1 S.2.1 d_MD_read_73 rfl (lv_at hl 1 rfl) ?_
                refine g_get S hO fl_MD_114 (by decide) (sh_140 G ad _ _) (v := .int (sw 140 24)) rfl d_MD_read_74 ?_
                refine W.eq (g2 := F0 m 77 ls [.int 0]) (by rw [show sw 140 24 = 0 from (by simp [hsw, up2_at])]) ?_
                refine lv_aload_n S.1 S.2.1 d_MD_read_77 rfl (lv_at hl 1 rfl) ?_
                refine g_get S hO fl_MD_111 (by decide) (sh_140 G ad _ _) (v := .int (sw 140 22)) rfl d_MD_read_78 ?_
                refine W.eq (g2 := F0 m 81 ls [.int (nI N), .int 0]) (by rw [show sw 140 22 = nI N from (by simp [hsw, up2_at, hN3])]) ?_
                refine lv_icmp_ge (tgt := 99) S.1 S.2.1 d_MD_read_81 (by decide) (fun c_81 => ?_) (fun c_81 => ?_)
                · skip
                  refine lv_aload_n S.1 S.2.1 d_MD_read_99 rfl (lv_at hl 1 rfl) ?_
                  refine lv_iconst (v := 0) S.1 S.2.1 d_MD_read_100 (by decide) ?_
                  obtain ⟨sv, hsv⟩ : ∃ z : Nat → Nat → Int32, z = up2 sw 140 22 0 := ⟨_, rfl⟩
                  refine g_put S hO (fun _ h => h) fp_MD_111 (by decide) (sh_140 G ad _ _) (v := .int 0) rfl rfl (Nat.le_of_ble_eq_true rfl) (E2 := enc G ad sv τ) (by rw [hsv]; exact enc_i (sh_140 G ad _ _)) d_MD_read_101 (fun H locs hO => ?_)
                  refine lv_aload_n S.1 S.2.1 d_MD_read_104 rfl (lv_at hl 1 rfl) ?_
                  refine g_get S hO fl_MD_117 (by decide) (sh_140 G ad _ _) (v := .int (sv 140 25)) rfl d_MD_read_105 ?_
                  refine W.eq (g2 := F0 m 108 ls [.int (nI e1)]) (by rw [show sv 140 25 = nI e1 from (by simp [hsv, hsw, up2_at, h253])]) ?_
                  refine lv_if_lt (tgt := 120) S.1 S.2.1 d_MD_read_108 (by decide) (fun c_108 => ?_) (fun c_108 => ?_)
                  · skip
                    exact absurd c_108 (nI_pos (by omega))
                  · skip
                    refine lv_iconst (v := (-1)) S.1 S.2.1 d_MD_read_111 (by decide) ?_
                    refine lv_aload_n S.1 S.2.1 d_MD_read_112 rfl (lv_at hl 1 rfl) ?_
                    refine g_get S hO fl_MD_117 (by decide) (sh_140 G ad _ _) (v := .int (sv 140 25)) rfl d_MD_read_113 ?_
                    refine W.eq (g2 := F0 m 116 ls [.int (nI e1), .int (-1)]) (by rw [show sv 140 25 = nI e1 from (by simp [hsv, hsw, up2_at, h253])]) ?_
                    refine lv_isub S.1 S.2.1 d_MD_read_116 ?_
                    refine lv_goto (tgt := 121) S.1 S.2.1 d_MD_read_117 (by decide) ?_
                    exact im_i S hk hr hO ⟨mrP_e (e := e1) (s := sw) (by rw [hq, e6, prs_e hlt hr1]; rfl) rfl (by rw [hsw]; exact hF3.up (by omega)) hsv, rfl⟩ (Nat.le_of_ble_eq_true rfl) (Nat.le_of_ble_eq_true rfl) d_MD_read_121
                · skip
                  refine lv_aload_n S.1 S.2.1 d_MD_read_84 rfl (lv_at hl 1 rfl) ?_
                  refine g_get S hO fl_MD_117 (by decide) (sh_140 G ad _ _) (v := .int (sw 140 25)) rfl d_MD_read_85 ?_
                  refine W.eq (g2 := F0 m 88 ls [.int (nI e1)]) (by rw [show sw 140 25 = nI e1 from (by simp [hsw, up2_at, h253])]) ?_
                  refine lv_if_ge (tgt := 99) S.1 S.2.1 d_MD_read_88 (by decide) (fun c_88 => ?_) (fun c_88 => ?_)
                  · skip
                    refine lv_aload_n S.1 S.2.1 d_MD_read_99 rfl (lv_at hl 1 rfl) ?_
                    refine lv_iconst (v := 0) S.1 S.2.1 d_MD_read_100 (by decide) ?_
                    obtain ⟨sv, hsv⟩ : ∃ z : Nat → Nat → Int32, z = up2 sw 140 22 0 := ⟨_, rfl⟩
                    refine g_put S hO (fun _ h => h) fp_MD_111 (by decide) (sh_140 G ad _ _) (v := .int 0) rfl rfl (Nat.le_of_ble_eq_true rfl) (E2 := enc G ad sv τ) (by rw [hsv]; exact enc_i (sh_140 G ad _ _)) d_MD_read_101 (fun H locs hO => ?_)
                    refine lv_aload_n S.1 S.2.1 d_MD_read_104 rfl (lv_at hl 1 rfl) ?_
                    refine g_get S hO fl_MD_117 (by decide) (sh_140 G ad _ _) (v := .int (sv 140 25)) rfl d_MD_read_105 ?_
                    refine W.eq (g2 := F0 m 108 ls [.int (nI e1)]) (by rw [show sv 140 25 = nI e1 from (by simp [hsv, hsw, up2_at, h253])]) ?_
                    refine lv_if_lt (tgt := 120) S.1 S.2.1 d_MD_read_108 (by decide) (fun c_108 => ?_) (fun c_108 => ?_)
                    · skip
                      exact absurd c_108 (nI_pos (by omega))
                    · skip
                      refine lv_iconst (v := (-1)) S.1 S.2.1 d_MD_read_111 (by decide) ?_
                      refine lv_aload_n S.1 S.2.1 d_MD_read_112 rfl (lv_at hl 1 rfl) ?_
                      refine g_get S hO fl_MD_117 (by decide) (sh_140 G ad _ _) (v := .int (sv 140 25)) rfl d_MD_read_113 ?_
                      refine W.eq (g2 := F0 m 116 ls [.int (nI e1), .int (-1)]) (by rw [show sv 140 25 = nI e1 from (by simp [hsv, hsw, up2_at, h253])]) ?_
                      refine lv_isub S.1 S.2.1 d_MD_read_116 ?_
                      refine lv_goto (tgt := 121) S.1 S.2.1 d_MD_read_117 (by decide) ?_
                      exact im_i S hk hr hO ⟨mrP_e (e := e1) (s := sw) (by rw [hq, e6, prs_e hlt hr1]; rfl) rfl (by rw [hsw]; exact hF3.up (by omega)) hsv, rfl⟩ (Nat.le_of_ble_eq_true rfl) (Nat.le_of_ble_eq_true rfl) d_MD_read_121
                  · skip
                    exact absurd (nI_pos' (by omega)) c_88
              · skip
                refine lv_aload_n S.1 S.2.1 d_MD_read_28 rfl (lv_at hl 1 rfl) ?_
                refine g_get S hO fl_MD_117 (by decide) (sh_140 G ad _ _) (v := .int (s1 140 25)) rfl d_MD_read_29 ?_
                refine W.eq (g2 := F0 m 32 ls [.int (nI e1)]) (by rw [show s1 140 25 = nI e1 from h253]) ?_
                refine lv_if_ge (tgt := 68) S.1 S.2.1 d_MD_read_32 (by decide) (fun c_32 => ?_) (fun c_32 => ?_)
                · skip
                  refine lv_aload_n S.1 S.2.1 d_MD_read_68 rfl (lv_at hl 1 rfl) ?_
                  refine lv_iconst (v := 0) S.1 S.2.1 d_MD_read_69 (by decide) ?_
                  obtain ⟨sw, hsw⟩ : ∃ z : Nat → Nat → Int32, z = up2 s1 140 24 0 := ⟨_, rfl⟩
                  refine g_put S hO (fun _ h => h) fp_MD_114 (by decide) (sh_140 G ad _ _) (v := .int 0) rfl rfl (Nat.le_of_ble_eq_true rfl) (E2 := enc G ad sw τ) (by rw [hsw]; exact enc_i (sh_140 G ad _ _)) d_MD_read_70 (fun H locs hO => ?_)
                  refine lv_aload_n S.1 S.2.1 d_MD_read_73 rfl (lv_at hl 1 rfl) ?_
                  refine g_get S hO fl_MD_114 (by decide) (sh_140 G ad _ _) (v := .int (sw 140 24)) rfl d_MD_read_74 ?_
                  refine W.eq (g2 := F0 m 77 ls [.int 0]) (by rw [show sw 140 24 = 0 from (by simp [hsw, up2_at])]) ?_
                  refine lv_aload_n S.1 S.2.1 d_MD_read_77 rfl (lv_at hl 1 rfl) ?_
                  refine g_get S hO fl_MD_111 (by decide) (sh_140 G ad _ _) (v := .int (sw 140 22)) rfl d_MD_read_78 ?_
                  refine W.eq (g2 := F0 m 81 ls [.int (nI N), .int 0]) (by rw [show sw 140 22 = nI N from (by simp [hsw, up2_at, hN3])]) ?_
                  refine lv_icmp_ge (tgt := 99) S.1 S.2.1 d_MD_read_81 (by decide) (fun c_81 => ?_) (fun c_81 => ?_)
                  · skip
                    refine lv_aload_n S.1 S.2.1 d_MD_read_99 rfl (lv_at hl 1 rfl) ?_
                    refine lv_iconst (v := 0) S.1 S.2.1 d_MD_read_100 (by decide) ?_
                    obtain ⟨sv, hsv⟩ : ∃ z : Nat → Nat → Int32, z = up2 sw 140 22 0 := ⟨_, rfl⟩
                    refine g_put S hO (fun _ h => h) fp_MD_111 (by decide) (sh_140 G ad _ _) (v := .int 0) rfl rfl (Nat.le_of_ble_eq_true rfl) (E2 := enc G ad sv τ) (by rw [hsv]; exact enc_i (sh_140 G ad _ _)) d_MD_read_101 (fun H locs hO => ?_)
                    refine lv_aload_n S.1 S.2.1 d_MD_read_104 rfl (lv_at hl 1 rfl) ?_
                    refine g_get S hO fl_MD_117 (by decide) (sh_140 G ad _ _) (v := .int (sv 140 25)) rfl d_MD_read_105 ?_
                    refine W.eq (g2 := F0 m 108 ls [.int (nI e1)]) (by rw [show sv 140 25 = nI e1 from (by simp [hsv, hsw, up2_at, h253])]) ?_
                    refine lv_if_lt (tgt := 120) S.1 S.2.1 d_MD_read_108 (by decide) (fun c_108 => ?_) (fun c_108 => ?_)
                    · skip
                      exact absurd c_108 (nI_pos (by omega))
                    · skip
                      refine lv_iconst (v := (-1)) S.1 S.2.1 d_MD_read_111 (by decide) ?_
                      refine lv_aload_n S.1 S.2.1 d_MD_read_112 rfl (lv_at hl 1 rfl) ?_
                      refine g_get S hO fl_MD_117 (by decide) (sh_140 G ad _ _) (v := .int (sv 140 25)) rfl d_MD_read_113 ?_
                      refine W.eq (g2 := F0 m 116 ls [.int (nI e1), .int (-1)]) (by rw [show sv 140 25 = nI e1 from (by simp [hsv, hsw, up2_at, h253])]) ?_
                      refine lv_isub S.1 S.2.1 d_MD_read_116 ?_
                      refine lv_goto (tgt := 121) S.1 S.2.1 d_MD_read_117 (by decide) ?_
                      exact im_i S hk hr hO ⟨mrP_e (e := e1) (s := sw) (by rw [hq, e6, prs_e hlt hr1]; rfl) rfl (by rw [hsw]; exact hF3.up (by omega)) hsv, rfl⟩ (Nat.le_of_ble_eq_true rfl) (Nat.le_of_ble_eq_true rfl) d_MD_read_121
                  · skip
                    refine lv_aload_n S.1 S.2.1 d_MD_read_84 rfl (lv_at hl 1 rfl) ?_
                    refine g_get S hO fl_MD_117 (by decide) (sh_140 G ad _ _) (v := .int (sw 140 25)) rfl d_MD_read_85 ?_
                    refine W.eq (g2 := F0 m 88 ls [.int (nI e1)]) (by rw [show sw 140 25 = nI e1 from (by simp [hsw, up2_at, h253])]) ?_
                    refine lv_if_ge (tgt := 99) S.1 S.2.1 d_MD_read_88 (by decide) (fun c_88 => ?_) (fun c_88 => ?_)
                    · skip
                      refine lv_aload_n S.1 S.2.1 d_MD_read_99 rfl (lv_at hl 1 rfl) ?_
                      refine lv_iconst (v := 0) S.1 S.2.1 d_MD_read_100 (by decide) ?_
                      obtain ⟨sv, hsv⟩ : ∃ z : Nat → Nat → Int32, z = up2 sw 140 22 0 := ⟨_, rfl⟩
                      refine g_put S hO (fun _ h => h) fp_MD_111 (by decide) (sh_140 G ad _ _) (v := .int 0) rfl rfl (Nat.le_of_ble_eq_true rfl) (E2 := enc G ad sv τ) (by rw [hsv]; exact enc_i (sh_140 G ad _ _)) d_MD_read_101 (fun H locs hO => ?_)
                      refine lv_aload_n S.1 S.2.1 d_MD_read_104 rfl (lv_at hl 1 rfl) ?_
                      refine g_get S hO fl_MD_117 (by decide) (sh_140 G ad _ _) (v := .int (sv 140 25)) rfl d_MD_read_105 ?_
                      refine W.eq (g2 := F0 m 108 ls [.int (nI e1)]) (by rw [show sv 140 25 = nI e1 from (by simp [hsv, hsw, up2_at, h253])]) ?_
                      refine lv_if_lt (tgt := 120) S.1 S.2.1 d_MD_read_108 (by decide) (fun c_108 => ?_) (fun c_108 => ?_)
                      · skip
                        exact absurd c_108 (nI_pos (by omega))
                      · skip
                        refine lv_iconst (v := (-1)) S.1 S.2.1 d_MD_read_111 (by decide) ?_
                        refine lv_aload_n S.1 S.2.1 d_MD_read_112 rfl (lv_at hl 1 rfl) ?_
                        refine g_get S hO fl_MD_117 (by decide) (sh_140 G ad _ _) (v := .int (sv 140 25)) rfl d_MD_read_113 ?_
                        refine W.eq (g2 := F0 m 116 ls [.int (nI e1), .int (-1)]) (by rw [show sv 140 25 = nI e1 from (by simp [hsv, hsw, up2_at, h253])]) ?_
                        refine lv_isub S.1 S.2.1 d_MD_read_116 ?_
                        refine lv_goto (tgt := 121) S.1 S.2.1 d_MD_read_117 (by decide) ?_
                        exact im_i S hk hr hO ⟨mrP_e (e := e1) (s := sw) (by rw [hq, e6, prs_e hlt hr1]; rfl) rfl (by rw [hsw]; exact hF3.up (by omega)) hsv, rfl⟩ (Nat.le_of_ble_eq_true rfl) (Nat.le_of_ble_eq_true rfl) d_MD_read_121
                    · skip
                      exact absurd (nI_pos' (by omega)) c_88
                · skip
                  exact absurd (nI_pos' (by omega)) c_32
            · skip
              rw [hr1] at hc3
              obtain ⟨h253, h243, hs13⟩ := hc3
              rw [if_neg (by decide)] at hs13
              subst hs13
              have hz1 := (pln_d hr1).1
              have hF3 : MXF s1 (up2 σ 140 0 0) := MXF.trans hF hM3
              refine W.eq (g2 := F0 m 62 ls []) rfl ?_
              refine lv_iinc (v := nI (j + 1)) (lv' := [(1, .int (nI (j + 1))), (0, .ref (ad 140))]) S.1 S.2.1 d_MD_read_62 hl (k := 0) rfl (nI_1 _) (by decide) rfl (fun ls hl => ?_)
              refine lv_goto (tgt := 17) S.1 S.2.1 d_MD_read_65 (by decide) ?_
              exact ih_17 (j + 1) q1 (l0 ++ [x1]) s1 (by omega) (by omega) (by simp [hl0]) (by rw [hq, e6, prs_s hlt hr1, prp_app]) hF3 h243 h253 (by omega) _ _ hO ls (lv_sub hl [0, 1] rfl)
          · skip
            have hn24 : n + j = 24 := (nI_eq (a := n + j) (b := 24) (by omega) (by omega)).mp c_43
            have e60 : 24 - n - j = 0 := by omega
            refine lv_aload_n S.1 S.2.1 d_MD_read_46 rfl (lv_at hl 1 rfl) ?_
            refine lv_aload_n S.1 S.2.1 d_MD_read_47 rfl (lv_at hl 1 rfl) ?_
            refine g_get S hO fl_MD_114 (by decide) (sh_140 G ad _ _) (v := .int (s9 140 24)) rfl d_MD_read_48 ?_
            refine W.eq (g2 := F0 m 51 ls [.int (nI p9), .ref (ad 140)]) (by rw [show s9 140 24 = nI p9 from h24]) ?_
            refine g_VI (As := [.int (nI p9)]) (rest := []) S hO (fun _ h => h) (k_MD_fault l G ad s9 τ (nI p9) h25) cw_MD_124 (by decide) (sh_140 G ad _ _) rfl rfl hl.1 (Nat.le_of_ble_eq_true rfl) ⟨(Nat.le_of_ble_eq_true rfl), (Nat.le_of_ble_eq_true rfl)⟩ ⟨(Nat.le_of_ble_eq_true rfl), (Nat.le_of_ble_eq_true rfl)⟩ d_MD_read_51 (fun q x ce H locs h9 => h9.elim) (fun v E1 H locs v_7 hO => ?_)
            obtain ⟨sf, t_8, rfl, rfl, hsf, ht_8⟩ := v_7
            rw [ht_8] at hO
            refine W.eq (g2 := F0 m 54 ls []) rfl ?_
            refine lv_goto (tgt := 17) S.1 S.2.1 d_MD_read_54 (by decide) ?_
            refine lv_aload_n S.1 S.2.1 d_MD_read_17 rfl (lv_at hl 1 rfl) ?_
            refine g_get S hO fl_MD_114 (by decide) (sh_140 G ad _ _) (v := .int (sf 140 24)) rfl d_MD_read_18 ?_
            refine W.eq (g2 := F0 m 21 ls [.int (nI p9)]) (by rw [show sf 140 24 = nI p9 from (by simp [hsf, up2_at, h24])]) ?_
            refine lv_aload_n S.1 S.2.1 d_MD_read_21 rfl (lv_at hl 1 rfl) ?_
            refine g_get S hO fl_MD_111 (by decide) (sh_140 G ad _ _) (v := .int (sf 140 22)) rfl d_MD_read_22 ?_
            refine W.eq (g2 := F0 m 25 ls [.int (nI N), .int (nI p9)]) (by rw [show sf 140 22 = nI N from (by simp [hsf, up2_at, hN9])]) ?_
            refine lv_icmp_ge (tgt := 68) S.1 S.2.1 d_MD_read_25 (by decide) (fun c_25 => ?_) (fun c_25 => ?_)
            · skip
              refine lv_aload_n S.1 S.2.1 d_MD_read_68 rfl (lv_at hl 1 rfl) ?_
              refine lv_iconst (v := 0) S.1 S.2.1 d_MD_read_69 (by decide) ?_
              obtain ⟨sw, hsw⟩ : ∃ z : Nat → Nat → Int32, z = up2 sf 140 24 0 := ⟨_, rfl⟩
              refine g_put S hO (fun _ h => h) fp_MD_114 (by decide) (sh_140 G ad _ _) (v := .int 0) rfl rfl (Nat.le_of_ble_eq_true rfl) (E2 := enc G ad sw τ) (by rw [hsw]; exact enc_i (sh_140 G ad _ _)) d_MD_read_70 (fun H locs hO => ?_)
              refine lv_aload_n S.1 S.2.1 d_MD_read_73 rfl (lv_at hl 1 rfl) ?_
              refine g_get S hO fl_MD_114 (by decide) (sh_140 G ad _ _) (v := .int (sw 140 24)) rfl d_MD_read_74 ?_
              refine W.eq (g2 := F0 m 77 ls [.int 0]) (by rw [show sw 140 24 = 0 from (by simp [hsw, hsf, up2_at])]) ?_
              refine lv_aload_n S.1 S.2.1 d_MD_read_77 rfl (lv_at hl 1 rfl) ?_
              refine g_get S hO fl_MD_111 (by decide) (sh_140 G ad _ _) (v := .int (sw 140 22)) rfl d_MD_read_78 ?_
              refine W.eq (g2 := F0 m 81 ls [.int (nI N), .int 0]) (by rw [show sw 140 22 = nI N from (by simp [hsw, hsf, up2_at, hN9])]) ?_
              refine lv_icmp_ge (tgt := 99) S.1 S.2.1 d_MD_read_81 (by decide) (fun c_81 => ?_) (fun c_81 => ?_)
              · skip
                refine lv_aload_n S.1 S.2.1 d_MD_read_99 rfl (lv_at hl 1 rfl) ?_
                refine lv_iconst (v := 0) S.1 S.2.1 d_MD_read_100 (by decide) ?_
                obtain ⟨sv, hsv⟩ : ∃ z : Nat → Nat → Int32, z = up2 sw 140 22 0 := ⟨_, rfl⟩
                refine g_put S hO (fun _ h => h) fp_MD_111 (by decide) (sh_140 G ad _ _) (v := .int 0) rfl rfl (Nat.le_of_ble_eq_true rfl) (E2 := enc G ad sv τ) (by rw [hsv]; exact enc_i (sh_140 G ad _ _)) d_MD_read_101 (fun H locs hO => ?_)
                refine lv_aload_n S.1 S.2.1 d_MD_read_104 rfl (lv_at hl 1 rfl) ?_
                refine g_get S hO fl_MD_117 (by decide) (sh_140 G ad _ _) (v := .int (sv 140 25)) rfl d_MD_read_105 ?_
                refine W.eq (g2 := F0 m 108 ls [.int (nI p9)]) (by rw [show sv 140 25 = nI p9 from (by simp [hsv, hsw, hsf, up2_at])]) ?_
                refine lv_if_lt (tgt := 120) S.1 S.2.1 d_MD_read_108 (by decide) (fun c_108 => ?_) (fun c_108 => ?_)
                · skip
                  exact absurd c_108 (nI_pos (by omega))
                · skip
                  refine lv_iconst (v := (-1)) S.1 S.2.1 d_MD_read_111 (by decide) ?_
                  refine lv_aload_n S.1 S.2.1 d_MD_read_112 rfl (lv_at hl 1 rfl) ?_
                  refine g_get S hO fl_MD_117 (by decide) (sh_140 G ad _ _) (v := .int (sv 140 25)) rfl d_MD_read_113 ?_
                  refine W.eq (g2 := F0 m 116 ls [.int (nI p9), .int (-1)]) (by rw [show sv 140 25 = nI p9 from (by simp [hsv, hsw, hsf, up2_at])]) ?_
                  refine lv_isub S.1 S.2.1 d_MD_read_116 ?_
                  refine lv_goto (tgt := 121) S.1 S.2.1 d_MD_read_117 (by decide) ?_
                  exact im_i S hk hr hO ⟨mrP_e (e := p9) (s := sw) (by rw [hq, e60, prs_0 hlt]; rfl) rfl (by rw [hsw, hsf]; exact (hF.up (by omega)).up (by omega)) hsv, rfl⟩ (Nat.le_of_ble_eq_true rfl) (Nat.le_of_ble_eq_true rfl) d_MD_read_121
              · skip
                refine lv_aload_n S.1 S.2.1 d_MD_read_84 rfl (lv_at hl 1 rfl) ?_
                refine g_get S hO fl_MD_117 (by decide) (sh_140 G ad _ _) (v := .int (sw 140 25)) rfl d_MD_read_85 ?_
                refine W.eq (g2 := F0 m 88 ls [.int (nI p9)]) (by rw [show sw 140 25 = nI p9 from (by simp [hsw, hsf, up2_at])]) ?_
                refine lv_if_ge (tgt := 99) S.1 S.2.1 d_MD_read_88 (by decide) (fun c_88 => ?_) (fun c_88 => ?_)
                · skip
                  refine lv_aload_n S.1 S.2.1 d_MD_read_99 rfl (lv_at hl 1 rfl) ?_
                  refine lv_iconst (v := 0) S.1 S.2.1 d_MD_read_100 (by decide) ?_
                  obtain ⟨sv, hsv⟩ : ∃ z : Nat → Nat → Int32, z = up2 sw 140 22 0 := ⟨_, rfl⟩
                  refine g_put S hO (fun _ h => h) fp_MD_111 (by decide) (sh_140 G ad _ _) (v := .int 0) rfl rfl (Nat.le_of_ble_eq_true rfl) (E2 := enc G ad sv τ) (by rw [hsv]; exact enc_i (sh_140 G ad _ _)) d_MD_read_101 (fun H locs hO => ?_)
                  refine lv_aload_n S.1 S.2.1 d_MD_read_104 rfl (lv_at hl 1 rfl) ?_
                  refine g_get S hO fl_MD_117 (by decide) (sh_140 G ad _ _) (v := .int (sv 140 25)) rfl d_MD_read_105 ?_
                  refine W.eq (g2 := F0 m 108 ls [.int (nI p9)]) (by rw [show sv 140 25 = nI p9 from (by simp [hsv, hsw, hsf, up2_at])]) ?_
                  refine lv_if_lt (tgt := 120) S.1 S.2.1 d_MD_read_108 (by decide) (fun c_108 => ?_) (fun c_108 => ?_)
                  · skip
                    exact absurd c_108 (nI_pos (by omega))
                  · skip
                    refine lv_iconst (v := (-1)) S.1 S.2.1 d_MD_read_111 (by decide) ?_
                    refine lv_aload_n S.1 S.2.1 d_MD_read_112 rfl (lv_at hl 1 rfl) ?_
                    refine g_get S hO fl_MD_117 (by decide) (sh_140 G ad _ _) (v := .int (sv 140 25)) rfl d_MD_read_113 ?_
                    refine W.eq (g2 := F0 m 116 ls [.int (nI p9), .int (-1)]) (by rw [show sv 140 25 = nI p9 from (by simp [hsv, hsw, hsf, up2_at])]) ?_
                    refine lv_isub S.1 S.2.1 d_MD_read_116 ?_
                    refine lv_goto (tgt := 121) S.1 S.2.1 d_MD_read_117 (by decide) ?_
                    exact im_i S hk hr hO ⟨mrP_e (e := p9) (s := sw) (by rw [hq, e60, prs_0 hlt]; rfl) rfl (by rw [hsw, hsf]; exact (hF.up (by omega)).up (by omega)) hsv, rfl⟩ (Nat.le_of_ble_eq_true rfl) (Nat.le_of_ble_eq_true rfl) d_MD_read_121
                · skip
                  exact absurd (nI_pos' (by omega)) c_88
            · skip
              refine lv_aload_n S.1 S.2.1 d_MD_read_28 rfl (lv_at hl 1 rfl) ?_
              refine g_get S hO fl_MD_117 (by decide) (sh_140 G ad _ _) (v := .int (sf 140 25)) rfl d_MD_read_29 ?_
              refine W.eq (g2 := F0 m 32 ls [.int (nI p9)]) (by rw [show sf 140 25 = nI p9 from (by simp [hsf, up2_at])]) ?_
              refine lv_if_ge (tgt := 68) S.1 S.2.1 d_MD_read_32 (by decide) (fun c_32 => ?_) (fun c_32 => ?_)
              · skip
                refine lv_aload_n S.1 S.2.1 d_MD_read_68 rfl (lv_at hl 1 rfl) ?_
                refine lv_iconst (v := 0) S.1 S.2.1 d_MD_read_69 (by decide) ?_
                obtain ⟨sw, hsw⟩ : ∃ z : Nat → Nat → Int32, z = up2 sf 140 24 0 := ⟨_, rfl⟩
                refine g_put S hO (fun _ h => h) fp_MD_114 (by decide) (sh_140 G ad _ _) (v := .int 0) rfl rfl (Nat.le_of_ble_eq_true rfl) (E2 := enc G ad sw τ) (by rw [hsw]; exact enc_i (sh_140 G ad _ _)) d_MD_read_70 (fun H locs hO => ?_)
                refine lv_aload_n S.1 S.2.1 d_MD_read_73 rfl (lv_at hl 1 rfl) ?_
                refine g_get S hO fl_MD_114 (by decide) (sh_140 G ad _ _) (v := .int (sw 140 24)) rfl d_MD_read_74 ?_
                refine W.eq (g2 := F0 m 77 ls [.int 0]) (by rw [show sw 140 24 = 0 from (by simp [hsw, hsf, up2_at])]) ?_
                refine lv_aload_n S.1 S.2.1 d_MD_read_77 rfl (lv_at hl 1 rfl) ?_
                refine g_get S hO fl_MD_111 (by decide) (sh_140 G ad _ _) (v := .int (sw 140 22)) rfl d_MD_read_78 ?_
                refine W.eq (g2 := F0 m 81 ls [.int (nI N), .int 0]) (by rw [show sw 140 22 = nI N from (by simp [hsw, hsf, up2_at, hN9])]) ?_
                refine lv_icmp_ge (tgt := 99) S.1 S.2.1 d_MD_read_81 (by decide) (fun c_81 => ?_) (fun c_81 => ?_)
                · skip
                  refine lv_aload_n S.1 S.2.1 d_MD_read_99 rfl (lv_at hl 1 rfl) ?_
                  refine lv_iconst (v := 0) S.1 S.2.1 d_MD_read_100 (by decide) ?_
                  obtain ⟨sv, hsv⟩ : ∃ z : Nat → Nat → Int32, z = up2 sw 140 22 0 := ⟨_, rfl⟩
                  refine g_put S hO (fun _ h => h) fp_MD_111 (by decide) (sh_140 G ad _ _) (v := .int 0) rfl rfl (Nat.le_of_ble_eq_true rfl) (E2 := enc G ad sv τ) (by rw [hsv]; exact enc_i (sh_140 G ad _ _)) d_MD_read_101 (fun H locs hO => ?_)
                  refine lv_aload_n S.1 S.2.1 d_MD_read_104 rfl (lv_at hl 1 rfl) ?_
                  refine g_get S hO fl_MD_117 (by decide) (sh_140 G ad _ _) (v := .int (sv 140 25)) rfl d_MD_read_105 ?_
                  refine W.eq (g2 := F0 m 108 ls [.int (nI p9)]) (by rw [show sv 140 25 = nI p9 from (by simp [hsv, hsw, hsf, up2_at])]) ?_
                  refine lv_if_lt (tgt := 120) S.1 S.2.1 d_MD_read_108 (by decide) (fun c_108 => ?_) (fun c_108 => ?_)
                  · skip
                    exact absurd c_108 (nI_pos (by omega))
                  · skip
                    refine lv_iconst (v := (-1)) S.1 S.2.1 d_MD_read_111 (by decide) ?_
                    refine lv_aload_n S.1 S.2.1 d_MD_read_112 rfl (lv_at hl 1 rfl) ?_
                    refine g_get S hO fl_MD_117 (by decide) (sh_140 G ad _ _) (v := .int (sv 140 25)) rfl d_MD_read_113 ?_
                    refine W.eq (g2 := F0 m 116 ls [.int (nI p9), .int (-1)]) (by rw [show sv 140 25 = nI p9 from (by simp [hsv, hsw, hsf, up2_at])]) ?_
                    refine lv_isub S.1 S.2.1 d_MD_read_116 ?_
                    refine lv_goto (tgt := 121) S.1 S.2.1 d_MD_read_117 (by decide) ?_
                    exact im_i S hk hr hO ⟨mrP_e (e := p9) (s := sw) (by rw [hq, e60, prs_0 hlt]; rfl) rfl (by rw [hsw, hsf]; exact (hF.up (by omega)).up (by omega)) hsv, rfl⟩ (Nat.le_of_ble_eq_true rfl) (Nat.le_of_ble_eq_true rfl) d_MD_read_121
                · skip
                  refine lv_aload_n S.1 S.2.1 d_MD_read_84 rfl (lv_at hl 1 rfl) ?_
                  refine g_get S hO fl_MD_117 (by decide) (sh_140 G ad _ _) (v := .int (sw 140 25)) rfl d_MD_read_85 ?_
                  refine W.eq (g2 := F0 m 88 ls [.int (nI p9)]) (by rw [show sw 140 25 = nI p9 from (by simp [hsw, hsf, up2_at])]) ?_
                  refine lv_if_ge (tgt := 99) S.1 S.2.1 d_MD_read_88 (by decide) (fun c_88 => ?_) (fun c_88 => ?_)
                  · skip
                    refine lv_aload_n S.1 S.2.1 d_MD_read_99 rfl (lv_at hl 1 rfl) ?_
                    refine lv_iconst (v := 0) S.1 S.2.1 d_MD_read_100 (by decide) ?_
                    obtain ⟨sv, hsv⟩ : ∃ z : Nat → Nat → Int32, z = up2 sw 140 22 0 := ⟨_, rfl⟩
                    refine g_put S hO (fun _ h => h) fp_MD_111 (by decide) (sh_140 G ad _ _) (v := .int 0) rfl rfl (Nat.le_of_ble_eq_true rfl) (E2 := enc G ad sv τ) (by rw [hsv]; exact enc_i (sh_140 G ad _ _)) d_MD_read_101 (fun H locs hO => ?_)
                    refine lv_aload_n S.1 S.2.1 d_MD_read_104 rfl (lv_at hl 1 rfl) ?_
                    refine g_get S hO fl_MD_117 (by decide) (sh_140 G ad _ _) (v := .int (sv 140 25)) rfl d_MD_read_105 ?_
                    refine W.eq (g2 := F0 m 108 ls [.int (nI p9)]) (by rw [show sv 140 25 = nI p9 from (by simp [hsv, hsw, hsf, up2_at])]) ?_
                    refine lv_if_lt (tgt := 120) S.1 S.2.1 d_MD_read_108 (by decide) (fun c_108 => ?_) (fun c_108 => ?_)
                    · skip
                      exact absurd c_108 (nI_pos (by omega))
                    · skip
                      refine lv_iconst (v := (-1)) S.1 S.2.1 d_MD_read_111 (by decide) ?_
                      refine lv_aload_n S.1 S.2.1 d_MD_read_112 rfl (lv_at hl 1 rfl) ?_
                      refine g_get S hO fl_MD_117 (by decide) (sh_140 G ad _ _) (v := .int (sv 140 25)) rfl d_MD_read_113 ?_
                      refine W.eq (g2 := F0 m 116 ls [.int (nI p9), .int (-1)]) (by rw [show sv 140 25 = nI p9 from (by simp [hsv, hsw, hsf, up2_at])]) ?_
                      refine lv_isub S.1 S.2.1 d_MD_read_116 ?_
                      refine lv_goto (tgt := 121) S.1 S.2.1 d_MD_read_117 (by decide) ?_
                      exact im_i S hk hr hO ⟨mrP_e (e := p9) (s := sw) (by rw [hq, e60, prs_0 hlt]; rfl) rfl (by rw [hsw, hsf]; exact (hF.up (by omega)).up (by omega)) hsv, rfl⟩ (Nat.le_of_ble_eq_true rfl) (Nat.le_of_ble_eq_true rfl) d_MD_read_121
                  · skip
                    exact absurd (nI_pos' (by omega)) c_88
              · skip
                exact absurd (nI_pos' (by omega)) c_32
  exact K_17 26 0 0 [] sz (by omega) (by omega) rfl prp_nil.symm (by rw [hsz, hsy, hsx]; exact ((MXF.refl _).up (by omega)).up (by omega)) (by rw [hsz, up2_s]; rfl) (by rw [hsz, up2_j (by decide), hsy, up2_s]) (by omega) _ _ hO ls (lv_sub hl [0, 1] rfl)
