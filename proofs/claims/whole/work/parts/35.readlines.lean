/-! The text: all its lines. Written by wip/tools/m35.py. -/
abbrev RUL : Type := Int32 × Nat × Int32 × Int32
def prs (T : Nat → Int32) (N : Nat) : Nat → Nat → Except Nat (List RUL)
  | 0, p => if p < N then .error p else .ok []
  | r + 1, p => if p < N then (match pln T N p with
    | .error e => .error e
    | .ok (x, q) => (match prs T N r q with
      | .error e => .error e
      | .ok l => .ok (x :: l))) else .ok []
def prp (l0 : List RUL) (r : Except Nat (List RUL)) : Except Nat (List RUL) := match r with
  | .error e => .error e
  | .ok l => .ok (l0 ++ l)
theorem prp_nil {r : Except Nat (List RUL)} : prp [] r = r := by cases r <;> rfl
theorem prp_app {a b : List RUL} {r : Except Nat (List RUL)} : prp a (prp b r) = prp (a ++ b) r := by
  cases r with
  | error e => rfl
  | ok l => simp [prp]
theorem prs_s {T : Nat → Int32} {N r p q : Nat} {x : RUL} (h : p < N) (h2 : pln T N p = .ok (x, q)) : prs T N (r + 1) p = prp [x] (prs T N r q) := by
  rw [prs, if_pos h]
  simp only [h2]
  cases prs T N r q <;> rfl
theorem prs_e {T : Nat → Int32} {N r p e : Nat} (h : p < N) (h2 : pln T N p = .error e) : prs T N (r + 1) p = .error e := by
  rw [prs, if_pos h]
  simp only [h2]
theorem prs_n {T : Nat → Int32} {N r p : Nat} (h : ¬ p < N) : prs T N r p = .ok [] := by
  cases r <;> rw [prs, if_neg h]
theorem prs_0 {T : Nat → Int32} {N p : Nat} (h : p < N) : prs T N 0 p = .error p := by rw [prs, if_pos h]
theorem pen_d {T : Nat → Int32} {N q z : Nat} {r x : RUL} (h : pen T N r q = .ok (x, z)) : z ≤ q + 1 ∧ x = r := by
  unfold pen at h
  split at h
  · split at h
    · simp only [Except.ok.injEq, Prod.mk.injEq] at h; exact ⟨by omega, h.1.symm⟩
    · simp at h
  · simp only [Except.ok.injEq, Prod.mk.injEq] at h; exact ⟨by omega, h.1.symm⟩
/-- what a line's rule keeps to -/
def rkeep (x : RUL) : Prop := inB x.1 1 100 = true ∧ x.2.1 < 11 ∧ inB x.2.2.1 (kLe x.2.1) (kMo x.2.1) = true ∧ (kNu x.2.1 = 2 → inB x.2.2.2 (kLe x.2.1) (kMo x.2.1) = true) ∧ (¬ kNu x.2.1 = 2 → x.2.2.2 = 0)
theorem pln_d {T : Nat → Int32} {N p z : Nat} {x : RUL} (h : pln T N p = .ok (x, z)) : z ≤ p + 40 ∧ rkeep x := by
  unfold pln at h
  cases h1 : pnr T N p 1 100 with
  | error e => simp [h1] at h
  | ok r1 =>
    obtain ⟨rk, q1⟩ := r1
    simp only [h1] at h
    have d1 := pnr_d h1
    split at h
    · cases h2 : pkd T N (q1 + 1) with
      | error e => simp [h2] at h
      | ok r2 =>
        obtain ⟨k, q2⟩ := r2
        simp only [h2] at h
        have d2 := pkd_d h2
        split at h
        · cases h3 : pnr T N (q2 + 1) (kLe k) (kMo k) with
          | error e => simp only [h3] at h; simp at h
          | ok r3 =>
            obtain ⟨a, q3⟩ := r3
            simp only [h3] at h
            have d3 := pnr_d h3
            by_cases y2 : kNu k = 2
            · simp only [if_pos y2] at h
              split at h
              · cases h4 : pnr T N (q3 + 1) (kLe k) (kMo k) with
                | error e => simp only [h4] at h; simp at h
                | ok r4 =>
                  obtain ⟨b, q4⟩ := r4
                  simp only [h4] at h
                  have d4 := pnr_d h4
                  have d5 := pen_d h
                  obtain ⟨d51, rfl⟩ := d5
                  exact ⟨by omega, d1.2, d2.2, d3.2, fun _ => d4.2, fun z => absurd y2 z⟩
              · simp at h
            · simp only [if_neg y2] at h
              have d5 := pen_d h
              obtain ⟨d51, rfl⟩ := d5
              exact ⟨by omega, d1.2, d2.2, d3.2, fun z => absurd z y2, fun _ => rfl⟩
        · simp at h
    · simp at h
theorem prs_len {T : Nat → Int32} {N : Nat} (r : Nat) (p : Nat) (l : List RUL) (h : prs T N r p = .ok l) : l.length ≤ r ∧ ∀ x, x ∈ l → rkeep x := by
  induction r generalizing p l with
  | zero =>
    unfold prs at h
    split at h
    · simp at h
    · simp only [Except.ok.injEq] at h; subst h; exact ⟨Nat.le_refl _, fun x hx => by simp at hx⟩
  | succ r ih =>
    by_cases hp : p < N
    · cases h1 : pln T N p with
      | error e => rw [prs_e hp h1] at h; simp at h
      | ok y =>
        obtain ⟨x, q⟩ := y
        rw [prs_s hp h1] at h
        cases h2 : prs T N r q with
        | error e => rw [h2] at h; simp [prp] at h
        | ok l2 =>
          rw [h2] at h
          simp only [prp, Except.ok.injEq] at h
          subst h
          obtain ⟨i1, i2⟩ := ih q l2 h2
          refine ⟨by simp; omega, fun z hz => ?_⟩
          simp only [List.cons_append, List.nil_append, List.mem_cons] at hz
          rcases hz with hz | hz
          · subst hz; exact (pln_d h1).2
          · exact i2 z hz
    · rw [prs_n hp] at h
      simp only [Except.ok.injEq] at h; subst h; exact ⟨Nat.zero_le _, fun x hx => by simp at hx⟩
def TXR (s σ : Nat → Nat → Int32) : Prop := ∀ k j, ¬ (k = 35 ∧ (j = 3 ∨ j = 4 ∨ j = 5 ∨ j = 6)) → ¬ (38 ≤ k ∧ k < 62 ∧ j < 4) → s k j = σ k j
theorem TXR.refl (σ : Nat → Nat → Int32) : TXR σ σ := fun _ _ _ _ => rfl
theorem TXR.L {s t σ : Nat → Nat → Int32} {q : Nat} (hq : q < 24) (h : TXR s σ) (h2 : TXL t s q) : TXR t σ := fun k i z1 z2 => (h2 k i z1 (fun z => z2 ⟨by omega, by omega, z.2⟩)).trans (h k i z1 z2)
theorem TXR.up {s σ : Nat → Nat → Int32} (h : TXR s σ) {j : Nat} {v : Int32} (hj : j = 3 ∨ j = 4 ∨ j = 5 ∨ j = 6) : TXR (up2 s 35 j v) σ := fun k i h1 h2 => by
  rw [up2_at, if_neg (fun z => h1 ⟨z.1, by omega⟩)]
  exact h k i h1 h2
/-- the draft i holds the rule x -/
def drf (s : Nat → Nat → Int32) (i : Nat) (x : RUL) : Prop := s (38 + i) 0 = x.1 ∧ s (38 + i) 1 = nI x.2.1 ∧ s (38 + i) 2 = x.2.2.1 ∧ s (38 + i) 3 = x.2.2.2
def KDV (s : Nat → Nat → Int32) : Prop := (∃ k, k < 11 ∧ s 35 6 = nI k) ∧ ∀ i, i < 24 → ∃ k, k < 11 ∧ s (38 + i) 1 = nI k
def psP (r : Except Nat (List RUL)) (v : Option Value) (s : Nat → Nat → Int32) : Prop := match r with
  | .error e => v = some (.int (-1 - nI e))
  | .ok l => v = some (.int (nI l.length)) ∧ ∀ i x, l[i]? = some x → drf s i x
theorem psP_e {r : Except Nat (List RUL)} {e : Nat} {v : Option Value} {s : Nat → Nat → Int32} (h : r = .error e) (h1 : v = some (.int (-1 - nI e))) : psP r v s := by
  subst h
  exact h1
theorem psP_o {r : Except Nat (List RUL)} {l : List RUL} {v : Option Value} {s : Nat → Nat → Int32} (h : r = .ok l) (h1 : v = some (.int (nI l.length))) (h2 : ∀ i x, l[i]? = some x → drf s i x) : psP r v s := by
  subst h
  exact ⟨h1, h2⟩
theorem drf_L {s t : Nat → Nat → Int32} {q i : Nat} {x : RUL} (h : TXL t s q) (hi : i ≠ q) (h2 : drf s i x) : drf t i x := by
  have e : ∀ j, t (38 + i) j = s (38 + i) j := fun j => h (38 + i) j (by omega) (by omega)
  obtain ⟨a, b, c, d⟩ := h2
  exact ⟨by rw [e]; exact a, by rw [e]; exact b, by rw [e]; exact c, by rw [e]; exact d⟩
theorem drf_app {s t : Nat → Nat → Int32} {q : Nat} {l : List RUL} {x : RUL} (h : TXL t s q) (hl : l.length = q) (h2 : ∀ i x, l[i]? = some x → drf s i x) (h3 : drf t q x) : ∀ i y, (l ++ [x])[i]? = some y → drf t i y := by
  intro i y hy
  rcases Nat.lt_trichotomy i q with hi | hi | hi
  · rw [List.getElem?_append_left (by omega)] at hy
    exact drf_L h (by omega) (h2 i y hy)
  · subst hi
    rw [List.getElem?_append_right (by omega), hl] at hy
    simp at hy
    subst hy
    exact h3
  · rw [List.getElem?_eq_none (by simp; omega)] at hy
    simp at hy
theorem KDV_L {s t : Nat → Nat → Int32} {q : Nat} (h : TXL t s q) (h1 : KDV s) (h2 : ∃ k, k < 11 ∧ t 35 6 = nI k) (h3 : ∃ k, k < 11 ∧ t (38 + q) 1 = nI k) : KDV t := by
  refine ⟨h2, fun i hi => ?_⟩
  by_cases e : i = q
  · subst e; exact h3
  · rw [h (38 + i) 1 (by omega) (by omega)]
    exact h1.2 i hi
set_option maxHeartbeats 4000000 in
set_option maxRecDepth 100000 in
theorem k_TX_readLines (l : Launch) (G : gP) (ad : Nat → Nat) (σ : Nat → Nat → Int32) (τ : Nat → Nat → Int64) (rm : Nat) (hrm : rm ≤ 24) (N : Nat) (hN : σ 35 1 = nI N) (hN4 : N ≤ 400) (hV0 : KDV σ) : gim l y_TX_readLines c_TX_readLines 3 (some .int) { frames := 7, cells := 0, slots := 0, locals := 151 } G ad σ τ [.ref (ad 35), .int (nI rm)] 0 0 (fun v σ1 τ1 => TXR σ1 σ ∧ τ1 = τ ∧ KDV σ1 ∧ psP (prs (σ 36) N rm 0) v σ1) (fun _ => False) := by
  refine gs_of (fun _ h => h) (by decide) (Nat.le_of_ble_eq_true rfl) ?_
  intro p e s m args below meth c ls S hk hr hx hl hO
  have hl : lv_has ls 3 [(0, .ref (ad 35)), (1, .int (nI rm))] := hl
  refine lv_aload_n S.1 S.2.1 d_TX_readLines_0 rfl (lv_at hl 0 rfl) ?_
  refine lv_iconst (v := 0) S.1 S.2.1 d_TX_readLines_1 (by decide) ?_
  obtain ⟨sz, hsz⟩ : ∃ z : Nat → Nat → Int32, z = up2 σ 35 3 0 := ⟨_, rfl⟩
  refine g_put S hO (fun _ h => h) fp_TX_35 (by decide) (sh_35 G ad _ _) (v := .int 0) rfl rfl (Nat.le_of_ble_eq_true rfl) (E2 := enc G ad sz τ) (by rw [hsz]; exact enc_i (sh_35 G ad _ _)) d_TX_readLines_2 (fun H locs hO => ?_)
  refine lv_iconst (v := 0) S.1 S.2.1 d_TX_readLines_5 (by decide) ?_
  refine lv_istore_n (lv' := [(2, .int 0), (0, .ref (ad 35)), (1, .int (nI rm))]) S.1 S.2.1 d_TX_readLines_6 rfl hl (by decide) rfl (fun ls hl => ?_)
  have K_7 : ∀ (n9 : Nat) (j p9 : Nat) (l0 : List RUL) (s9 : Nat → Nat → Int32), rm - j < n9 → (j ≤ rm) → (l0.length = j) → (prs (σ 36) N rm 0 = prp l0 (prs (σ 36) N (rm - j) p9)) → (TXR s9 σ) → (KDV s9) → (∀ i x, l0[i]? = some x → drf s9 i x) → (s9 35 3 = nI p9) → (p9 < 900) → ∀ (H : Heap) (locs : List Loc), gO G (gA G) 159 ad (enc G ad s9 τ) s H locs → ∀ ls : Array Slot, lv_has ls 3 [(2, .int (nI j)), (0, .ref (ad 35)), (1, .int (nI rm))] → W p l e { frames := 7, cells := 0, slots := 0, locals := 151 } s m args below meth c H locs 0 0 (gM below (gA G) 0 0 (fun v t => ∃ E1, (∃ σ1 τ1, E1 = enc G ad σ1 τ1 ∧ (fun v σ1 τ1 => TXR σ1 σ ∧ τ1 = τ ∧ KDV σ1 ∧ psP (prs (σ 36) N rm 0) v σ1) v σ1 τ1) ∧ va_P G.1 gcl (gw 159 ad E1) t.heap) (fun x t => (fun _ => False) x ∧ va_P G.1 gcl (gw 159 ad (enc G ad σ τ)) t.heap) args s) (F0 m 7 ls []) := by
    intro n9
    induction n9 with
    | zero =>
      intro j p9 l0 s9 hn9 hj hl0 hq hR hV hD h3 hp9 H locs hO ls hl
      exact absurd hn9 (Nat.not_lt_zero _)
    | succ n9 ih_7 =>
      intro j p9 l0 s9 hn9 hj hl0 hq hR hV hD h3 hp9 H locs hO ls hl
      have hN9 : s9 35 1 = nI N := by rw [hR 35 1 (by omega) (by omega)]; exact hN
      have hT : s9 36 = σ 36 := funext (fun i => hR 36 i (by omega) (by omega))
      refine lv_iload_n S.1 S.2.1 d_TX_readLines_7 rfl (lv_at hl 0 rfl) ?_
      refine lv_iload_n S.1 S.2.1 d_TX_readLines_8 rfl (lv_at hl 2 rfl) ?_
      refine lv_icmp_ge (tgt := 55) S.1 S.2.1 d_TX_readLines_9 (by decide) (fun c_9 => ?_) (fun c_9 => ?_)
      · skip
        have hjr : j = rm := by have h9 := ge_nI (x := nI rm) rfl rfl (by omega) (by omega) c_9; omega
        refine lv_aload_n S.1 S.2.1 d_TX_readLines_55 rfl (lv_at hl 1 rfl) ?_
        refine g_get S hO fl_TX_35 (by decide) (sh_35 G ad _ _) (v := .int (s9 35 3)) rfl d_TX_readLines_56 ?_
        refine W.eq (g2 := F0 m 59 ls [.int (nI p9)]) (by rw [show s9 35 3 = nI p9 from h3]) ?_
        refine lv_aload_n S.1 S.2.1 d_TX_readLines_59 rfl (lv_at hl 1 rfl) ?_
        refine g_get S hO fl_TX_31 (by decide) (sh_35 G ad _ _) (v := .int (s9 35 1)) rfl d_TX_readLines_60 ?_
        refine W.eq (g2 := F0 m 63 ls [.int (nI N), .int (nI p9)]) (by rw [show s9 35 1 = nI N from hN9]) ?_
        refine lv_icmp_ge (tgt := 75) S.1 S.2.1 d_TX_readLines_63 (by decide) (fun c_63 => ?_) (fun c_63 => ?_)
        · skip
          have hge2 : N ≤ p9 := ge_nI (x := nI N) rfl rfl (by omega) (by omega) c_63
          refine lv_iload_n S.1 S.2.1 d_TX_readLines_75 rfl (lv_at hl 0 rfl) ?_
          exact im_i S hk hr hO ⟨hR, rfl, hV, psP_o (l := l0) (by rw [hq, prs_n (Nat.not_lt.mpr hge2)]; simp [prp]) (by rw [hl0]) hD⟩ (Nat.le_of_ble_eq_true rfl) (Nat.le_of_ble_eq_true rfl) d_TX_readLines_76
        · skip
          have hlt2 : p9 < N := ngt_nI (x := nI N) rfl rfl (by omega) (by omega) c_63
          refine lv_iconst (v := (-1)) S.1 S.2.1 d_TX_readLines_66 (by decide) ?_
          refine lv_aload_n S.1 S.2.1 d_TX_readLines_67 rfl (lv_at hl 1 rfl) ?_
          refine g_get S hO fl_TX_35 (by decide) (sh_35 G ad _ _) (v := .int (s9 35 3)) rfl d_TX_readLines_68 ?_
          refine W.eq (g2 := F0 m 71 ls [.int (nI p9), .int (-1)]) (by rw [show s9 35 3 = nI p9 from h3]) ?_
          refine lv_isub S.1 S.2.1 d_TX_readLines_71 ?_
          refine lv_goto (tgt := 76) S.1 S.2.1 d_TX_readLines_72 (by decide) ?_
          exact im_i S hk hr hO ⟨hR, rfl, hV, psP_e (e := p9) (by rw [hq, hjr, Nat.sub_self, prs_0 hlt2]; rfl) rfl⟩ (Nat.le_of_ble_eq_true rfl) (Nat.le_of_ble_eq_true rfl) d_TX_readLines_76
      · skip
        have hjr : j < rm := ngt_nI (x := nI rm) rfl rfl (by omega) (by omega) c_9
        have e6 : rm - j = (rm - (j + 1)) + 1 := by omega
        refine lv_iload_n S.1 S.2.1 d_TX_readLines_12 rfl (lv_at hl 0 rfl) ?_
        refine lv_bipush (v := 24) S.1 S.2.1 d_TX_readLines_13 (by decide) ?_
        refine lv_icmp_ge (tgt := 55) S.1 S.2.1 d_TX_readLines_15 (by decide) (fun c_15 => ?_) (fun c_15 => ?_)
        · skip
          exact absurd (ge_nI (x := (24 : Int32)) (n := 24) rfl rfl (by omega) (by omega) c_15) (by omega)
        · skip
          refine lv_aload_n S.1 S.2.1 d_TX_readLines_18 rfl (lv_at hl 1 rfl) ?_
          refine g_get S hO fl_TX_35 (by decide) (sh_35 G ad _ _) (v := .int (s9 35 3)) rfl d_TX_readLines_19 ?_
          refine W.eq (g2 := F0 m 22 ls [.int (nI p9)]) (by rw [show s9 35 3 = nI p9 from h3]) ?_
          refine lv_aload_n S.1 S.2.1 d_TX_readLines_22 rfl (lv_at hl 1 rfl) ?_
          refine g_get S hO fl_TX_31 (by decide) (sh_35 G ad _ _) (v := .int (s9 35 1)) rfl d_TX_readLines_23 ?_
          refine W.eq (g2 := F0 m 26 ls [.int (nI N), .int (nI p9)]) (by rw [show s9 35 1 = nI N from hN9]) ?_
          refine lv_icmp_ge (tgt := 55) S.1 S.2.1 d_TX_readLines_26 (by decide) (fun c_26 => ?_) (fun c_26 => ?_)
          · skip
            have hge : N ≤ p9 := ge_nI (x := nI N) rfl rfl (by omega) (by omega) c_26
            refine lv_aload_n S.1 S.2.1 d_TX_readLines_55 rfl (lv_at hl 1 rfl) ?_
            refine g_get S hO fl_TX_35 (by decide) (sh_35 G ad _ _) (v := .int (s9 35 3)) rfl d_TX_readLines_56 ?_
            refine W.eq (g2 := F0 m 59 ls [.int (nI p9)]) (by rw [show s9 35 3 = nI p9 from h3]) ?_
            refine lv_aload_n S.1 S.2.1 d_TX_readLines_59 rfl (lv_at hl 1 rfl) ?_
            refine g_get S hO fl_TX_31 (by decide) (sh_35 G ad _ _) (v := .int (s9 35 1)) rfl d_TX_readLines_60 ?_
            refine W.eq (g2 := F0 m 63 ls [.int (nI N), .int (nI p9)]) (by rw [show s9 35 1 = nI N from hN9]) ?_
            refine lv_icmp_ge (tgt := 75) S.1 S.2.1 d_TX_readLines_63 (by decide) (fun c_63 => ?_) (fun c_63 => ?_)
            · skip
              have hge2 : N ≤ p9 := ge_nI (x := nI N) rfl rfl (by omega) (by omega) c_63
              refine lv_iload_n S.1 S.2.1 d_TX_readLines_75 rfl (lv_at hl 0 rfl) ?_
              exact im_i S hk hr hO ⟨hR, rfl, hV, psP_o (l := l0) (by rw [hq, prs_n (Nat.not_lt.mpr hge2)]; simp [prp]) (by rw [hl0]) hD⟩ (Nat.le_of_ble_eq_true rfl) (Nat.le_of_ble_eq_true rfl) d_TX_readLines_76
            · skip
              have hlt2 : p9 < N := ngt_nI (x := nI N) rfl rfl (by omega) (by omega) c_63
              exact absurd hlt2 (by omega)
          · skip
            have hlt : p9 < N := ngt_nI (x := nI N) rfl rfl (by omega) (by omega) c_26
            obtain ⟨z0, hz0, hd10⟩ := hV.2 j (by omega)
            obtain ⟨k0, hk0, hkd⟩ := hV.1
            refine lv_aload_n S.1 S.2.1 d_TX_readLines_29 rfl (lv_at hl 1 rfl) ?_
            refine lv_aload_n S.1 S.2.1 d_TX_readLines_30 rfl (lv_at hl 1 rfl) ?_
            refine g_get S hO fl_TX_17 (by decide) (sh_35 G ad _ _) (v := .ref (ad 37)) rfl d_TX_readLines_31 ?_
            refine lv_iload_n S.1 S.2.1 d_TX_readLines_34 rfl (lv_at hl 0 rfl) ?_
            refine g_aal S hO (t0 := 6) (by decide) (sh_37 G ad _ _) rfl (vp_in_nI (show j < 24 by omega) (by decide)) (v := .ref (ad (38 + j))) (by rw [nI_clamp (by omega)]; rfl) d_TX_readLines_35 ?_
            refine g_VI (As := [.ref (ad (38 + j))]) (rest := []) S hO (fun _ h => h) (k_TX_readLine l G ad s9 τ j (by omega) z0 hz0 hd10 k0 hk0 hkd N hN9 hN4 p9 h3 (by omega)) cw_TX_38 (by decide) (sh_35 G ad _ _) rfl rfl hl.1 (Nat.le_of_ble_eq_true rfl) ⟨(Nat.le_of_ble_eq_true rfl), (Nat.le_of_ble_eq_true rfl)⟩ ⟨(Nat.le_of_ble_eq_true rfl), (Nat.le_of_ble_eq_true rfl)⟩ d_TX_readLines_36 (fun q x ce H locs h9 => h9.elim) (fun v E1 H locs v_1 hO => ?_)
            obtain ⟨s1, t_2, rfl, hL1, ht_2, hK1, hK2, hP1⟩ := v_1
            rw [ht_2] at hO
            rw [hT] at hP1
            rcases hr1 : pln (σ 36) N p9 with e1 | ⟨x1, q1⟩
            · skip
              rw [hr1] at hP1
              obtain ⟨rfl, h41⟩ := hP1
              refine W.eq (g2 := F0 m 39 ls [.int 0]) rfl ?_
              refine lv_if_ne (tgt := 49) S.1 S.2.1 d_TX_readLines_39 (by decide) (fun c_39 => ?_) (fun c_39 => ?_)
              · skip
                exact absurd rfl c_39
              · skip
                refine lv_iconst (v := (-1)) S.1 S.2.1 d_TX_readLines_42 (by decide) ?_
                refine lv_aload_n S.1 S.2.1 d_TX_readLines_43 rfl (lv_at hl 1 rfl) ?_
                refine g_get S hO fl_TX_42 (by decide) (sh_35 G ad _ _) (v := .int (s1 35 4)) rfl d_TX_readLines_44 ?_
                refine lv_isub S.1 S.2.1 d_TX_readLines_47 ?_
                exact im_i S hk hr hO ⟨TXR.L (by omega) hR hL1, rfl, KDV_L hL1 hV hK1 hK2, psP_e (e := e1) (by rw [hq, e6, prs_e hlt hr1]; rfl) (by rw [h41])⟩ (Nat.le_of_ble_eq_true rfl) (Nat.le_of_ble_eq_true rfl) d_TX_readLines_48
            · skip
              rw [hr1] at hP1
              obtain ⟨rfl, h31, hd⟩ := hP1
              have hz1 := (pln_d hr1).1
              refine W.eq (g2 := F0 m 39 ls [.int 1]) rfl ?_
              refine lv_if_ne (tgt := 49) S.1 S.2.1 d_TX_readLines_39 (by decide) (fun c_39 => ?_) (fun c_39 => ?_)
              · skip
                refine lv_iinc (v := nI (j + 1)) (lv' := [(2, .int (nI (j + 1))), (0, .ref (ad 35)), (1, .int (nI rm))]) S.1 S.2.1 d_TX_readLines_49 hl (k := 0) rfl (nI_1 _) (by decide) rfl (fun ls hl => ?_)
                refine lv_goto (tgt := 7) S.1 S.2.1 d_TX_readLines_52 (by decide) ?_
                exact ih_7 (j + 1) q1 (l0 ++ [x1]) s1 (by omega) (by omega) (by simp [hl0]) (by rw [hq, e6, prs_s hlt hr1, prp_app]) (TXR.L (by omega) hR hL1) (KDV_L hL1 hV hK1 hK2) (drf_app hL1 hl0 hD hd) h31 (by omega) _ _ hO ls (lv_sub hl [0, 1, 2] rfl)
              · skip
                exact absurd c_39 (by decide)
  exact K_7 (rm + 1) 0 0 [] sz (by omega) (by omega) rfl prp_nil.symm (by rw [hsz]; exact (TXR.refl σ).up (by omega)) (by rw [hsz]; exact ⟨by rw [up2_j (by decide)]; exact hV0.1, fun i hi => by rw [up2_k (by omega)]; exact hV0.2 i hi⟩) (fun i x hx => by simp at hx) (by rw [hsz, up2_s]; rfl) (by omega) _ _ hO ls (lv_sub hl [0, 1, 2] rfl)
