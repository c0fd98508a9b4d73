/-! The reference: ask, may, put, turned, never, at. Written by wip/tools/m31.py. -/
def MFr (s σ : Nat → Nat → Int32) : Prop := (∀ k, k ≠ 140 → k ≠ 148 → k ≠ 155 → s k = σ k) ∧ (∀ j, j ≠ 17 → j ≠ 20 → s 140 j = σ 140 j)
theorem MFr.refl (σ : Nat → Nat → Int32) : MFr σ σ := ⟨fun _ _ _ _ => rfl, fun _ _ _ => rfl⟩
theorem MFr.u20 {s σ : Nat → Nat → Int32} (h : MFr s σ) {v : Int32} : MFr (up2 s 140 20 v) σ := ⟨fun k h1 h2 h3 => by rw [up2_c h1]; exact h.1 k h1 h2 h3, fun j h1 h2 => by rw [up2_j h2]; exact h.2 j h1 h2⟩
theorem MFr.u17 {s σ : Nat → Nat → Int32} (h : MFr s σ) {v : Int32} : MFr (up2 s 140 17 v) σ := ⟨fun k h1 h2 h3 => by rw [up2_c h1]; exact h.1 k h1 h2 h3, fun j h1 h2 => by rw [up2_j h1]; exact h.2 j h1 h2⟩
theorem MFr.uc {s σ : Nat → Nat → Int32} (h : MFr s σ) {c j : Nat} {v : Int32} (hc : c = 148 ∨ c = 155) : MFr (up2 s c j v) σ := ⟨fun k h1 h2 h3 => by rw [up2_c (by omega)]; exact h.1 k h1 h2 h3, fun i h1 h2 => by rw [up2_k (by omega)]; exact h.2 i h1 h2⟩
theorem MFr.mr {s σ : Nat → Nat → Int32} (h : MFr s σ) {r : Nat} : MFr (mrS s r) σ := by
  unfold mrS
  split
  · exact h.u17
  · exact h
theorem mrS_20 {s : Nat → Nat → Int32} {r : Nat} : mrS s r 140 20 = s 140 20 := by
  unfold mrS
  split
  · exact up2_j (by decide)
  · rfl
def HOW (σ : Nat → Nat → Int32) (n : Nat) : Prop := ∀ r, r < n → isO (σ 145 r) = true → ∃ q : Nat, q < 4 ∧ σ 146 r = nI q
theorem HOW_e {s σ : Nat → Nat → Int32} {n : Nat} (h5 : s 145 = σ 145) (h6 : s 146 = σ 146) (h : HOW σ n) : HOW s n := fun r hr z => by rw [h5] at z; rw [h6]; exact h r hr z
theorem mrB_e {s σ : Nat → Nat → Int32} (h : MFr s σ) {nu r u i : Nat} {d : Int32} : mrB s nu r u i d = mrB σ nu r u i d := by
  have e1 := h.1 141 (by decide) (by decide) (by decide)
  have e2 := h.1 142 (by decide) (by decide) (by decide)
  have e3 := h.1 143 (by decide) (by decide) (by decide)
  have e13 := h.1 153 (by decide) (by decide) (by decide)
  unfold mrB
  rw [h.1 145 (by decide) (by decide) (by decide), h.1 146 (by decide) (by decide) (by decide), h.1 147 (by decide) (by decide) (by decide), szV_e e1 e2, otI_e e2 e3, ukI_e e2 e3, ukI_e e2 e3, ukI_e e2 e3, mtA_e e2 e3, mtA_e e2 e3, mnI_e e3, spM_e e2 e3, spL_e e2 e3, owB_e e2 e3 e13, e1, e2]
theorem ixA_f {s σ : Nat → Nat → Int32} (h : MFr s σ) {r p d : Int32} {u n : Nat} : ixA s r u p d n = ixA σ r u p d n :=
  ixA_e (h.1 142 (by decide) (by decide) (by decide)) (h.1 149 (by decide) (by decide) (by decide)) (h.1 150 (by decide) (by decide) (by decide)) (h.1 151 (by decide) (by decide) (by decide)) (h.1 152 (by decide) (by decide) (by decide)) n
/-- the rule r is asked, at the rank rk -/
def maN (σ : Nat → Nat → Int32) (nu ne u i : Nat) (d rk : Int32) (s : Nat → Nat → Int32) (r : Nat) : Nat → Nat → Int32 :=
  if σ 144 r = rk ∧ ixA σ (nI r) u (nI i) d ne = false then
    (if mrB σ nu r u i d = true then up2 (up2 (up2 (mrS s r) 148 r 1) 155 (s 140 20).toNatClampNeg (nI r)) 140 20 (nI ((s 140 20).toNatClampNeg + 1)) else mrS s r)
  else s
def maR (σ : Nat → Nat → Int32) (nu ne u i : Nat) (d rk : Int32) (s : Nat → Nat → Int32) : Nat → Nat → Nat → Int32
  | 0 => s
  | r + 1 => maN σ nu ne u i d rk (maR σ nu ne u i d rk s r) r
def maO (σ : Nat → Nat → Int32) (nu ne u i : Nat) (d : Int32) (n : Nat) : Nat → Nat → Nat → Int32
  | 0 => up2 σ 140 20 0
  | k + 1 => maR σ nu ne u i d (nI (k + 1)) (maO σ nu ne u i d n k) n
section MAS
variable {σ : Nat → Nat → Int32} {nu ne u i : Nat} {d : Int32}
theorem maN_F {rk : Int32} {s : Nat → Nat → Int32} {r : Nat} (h : MFr s σ) : MFr (maN σ nu ne u i d rk s r) σ := by
  unfold maN
  split
  · split
    · exact ((h.mr.uc (Or.inl rfl)).uc (Or.inr rfl)).u20
    · exact h.mr
  · exact h
theorem maR_F {rk : Int32} {s : Nat → Nat → Int32} (h : MFr s σ) (r : Nat) : MFr (maR σ nu ne u i d rk s r) σ := by
  induction r with
  | zero => exact h
  | succ r ih => exact maN_F ih
theorem maO_F {n : Nat} (k : Nat) : MFr (maO σ nu ne u i d n k) σ := by
  induction k with
  | zero => exact (MFr.refl σ).u20
  | succ k ih => exact maR_F ih n
/-- how many of the rules below n come ahead of the rule j at the rank K -/
def crk (f : Nat → Int32) (K : Int32) (j : Nat) : Nat → Nat
  | 0 => 0
  | q + 1 => crk f K j q + if f q < K ∨ (f q = K ∧ q < j) then 1 else 0
theorem crk_le (f : Nat → Int32) (K : Int32) (j n : Nat) : crk f K j n ≤ n := by
  induction n with
  | zero => exact Nat.le_refl _
  | succ n ih => show crk f K j n + _ ≤ n + 1; split <;> omega
theorem crk_mono {f : Nat → Int32} {K L : Int32} {j i : Nat} (h : ∀ q, (f q < K ∨ (f q = K ∧ q < j)) → (f q < L ∨ (f q = L ∧ q < i))) (n : Nat) : crk f K j n ≤ crk f L i n := by
  induction n with
  | zero => exact Nat.le_refl _
  | succ n ih =>
    show crk f K j n + (if _ then 1 else 0) ≤ crk f L i n + (if _ then 1 else 0)
    split
    · rename_i z
      rw [if_pos (h n z)]
      omega
    · omega
theorem crk_1 {f : Nat → Int32} {K : Int32} {j : Nat} (hj : f j = K) (n : Nat) (hn : j < n) : crk f K j n + 1 ≤ crk f K (j + 1) n := by
  induction n with
  | zero => omega
  | succ n ih =>
    show crk f K j n + (if _ then 1 else 0) + 1 ≤ crk f K (j + 1) n + (if _ then 1 else 0)
    by_cases hjn : j = n
    · subst hjn
      have h1 := crk_mono (f := f) (K := K) (L := K) (j := j) (i := j + 1) (fun q z => z.elim Or.inl (fun z => Or.inr ⟨z.1, by omega⟩)) j
      rw [if_neg (fun z => z.elim (fun z => by rw [hj] at z; exact Int32.lt_irrefl z) (fun z => by omega)), if_pos (Or.inr ⟨hj, by omega⟩)]
      omega
    · have h1 := ih (by omega)
      split
      · rename_i z
        rw [if_pos (z.elim Or.inl (fun z => Or.inr ⟨z.1, by omega⟩))]
        omega
      · omega
theorem maN_t {n r t : Nat} {K : Int32} {s : Nat → Nat → Int32} (hn : n ≤ 24) (hr : r < n) (ht : t ≤ crk (σ 144) K r n) (h : s 140 20 = nI t) : ∃ t, t ≤ crk (σ 144) K (r + 1) n ∧ maN σ nu ne u i d K s r 140 20 = nI t := by
  have hm : crk (σ 144) K r n ≤ crk (σ 144) K (r + 1) n := crk_mono (fun q z => z.elim Or.inl (fun z => Or.inr ⟨z.1, by omega⟩)) n
  have hl := crk_le (σ 144) K r n
  unfold maN
  split
  · rename_i z
    split
    · exact ⟨t + 1, by have := crk_1 z.1 n hr; omega, by rw [up2_s, h, nI_clamp (by omega)]⟩
    · exact ⟨t, by omega, by rw [mrS_20]; exact h⟩
  · exact ⟨t, by omega, h⟩
theorem maR_t {n : Nat} {K : Int32} {s : Nat → Nat → Int32} (hn : n ≤ 24) (h : ∃ t, t ≤ crk (σ 144) K 0 n ∧ s 140 20 = nI t) (r : Nat) (hr : r ≤ n) : ∃ t, t ≤ crk (σ 144) K r n ∧ maR σ nu ne u i d K s r 140 20 = nI t := by
  induction r with
  | zero => exact h
  | succ r ih =>
    obtain ⟨t, h1, h2⟩ := ih (by omega)
    exact maN_t hn (by omega) h1 h2
theorem maO_t {n : Nat} (hn : n ≤ 24) (k : Nat) (hk : k ≤ 100) : ∃ t, t ≤ crk (σ 144) (nI (k + 1)) 0 n ∧ maO σ nu ne u i d n k 140 20 = nI t := by
  induction k with
  | zero => exact ⟨0, Nat.zero_le _, up2_s⟩
  | succ k ih =>
    obtain ⟨t, h1, h2⟩ := maR_t hn (ih (by omega)) n (Nat.le_refl _)
    refine ⟨t, Nat.le_trans h1 (crk_mono (fun q z => Or.inl ?_) n), h2⟩
    rcases z with z | z
    · exact Int32.lt_trans z (nI_lt (by omega) (by omega))
    · rw [z.1]; exact nI_lt (by omega) (by omega)
def maA (σ : Nat → Nat → Int32) (nu ne n u i : Nat) (d : Int32) : Nat → Nat → Int32 := maO σ nu ne u i d n 100
def maV (σ : Nat → Nat → Int32) (nu ne n u i : Nat) (d : Int32) : Int32 := if 0 < maA σ nu ne n u i d 140 20 then maA σ nu ne n u i d 155 0 + 1 else 0
end MAS
set_option maxHeartbeats 4000000 in
set_option maxRecDepth 100000 in
theorem k_MD_ask (l : Launch) (G : gP) (ad : Nat → Nat) (σ : Nat → Nat → Int32) (τ : Nat → Nat → Int64) (u : Nat) (hu : u < 40) (i : Nat) (hi : i < 12) (d : Int32) (nu : Nat) (hmu : σ 140 2 = nI nu) (hn4 : nu ≤ 40) (n : Nat) (hmr : σ 140 5 = nI n) (hn24 : n ≤ 24) (ne : Nat) (hme : σ 140 11 = nI ne) (hn2 : ne ≤ 20) (how : HOW σ n) : gim l y_MD_ask c_MD_ask 6 (some .int) { frames := 3, cells := 0, slots := 0, locals := 80 } G ad σ τ [.ref (ad 140), .int (nI u), .int (nI i), .int d] 0 0 (fun v σ1 τ1 => v = some (.int (maV σ nu ne n u i d)) ∧ σ1 = maA σ nu ne n u i d ∧ τ1 = τ) (fun _ => False) := by
  refine gs_of (fun _ h => h) (by decide) (Nat.le_of_ble_eq_true rfl) ?_
  intro p e s m args below meth c ls S hk hr hx hl hO
  have hl : lv_has ls 6 [(0, .ref (ad 140)), (1, .int (nI u)), (2, .int (nI i)), (3, .int d)] := hl
  refine lv_aload_n S.1 S.2.1 d_MD_ask_0 rfl (lv_at hl 0 rfl) ?_
  refine lv_iconst (v := 0) S.1 S.2.1 d_MD_ask_1 (by decide) ?_
  obtain ⟨s0, hs0⟩ : ∃ z : Nat → Nat → Int32, z = up2 σ 140 20 0 := ⟨_, rfl⟩
  refine g_put S hO (fun _ h => h) fp_MD_190 (by decide) (sh_140 G ad _ _) (v := .int 0) rfl rfl (Nat.le_of_ble_eq_true rfl) (E2 := enc G ad s0 τ) (by rw [hs0]; exact enc_i (sh_140 G ad _ _)) d_MD_ask_2 (fun H locs hO => ?_)
  refine lv_iconst (v := 1) S.1 S.2.1 d_MD_ask_5 (by decide) ?_
  refine lv_istore (lv' := [(4, .int 1), (0, .ref (ad 140)), (1, .int (nI u)), (2, .int (nI i)), (3, .int d)]) S.1 S.2.1 d_MD_ask_6 hl (by decide) rfl (fun ls hl => ?_)
  have K_8 : ∀ (n9 : Nat) (k : Nat) (s9 : Nat → Nat → Int32), 100 - k < n9 → (k ≤ 100) → (s9 = maO σ nu ne u i d n k) → ∀ (H : Heap) (locs : List Loc), gO G (gA G) 159 ad (enc G ad s9 τ) s H locs → ∀ ls : Array Slot, lv_has ls 6 [(4, .int (nI (k + 1))), (0, .ref (ad 140)), (1, .int (nI u)), (2, .int (nI i)), (3, .int d)] → W p l e { frames := 3, cells := 0, slots := 0, locals := 80 } s m args below meth c H locs 0 0 (gM below (gA G) 0 0 (fun v t => ∃ E1, (∃ σ1 τ1, E1 = enc G ad σ1 τ1 ∧ (fun v σ1 τ1 => v = some (.int (maV σ nu ne n u i d)) ∧ σ1 = maA σ nu ne n u i d ∧ τ1 = τ) v σ1 τ1) ∧ va_P G.1 gcl (gw 159 ad E1) t.heap) (fun x t => (fun _ => False) x ∧ va_P G.1 gcl (gw 159 ad (enc G ad σ τ)) t.heap) args s) (F0 m 8 ls []) := by
    intro n9
    induction n9 with
    | zero =>
      intro k s9 hn9 hk100 hs9 H locs hO ls hl
      exact absurd hn9 (Nat.not_lt_zero _)
    | succ n9 ih_8 =>
      intro k s9 hn9 hk100 hs9 H locs hO ls hl
      refine lv_iload S.1 S.2.1 d_MD_ask_8 (lv_at hl 0 rfl) ?_
      refine lv_bipush (v := 100) S.1 S.2.1 d_MD_ask_10 (by decide) ?_
      refine lv_icmp_gt (tgt := 104) S.1 S.2.1 d_MD_ask_12 (by decide) (fun c_12 => ?_) (fun c_12 => ?_)
      · skip
        have hk1 : k = 100 := by
          have h9 := lt_nI (x := (100 : Int32)) (n := 100) rfl rfl (by omega) (by omega) c_12
          omega
        refine lv_aload_n S.1 S.2.1 d_MD_ask_104 rfl (lv_at hl 1 rfl) ?_
        refine g_get S hO fl_MD_190 (by decide) (sh_140 G ad _ _) (v := .int (s9 140 20)) rfl d_MD_ask_105 ?_
        refine lv_if_le (tgt := 122) S.1 S.2.1 d_MD_ask_108 (by decide) (fun c_108 => ?_) (fun c_108 => ?_)
        · skip
          refine lv_iconst (v := 0) S.1 S.2.1 d_MD_ask_122 (by decide) ?_
          exact im_i S hk hr hO ⟨by rw [maV, if_neg (by rw [maA, ← hk1, ← hs9]; exact Int32.not_lt.mpr c_108)], by rw [hs9, hk1]; rfl, rfl⟩ (Nat.le_of_ble_eq_true rfl) (Nat.le_of_ble_eq_true rfl) d_MD_ask_123
        · skip
          refine lv_aload_n S.1 S.2.1 d_MD_ask_111 rfl (lv_at hl 1 rfl) ?_
          refine g_get S hO fl_MD_53 (by decide) (sh_140 G ad _ _) (v := .ref (ad 155)) rfl d_MD_ask_112 ?_
          refine lv_iconst (v := 0) S.1 S.2.1 d_MD_ask_115 (by decide) ?_
          refine g_ial S hO (by decide) (sh_155 G ad _ _) (vp_in_nI (show 0 < 24 by decide) (by decide)) d_MD_ask_116 ?_
          refine W.eq (g2 := F0 m 117 ls [.int (s9 155 0)]) rfl ?_
          refine lv_iconst (v := 1) S.1 S.2.1 d_MD_ask_117 (by decide) ?_
          refine lv_iadd S.1 S.2.1 d_MD_ask_118 ?_
          refine lv_goto (tgt := 123) S.1 S.2.1 d_MD_ask_119 (by decide) ?_
          exact im_i S hk hr hO ⟨by rw [maV, if_pos (by rw [maA, ← hk1, ← hs9]; exact Int32.not_le.mp c_108), hs9, hk1]; rfl, by rw [hs9, hk1]; rfl, rfl⟩ (Nat.le_of_ble_eq_true rfl) (Nat.le_of_ble_eq_true rfl) d_MD_ask_123
      · skip
        have hk2 : k < 100 := by
          have h9 := ge_nI (n := k + 1) (N := 100) rfl rfl (by omega) (by omega) (Int32.not_lt.mp c_12)
          omega
        refine lv_iconst (v := 0) S.1 S.2.1 d_MD_ask_15 (by decide) ?_
        refine lv_istore (lv' := [(5, .int 0), (4, .int (nI (k + 1))), (0, .ref (ad 140)), (1, .int (nI u)), (2, .int (nI i)), (3, .int d)]) S.1 S.2.1 d_MD_ask_16 hl (by decide) rfl (fun ls hl => ?_)
        have K_18 : ∀ (n9 : Nat) (r : Nat) (s8 : Nat → Nat → Int32), n - r < n9 → (r ≤ n) → (s8 = maR σ nu ne u i d (nI (k + 1)) (maO σ nu ne u i d n k) r) → ∀ (H : Heap) (locs : List Loc), gO G (gA G) 159 ad (enc G ad s8 τ) s H locs → ∀ ls : Array Slot, lv_has ls 6 [(5, .int (nI r)), (4, .int (nI (k + 1))), (0, .ref (ad 140)), (1, .int (nI u)), (2, .int (nI i)), (3, .int d)] → W p l e { frames := 3, cells := 0, slots := 0, locals := 80 } s m args below meth c H locs 0 0 (gM below (gA G) 0 0 (fun v t => ∃ E1, (∃ σ1 τ1, E1 = enc G ad σ1 τ1 ∧ (fun v σ1 τ1 => v = some (.int (maV σ nu ne n u i d)) ∧ σ1 = maA σ nu ne n u i d ∧ τ1 = τ) v σ1 τ1) ∧ va_P G.1 gcl (gw 159 ad E1) t.heap) (fun x t => (fun _ => False) x ∧ va_P G.1 gcl (gw 159 ad (enc G ad σ τ)) t.heap) args s) (F0 m 18 ls []) := by
          intro n9
          induction n9 with
          | zero =>
            intro r s8 hn9 hrn hs8 H locs hO ls hl
            exact absurd hn9 (Nat.not_lt_zero _)
          | succ n9 ih_18 =>
            intro r s8 hn9 hrn hs8 H locs hO ls hl
            have hF : MFr s8 σ := by rw [hs8]; exact maR_F (maO_F k) r
            obtain ⟨t, ht1, ht⟩ := maR_t (nu := nu) (ne := ne) (u := u) (i := i) (d := d) hn24 (maO_t (nu := nu) (ne := ne) (u := u) (i := i) (d := d) hn24 k (by omega)) r hrn
            rw [← hs8] at ht
            have h5 : s8 140 5 = nI n := by rw [hF.2 5 (by decide) (by decide)]; exact hmr
            have h11 : s8 140 11 = nI ne := by rw [hF.2 11 (by decide) (by decide)]; exact hme
            have h2 : s8 140 2 = nI nu := by rw [hF.2 2 (by decide) (by decide)]; exact hmu
            have e144 : s8 144 = σ 144 := hF.1 144 (by decide) (by decide) (by decide)
            refine lv_iload S.1 S.2.1 d_MD_ask_18 (lv_at hl 0 rfl) ?_
            refine lv_aload_n S.1 S.2.1 d_MD_ask_20 rfl (lv_at hl 2 rfl) ?_
            refine g_get S hO fl_MD_94 (by decide) (sh_140 G ad _ _) (v := .int (s8 140 5)) rfl d_MD_ask_21 ?_
            refine W.eq (g2 := F0 m 24 ls [.int (nI n), .int (nI r)]) (by rw [show s8 140 5 = nI n from h5]) ?_
            refine lv_icmp_ge (tgt := 98) S.1 S.2.1 d_MD_ask_24 (by decide) (fun c_24 => ?_) (fun c_24 => ?_)
            · skip
              have hw3 : r = n := by have h9 := ge_nI (x := nI n) rfl rfl (by omega) (by omega) c_24; omega
              refine lv_iinc (v := nI (k + 1 + 1)) (lv' := [(4, .int (nI (k + 1 + 1))), (5, .int (nI r)), (0, .ref (ad 140)), (1, .int (nI u)), (2, .int (nI i)), (3, .int d)]) S.1 S.2.1 d_MD_ask_98 hl (k := 1) rfl (nI_1 _) (by decide) rfl (fun ls hl => ?_)
              refine lv_goto (tgt := 8) S.1 S.2.1 d_MD_ask_101 (by decide) ?_
              exact ih_8 (k + 1) s8 (by omega) (by omega) (by rw [hs8, hw3]; rfl) _ _ hO ls (lv_sub hl [0, 2, 3, 4, 5] rfl)
            · skip
              have hw3 : r < n := ngt_nI (x := nI n) rfl rfl (by omega) (by omega) c_24
              have eIX : ixA s8 (nI r) u (nI i) d ne = ixA σ (nI r) u (nI i) d ne := ixA_f hF
              have eMR : mrB s8 nu r u i d = mrB σ nu r u i d := mrB_e hF
              refine lv_aload_n S.1 S.2.1 d_MD_ask_27 rfl (lv_at hl 2 rfl) ?_
              refine g_get S hO fl_MD_19 (by decide) (sh_140 G ad _ _) (v := .ref (ad 144)) rfl d_MD_ask_28 ?_
              refine lv_iload S.1 S.2.1 d_MD_ask_31 (lv_at hl 0 rfl) ?_
              refine g_ial S hO (by decide) (sh_144 G ad _ _) (vp_in_nI (show r < 24 by omega) (by decide)) d_MD_ask_33 ?_
              refine W.eq (g2 := F0 m 34 ls [.int (s8 144 r)]) (by rw [nI_clamp (show r < 2 ^ 31 by omega)]) ?_
              refine lv_iload S.1 S.2.1 d_MD_ask_34 (lv_at hl 1 rfl) ?_
              refine lv_icmp_ne (tgt := 92) S.1 S.2.1 d_MD_ask_36 (by decide) (fun c_36 => ?_) (fun c_36 => ?_)
              · skip
                refine lv_iinc (v := nI (r + 1)) (lv' := [(5, .int (nI (r + 1))), (4, .int (nI (k + 1))), (0, .ref (ad 140)), (1, .int (nI u)), (2, .int (nI i)), (3, .int d)]) S.1 S.2.1 d_MD_ask_92 hl (k := 0) rfl (nI_1 _) (by decide) rfl (fun ls hl => ?_)
                refine lv_goto (tgt := 18) S.1 S.2.1 d_MD_ask_95 (by decide) ?_
                exact ih_18 (r + 1) s8 (by omega) (by omega) (by rw [show s8 = maN σ nu ne u i d (nI (k + 1)) s8 r from (by rw [maN, if_neg (fun z => c_36 (by rw [e144]; exact z.1))]), hs8]; rfl) _ _ hO ls (lv_sub hl [0, 1, 2, 3, 4, 5] rfl)
              · skip
                have htn : t < n := by have z1 := crk_1 (f := σ 144) (K := nI (k + 1)) (j := r) (by rw [← e144]; exact c_36) n hw3; have z2 := crk_le (σ 144) (nI (k + 1)) (r + 1) n; omega
                refine lv_aload_n S.1 S.2.1 d_MD_ask_39 rfl (lv_at hl 2 rfl) ?_
                refine lv_iload S.1 S.2.1 d_MD_ask_40 (lv_at hl 0 rfl) ?_
                refine lv_iload_n S.1 S.2.1 d_MD_ask_42 rfl (lv_at hl 3 rfl) ?_
                refine lv_iload_n S.1 S.2.1 d_MD_ask_43 rfl (lv_at hl 4 rfl) ?_
                refine lv_iload_n S.1 S.2.1 d_MD_ask_44 rfl (lv_at hl 5 rfl) ?_
                refine g_VP (As := [.int (nI r), .int (nI u), .int (nI i), .int d]) (rest := []) S hO (k_MD_isExcepted l G ad s8 τ (nI r) u hu (nI i) d ne h11 hn2) cw_MD_193 (by decide) (sh_140 G ad _ _) rfl rfl hl.1 (Nat.le_of_ble_eq_true rfl) ⟨(Nat.le_of_ble_eq_true rfl), (Nat.le_of_ble_eq_true rfl)⟩ ⟨(Nat.le_of_ble_eq_true rfl), (Nat.le_of_ble_eq_true rfl)⟩ d_MD_ask_45 (fun q x ce H h9 => h9.elim) (fun v H v_3 hO => ?_)
                subst v_3
                refine W.eq (g2 := F0 m 48 ls [.int (bI (ixA s8 (nI r) u (nI i) d ne))]) rfl ?_
                refine lv_if_ne (tgt := 92) S.1 S.2.1 d_MD_ask_48 (by decide) (fun c_48 => ?_) (fun c_48 => ?_)
                · skip
                  have q_48 : (ixA s8 (nI r) u (nI i) d ne) = true := b_1 c_48
                  refine lv_iinc (v := nI (r + 1)) (lv' := [(5, .int (nI (r + 1))), (4, .int (nI (k + 1))), (0, .ref (ad 140)), (1, .int (nI u)), (2, .int (nI i)), (3, .int d)]) S.1 S.2.1 d_MD_ask_92 hl (k := 0) rfl (nI_1 _) (by decide) rfl (fun ls hl => ?_)
                  refine lv_goto (tgt := 18) S.1 S.2.1 d_MD_ask_95 (by decide) ?_
                  exact ih_18 (r + 1) s8 (by omega) (by omega) (by rw [show s8 = maN σ nu ne u i d (nI (k + 1)) s8 r from (by rw [maN, if_neg (fun z => absurd (eIX.trans z.2) (by rw [q_48]; decide))]), hs8]; rfl) _ _ hO ls (lv_sub hl [0, 1, 2, 3, 4, 5] rfl)
                · skip
                  have q_48 : (ixA s8 (nI r) u (nI i) d ne) = false := b_0 c_48
                  refine lv_aload_n S.1 S.2.1 d_MD_ask_51 rfl (lv_at hl 2 rfl) ?_
                  refine lv_iload S.1 S.2.1 d_MD_ask_52 (lv_at hl 0 rfl) ?_
                  refine lv_iload_n S.1 S.2.1 d_MD_ask_54 rfl (lv_at hl 3 rfl) ?_
                  refine lv_iload_n S.1 S.2.1 d_MD_ask_55 rfl (lv_at hl 4 rfl) ?_
                  refine lv_iload_n S.1 S.2.1 d_MD_ask_56 rfl (lv_at hl 5 rfl) ?_
                  refine g_VI (As := [.int (nI r), .int (nI u), .int (nI i), .int d]) (rest := []) S hO (fun _ h => h) (k_MD_refuses l G ad s8 τ r (by omega) u hu i hi d nu h2 hn4 (fun z0 z1 z2 z3 z4 z5 z6 z7 z8 z9 => by rw [hF.1 146 (by decide) (by decide) (by decide)]; exact how r hw3 (by rw [← hF.1 145 (by decide) (by decide) (by decide)]; simp [isO, z0, z1, z2, z3, z4, z5, z6, z7, z8, z9]))) cw_MD_197 (by decide) (sh_140 G ad _ _) rfl rfl hl.1 (Nat.le_of_ble_eq_true rfl) ⟨(Nat.le_of_ble_eq_true rfl), (Nat.le_of_ble_eq_true rfl)⟩ ⟨(Nat.le_of_ble_eq_true rfl), (Nat.le_of_ble_eq_true rfl)⟩ d_MD_ask_57 (fun q x ce H locs h9 => h9.elim) (fun v E1 H locs v_5 hO => ?_)
                  obtain ⟨sa, t_6, rfl, rfl, hsa, ht_6⟩ := v_5
                  rw [ht_6] at hO
                  refine W.eq (g2 := F0 m 60 ls [.int (bI (mrB s8 nu r u i d))]) rfl ?_
                  refine lv_if_eq (tgt := 92) S.1 S.2.1 d_MD_ask_60 (by decide) (fun c_60 => ?_) (fun c_60 => ?_)
                  · skip
                    have q_60 : (mrB s8 nu r u i d) = false := b_0 c_60
                    refine lv_iinc (v := nI (r + 1)) (lv' := [(5, .int (nI (r + 1))), (4, .int (nI (k + 1))), (0, .ref (ad 140)), (1, .int (nI u)), (2, .int (nI i)), (3, .int d)]) S.1 S.2.1 d_MD_ask_92 hl (k := 0) rfl (nI_1 _) (by decide) rfl (fun ls hl => ?_)
                    refine lv_goto (tgt := 18) S.1 S.2.1 d_MD_ask_95 (by decide) ?_
                    exact ih_18 (r + 1) sa (by omega) (by omega) (by rw [show sa = maN σ nu ne u i d (nI (k + 1)) s8 r from (by rw [maN, if_pos ⟨by rw [← e144]; exact c_36, eIX.symm.trans q_48⟩, if_neg (by rw [← eMR, q_60]; decide)]; exact hsa), hs8]; rfl) _ _ hO ls (lv_sub hl [0, 1, 2, 3, 4, 5] rfl)
                  · skip
                    have q_60 : (mrB s8 nu r u i d) = true := b_1 c_60
                    refine lv_aload_n S.1 S.2.1 d_MD_ask_63 rfl (lv_at hl 2 rfl) ?_
                    refine g_get S hO fl_MD_31 (by decide) (sh_140 G ad _ _) (v := .ref (ad 148)) rfl d_MD_ask_64 ?_
                    refine lv_iload S.1 S.2.1 d_MD_ask_67 (lv_at hl 0 rfl) ?_
                    refine lv_iconst (v := 1) S.1 S.2.1 d_MD_ask_69 (by decide) ?_
                    obtain ⟨sb, hsb⟩ : ∃ z : Nat → Nat → Int32, z = up2 sa 148 r 1 := ⟨_, rfl⟩
                    refine g_zas S hO (fun _ h => h) (by decide) (sh_148 G ad _ _) (vp_in_nI (show r < 24 by omega) (by decide)) (E2 := enc G ad sb τ) (by rw [hsb, nI_clamp (show r < 2 ^ 31 by omega)]; exact enc_i (sh_148 G ad _ _)) d_MD_ask_70 (fun H locs hO => ?_)
                    refine lv_aload_n S.1 S.2.1 d_MD_ask_71 rfl (lv_at hl 2 rfl) ?_
                    refine g_get S hO fl_MD_53 (by decide) (sh_140 G ad _ _) (v := .ref (ad 155)) rfl d_MD_ask_72 ?_
                    refine lv_aload_n S.1 S.2.1 d_MD_ask_75 rfl (lv_at hl 2 rfl) ?_
                    refine g_get S hO fl_MD_190 (by decide) (sh_140 G ad _ _) (v := .int (sb 140 20)) rfl d_MD_ask_76 ?_
                    refine W.eq (g2 := F0 m 79 ls [.int (nI t), .ref (ad 155)]) (by rw [show sb 140 20 = nI t from (by simp [hsb, hsa, up2_at, ht, mrS_20])]) ?_
                    refine lv_iload S.1 S.2.1 d_MD_ask_79 (lv_at hl 0 rfl) ?_
                    obtain ⟨sc, hsc⟩ : ∃ z : Nat → Nat → Int32, z = up2 sb 155 t (nI r) := ⟨_, rfl⟩
                    refine g_ias S hO (fun _ h => h) (by decide) (sh_155 G ad _ _) (vp_in_nI (show t < 24 by omega) (by decide)) (E2 := enc G ad sc τ) (by rw [hsc, nI_clamp (show t < 2 ^ 31 by omega)]; exact enc_i (sh_155 G ad _ _)) d_MD_ask_81 (fun H locs hO => ?_)
                    refine lv_aload_n S.1 S.2.1 d_MD_ask_82 rfl (lv_at hl 2 rfl) ?_
                    refine lv_dup S.1 S.2.1 d_MD_ask_83 rfl ?_
                    refine g_get S hO fl_MD_190 (by decide) (sh_140 G ad _ _) (v := .int (sc 140 20)) rfl d_MD_ask_84 ?_
                    refine W.eq (g2 := F0 m 87 ls [.int (nI t), .ref (ad 140)]) (by rw [show sc 140 20 = nI t from (by simp [hsc, hsb, hsa, up2_at, ht, mrS_20])]) ?_
                    refine lv_iconst (v := 1) S.1 S.2.1 d_MD_ask_87 (by decide) ?_
                    refine lv_iadd S.1 S.2.1 d_MD_ask_88 ?_
                    refine W.eq (g2 := F0 m 89 ls [.int (nI (t + 1)), .ref (ad 140)]) (by rw [show (nI t) + (1 : Int32) = nI (t + 1) from nI_add t 1]) ?_
                    obtain ⟨sd, hsd⟩ : ∃ z : Nat → Nat → Int32, z = up2 sc 140 20 (nI (t + 1)) := ⟨_, rfl⟩
                    refine g_put S hO (fun _ h => h) fp_MD_190 (by decide) (sh_140 G ad _ _) (v := .int (nI (t + 1))) rfl rfl (Nat.le_of_ble_eq_true rfl) (E2 := enc G ad sd τ) (by rw [hsd]; exact enc_i (sh_140 G ad _ _)) d_MD_ask_89 (fun H locs hO => ?_)
                    refine lv_iinc (v := nI (r + 1)) (lv' := [(5, .int (nI (r + 1))), (4, .int (nI (k + 1))), (0, .ref (ad 140)), (1, .int (nI u)), (2, .int (nI i)), (3, .int d)]) S.1 S.2.1 d_MD_ask_92 hl (k := 0) rfl (nI_1 _) (by decide) rfl (fun ls hl => ?_)
                    refine lv_goto (tgt := 18) S.1 S.2.1 d_MD_ask_95 (by decide) ?_
                    exact ih_18 (r + 1) sd (by omega) (by omega) (by rw [show sd = maN σ nu ne u i d (nI (k + 1)) s8 r from (by rw [maN, if_pos ⟨by rw [← e144]; exact c_36, eIX.symm.trans q_48⟩, if_pos (eMR.symm.trans q_60), ht, nI_clamp (show t < 2 ^ 31 by omega)]; rw [hsd, hsc, hsb, hsa]), hs8]; rfl) _ _ hO ls (lv_sub hl [0, 1, 2, 3, 4, 5] rfl)
        exact K_18 (n + 1) 0 s9 (by omega) (by omega) hs9 _ _ hO ls (lv_sub hl [0, 1, 2, 3, 4, 5] rfl)
  exact K_8 101 0 s0 (by omega) (by omega) hs0 _ _ hO ls (lv_sub hl [0, 1, 2, 3, 4] rfl)
def bdM (b d : Int32) : Bool := !inB b 0 11 || !inB d 0 1000
theorem bdM_1 {b d : Int32} (h : bdM b d = false) : inB b 0 11 = true := by
  simp only [bdM, Bool.or_eq_false_iff, Bool.not_eq_false'] at h
  exact h.1
theorem or2_2 {a b : Bool} (h : (a || b) = false) : b = false := by
  cases a with
  | false => simpa using h
  | true => simp at h
theorem or3_2 {a b c : Bool} (h : (a || b || c) = false) : b = false := by
  cases a with
  | false =>
    cases b with
    | false => rfl
    | true => simp at h
  | true => simp at h
def mM0 (σ : Nat → Nat → Int32) (nu : Nat) (a b d : Int32) : Nat → Nat → Int32 := up2 σ 140 0 (fcd (!unB nu a) (bdM b d) false)
def mMs (σ : Nat → Nat → Int32) (nu ne n : Nat) (a b d : Int32) : Nat → Nat → Int32 := if (!unB nu a || bdM b d) = true then mM0 σ nu a b d else maA (mM0 σ nu a b d) nu ne n a.toNatClampNeg b.toNatClampNeg d
def mMv (σ : Nat → Nat → Int32) (nu ne n : Nat) (a b d : Int32) : Int32 := if (!unB nu a || bdM b d) = true then 0 else maV (mM0 σ nu a b d) nu ne n a.toNatClampNeg b.toNatClampNeg d
def ptB (σ : Nat → Nat → Int32) (nu : Nat) (a b : Int32) : Bool := unB nu a && decide (σ 143 a.toNatClampNeg = b)
def mP0 (σ : Nat → Nat → Int32) (nu : Nat) (a b d : Int32) : Nat → Nat → Int32 := up2 σ 140 0 (fcd (!unB nu a) (bdM b d) (ptB σ nu a b))
def mPv (σ : Nat → Nat → Int32) (nu ne n : Nat) (a b d : Int32) : Int32 := if (!unB nu a || bdM b d || ptB σ nu a b) = true then 0 else maV (mP0 σ nu a b d) nu ne n a.toNatClampNeg b.toNatClampNeg d
def mPs (σ : Nat → Nat → Int32) (nu ne n : Nat) (a b d : Int32) : Nat → Nat → Int32 := if (!unB nu a || bdM b d || ptB σ nu a b) = true then mP0 σ nu a b d else
  up2 (maA (mP0 σ nu a b d) nu ne n a.toNatClampNeg b.toNatClampNeg d) 143 a.toNatClampNeg (if maV (mP0 σ nu a b d) nu ne n a.toNatClampNeg b.toNatClampNeg d = 0 then b else maA (mP0 σ nu a b d) nu ne n a.toNatClampNeg b.toNatClampNeg d 143 a.toNatClampNeg)
def mfB (σ : Nat → Nat → Int32) (u i : Nat) : Nat → Bool := fun w => ftB σ u i (nI w)
def mT0 (σ : Nat → Nat → Int32) (nu : Nat) (a b : Int32) : Nat → Nat → Int32 := up2 σ 140 0 (fcd (!unB nu a) (!inB b 0 11) false)
def mTv (σ : Nat → Nat → Int32) (nu : Nat) (a b : Int32) : Int32 := if (!unB nu a || !inB b 0 11) = true then 0 else oI (lpf (mfB (mT0 σ nu a b) a.toNatClampNeg b.toNatClampNeg) 6 0)
def mN0 (σ : Nat → Nat → Int32) (a : Int32) : Nat → Nat → Int32 := up2 σ 140 0 (fcd (!decide (0 ≤ a)) false false)
def nmB (σ : Nat → Nat → Int32) : Nat → Bool := fun j => decide (σ 148 j = 0)
def mNv (σ : Nat → Nat → Int32) (n : Nat) (a : Int32) : Int32 := if (!decide (0 ≤ a)) = true then 0 else oI (nthx (nmB (mN0 σ a)) n 0 a.toNatClampNeg)
def abB (a b : Int32) : Bool := !inB a 0 11 || !decide (0 ≤ b)
theorem abB_2 {a b : Int32} (h : abB a b = false) : ∃ u : Nat, u < 2 ^ 31 ∧ b = nI u := by
  simp only [abB, Bool.or_eq_false_iff, Bool.not_eq_false'] at h
  exact nn_n (by simpa using h.2)
def mA0 (σ : Nat → Nat → Int32) (a b : Int32) : Nat → Nat → Int32 := up2 σ 140 0 (fcd (abB a b) false false)
def amB (σ : Nat → Nat → Int32) (a : Int32) : Nat → Bool := fun j => decide (σ 143 j = a)
def mAv (σ : Nat → Nat → Int32) (nu : Nat) (a b : Int32) : Int32 := if abB a b = true then 0 else oI (nthx (amB (mA0 σ a b) a) nu 0 b.toNatClampNeg)
set_option maxHeartbeats 4000000 in
set_option maxRecDepth 100000 in
theorem k_MD_may (l : Launch) (G : gP) (ad : Nat → Nat) (σ : Nat → Nat → Int32) (τ : Nat → Nat → Int64) (a b d : Int32) (nu : Nat) (hmu : σ 140 2 = nI nu) (hn4 : nu ≤ 40) (n : Nat) (hmr : σ 140 5 = nI n) (hn24 : n ≤ 24) (ne : Nat) (hme : σ 140 11 = nI ne) (hn2 : ne ≤ 20) (how : HOW σ n) : gim l y_MD_may c_MD_may 4 (some .int) { frames := 4, cells := 0, slots := 0, locals := 105 } G ad σ τ [.ref (ad 140), .int a, .int b, .int d] 0 0 (fun v σ1 τ1 => v = some (.int (mMv σ nu ne n a b d)) ∧ σ1 = mMs σ nu ne n a b d ∧ τ1 = τ) (fun _ => False) := by
  refine gs_of (fun _ h => h) (by decide) (Nat.le_of_ble_eq_true rfl) ?_
  intro p e s m args below meth c ls S hk hr hx hl hO
  have hl : lv_has ls 4 [(0, .ref (ad 140)), (1, .int a), (2, .int b), (3, .int d)] := hl
  refine lv_aload_n S.1 S.2.1 d_MD_may_0 rfl (lv_at hl 0 rfl) ?_
  have J_14 : ∀ (z : Int32), z = (bI (!unB nu a)) → ∀ (H : Heap) (locs : List Loc), gO G (gA G) 159 ad (enc G ad σ τ) s H locs → ∀ ls : Array Slot, lv_has ls 4 [(0, .ref (ad 140)), (1, .int a), (2, .int b), (3, .int d)] → W p l e { frames := 4, cells := 0, slots := 0, locals := 105 } s m args below meth c H locs 0 0 (gM below (gA G) 0 0 (fun v t => ∃ E1, (∃ σ1 τ1, E1 = enc G ad σ1 τ1 ∧ (fun v σ1 τ1 => v = some (.int (mMv σ nu ne n a b d)) ∧ σ1 = mMs σ nu ne n a b d ∧ τ1 = τ) v σ1 τ1) ∧ va_P G.1 gcl (gw 159 ad E1) t.heap) (fun x t => (fun _ => False) x ∧ va_P G.1 gcl (gw 159 ad (enc G ad σ τ)) t.heap) args s) (F0 m 14 ls (.int z :: [.ref (ad 140)])) := by
    intro z ez H locs hO ls hl
    subst ez
    have J_37 : ∀ (z : Int32), z = (bI (bdM b d)) → ∀ (H : Heap) (locs : List Loc), gO G (gA G) 159 ad (enc G ad σ τ) s H locs → ∀ ls : Array Slot, lv_has ls 4 [(0, .ref (ad 140)), (1, .int a), (2, .int b), (3, .int d)] → W p l e { frames := 4, cells := 0, slots := 0, locals := 105 } s m args below meth c H locs 0 0 (gM below (gA G) 0 0 (fun v t => ∃ E1, (∃ σ1 τ1, E1 = enc G ad σ1 τ1 ∧ (fun v σ1 τ1 => v = some (.int (mMv σ nu ne n a b d)) ∧ σ1 = mMs σ nu ne n a b d ∧ τ1 = τ) v σ1 τ1) ∧ va_P G.1 gcl (gw 159 ad E1) t.heap) (fun x t => (fun _ => False) x ∧ va_P G.1 gcl (gw 159 ad (enc G ad σ τ)) t.heap) args s) (F0 m 37 ls (.int z :: [.int (bI (!unB nu a)), .ref (ad 140)])) := by
      intro z ez H locs hO ls hl
      subst ez
      refine lv_iconst (v := 0) S.1 S.2.1 d_MD_may_37 (by decide) ?_
      refine g_VI (As := [.int (bI (!unB nu a)), .int (bI (bdM b d)), .int 0]) (rest := []) S hO (fun _ h => h) (k_MD_fails2 l G ad σ τ (!unB nu a) (bdM b d)) cw_MD_78 (by decide) (sh_140 G ad _ _) rfl rfl hl.1 (Nat.le_of_ble_eq_true rfl) ⟨(Nat.le_of_ble_eq_true rfl), (Nat.le_of_ble_eq_true rfl)⟩ ⟨(Nat.le_of_ble_eq_true rfl), (Nat.le_of_ble_eq_true rfl)⟩ d_MD_may_38 (fun q x ce H locs h9 => h9.elim) (fun v E1 H locs v_1 hO => ?_)
      obtain ⟨sf, t_2, rfl, rfl, hsf, ht_2⟩ := v_1
      rw [ht_2] at hO
      refine W.eq (g2 := F0 m 41 ls [.int (bI ((!unB nu a) || (bdM b d)))]) rfl ?_
      refine lv_if_eq (tgt := 48) S.1 S.2.1 d_MD_may_41 (by decide) (fun c_41 => ?_) (fun c_41 => ?_)
      · skip
        have q_41 : ((!unB nu a) || (bdM b d)) = false := b_0 c_41
        obtain ⟨u, hu, rfl⟩ := unB_n (by omega) (or2_1 q_41)
        obtain ⟨i, hi, rfl⟩ := inB_n (n := 11) (by decide) (bdM_1 (or2_2 q_41))
        refine lv_aload_n S.1 S.2.1 d_MD_may_48 rfl (lv_at hl 0 rfl) ?_
        refine lv_iload_n S.1 S.2.1 d_MD_may_49 rfl (lv_at hl 1 rfl) ?_
        refine lv_iload_n S.1 S.2.1 d_MD_may_50 rfl (lv_at hl 2 rfl) ?_
        refine lv_iload_n S.1 S.2.1 d_MD_may_51 rfl (lv_at hl 3 rfl) ?_
        refine g_VI (As := [.int (nI u), .int (nI i), .int d]) (rest := []) S hO (fun _ h => h) (k_MD_ask l G ad sf τ u (by omega) i (by omega) d nu (by simp [hsf, up2_at, hmu]) hn4 n (by simp [hsf, up2_at, hmr]) hn24 ne (by simp [hsf, up2_at, hme]) hn2 (by rw [hsf]; exact HOW_e (up2_c (by decide)) (up2_c (by decide)) how)) cw_MD_200 (by decide) (sh_140 G ad _ _) rfl rfl hl.1 (Nat.le_of_ble_eq_true rfl) ⟨(Nat.le_of_ble_eq_true rfl), (Nat.le_of_ble_eq_true rfl)⟩ ⟨(Nat.le_of_ble_eq_true rfl), (Nat.le_of_ble_eq_true rfl)⟩ d_MD_may_52 (fun q x ce H locs h9 => h9.elim) (fun v E1 H locs v_3 hO => ?_)
        obtain ⟨s_4, t_5, rfl, rfl, hs_4, ht_5⟩ := v_3
        rw [ht_5] at hO
        refine W.eq (g2 := F0 m 55 ls [.int (maV sf nu ne n u i d)]) rfl ?_
        subst hs_4
        subst hsf
        exact im_i S hk hr hO ⟨by rw [mMv, q_41, nI_clamp (show u < 2 ^ 31 by omega), nI_clamp (show i < 2 ^ 31 by omega)]; rfl, by rw [mMs, q_41, nI_clamp (show u < 2 ^ 31 by omega), nI_clamp (show i < 2 ^ 31 by omega)]; rfl, rfl⟩ (Nat.le_of_ble_eq_true rfl) (Nat.le_of_ble_eq_true rfl) d_MD_may_55
      · skip
        have q_41 : ((!unB nu a) || (bdM b d)) = true := b_1 c_41
        refine lv_iconst (v := 0) S.1 S.2.1 d_MD_may_44 (by decide) ?_
        refine lv_goto (tgt := 55) S.1 S.2.1 d_MD_may_45 (by decide) ?_
        subst hsf
        exact im_i S hk hr hO ⟨by rw [mMv, if_pos q_41], by rw [mMs, if_pos q_41]; rfl, rfl⟩ (Nat.le_of_ble_eq_true rfl) (Nat.le_of_ble_eq_true rfl) d_MD_may_55
    refine lv_iload_n S.1 S.2.1 d_MD_may_14 rfl (lv_at hl 2 rfl) ?_
    refine g_SP (As := [.int b]) (rest := [.int (bI (!unB nu a)), .ref (ad 140)]) S hO (k_MD_isPlace l G ad σ τ b) cw_MD_71 g_cfC hl.1 (Nat.le_of_ble_eq_true rfl) ⟨(Nat.le_of_ble_eq_true rfl), (Nat.le_of_ble_eq_true rfl)⟩ ⟨(Nat.le_of_ble_eq_true rfl), (Nat.le_of_ble_eq_true rfl)⟩ d_MD_may_15 (fun q x ce H h9 => h9.elim) (fun v H v_6 hO => ?_)
    subst v_6
    refine W.eq (g2 := F0 m 18 ls [.int (bI (inB b 0 11)), .int (bI (!unB nu a)), .ref (ad 140)]) rfl ?_
    refine lv_if_eq (tgt := 32) S.1 S.2.1 d_MD_may_18 (by decide) (fun c_18 => ?_) (fun c_18 => ?_)
    · skip
      have q_18 : (inB b 0 11) = false := b_0 c_18
      refine lv_iconst (v := 1) S.1 S.2.1 d_MD_may_32 (by decide) ?_
      refine lv_goto (tgt := 37) S.1 S.2.1 d_MD_may_33 (by decide) ?_
      exact J_37 _ (by simp [bI, bdM, q_18]) _ _ hO ls (lv_sub hl [0, 1, 2, 3] rfl)
    · skip
      have q_18 : (inB b 0 11) = true := b_1 c_18
      refine lv_iload_n S.1 S.2.1 d_MD_may_21 rfl (lv_at hl 3 rfl) ?_
      refine lv_iconst (v := 0) S.1 S.2.1 d_MD_may_22 (by decide) ?_
      refine lv_sipush (v := 1000) S.1 S.2.1 d_MD_may_23 (by decide) ?_
      refine g_SP (As := [.int d, .int 0, .int 1000]) (rest := [.int (bI (!unB nu a)), .ref (ad 140)]) S hO (k_MD_in l G ad σ τ d 0 1000) cw_MD_67 g_cfC hl.1 (Nat.le_of_ble_eq_true rfl) ⟨(Nat.le_of_ble_eq_true rfl), (Nat.le_of_ble_eq_true rfl)⟩ ⟨(Nat.le_of_ble_eq_true rfl), (Nat.le_of_ble_eq_true rfl)⟩ d_MD_may_26 (fun q x ce H h9 => h9.elim) (fun v H v_7 hO => ?_)
      subst v_7
      refine W.eq (g2 := F0 m 29 ls [.int (bI (inB d 0 1000)), .int (bI (!unB nu a)), .ref (ad 140)]) rfl ?_
      refine lv_if_ne (tgt := 36) S.1 S.2.1 d_MD_may_29 (by decide) (fun c_29 => ?_) (fun c_29 => ?_)
      · skip
        have q_29 : (inB d 0 1000) = true := b_1 c_29
        refine lv_iconst (v := 0) S.1 S.2.1 d_MD_may_36 (by decide) ?_
        exact J_37 _ (by simp [bI, bdM, q_18, q_29]) _ _ hO ls (lv_sub hl [0, 1, 2, 3] rfl)
      · skip
        have q_29 : (inB d 0 1000) = false := b_0 c_29
        refine lv_iconst (v := 1) S.1 S.2.1 d_MD_may_32 (by decide) ?_
        refine lv_goto (tgt := 37) S.1 S.2.1 d_MD_may_33 (by decide) ?_
        exact J_37 _ (by simp [bI, bdM, q_18, q_29]) _ _ hO ls (lv_sub hl [0, 1, 2, 3] rfl)
  refine lv_aload_n S.1 S.2.1 d_MD_may_1 rfl (lv_at hl 0 rfl) ?_
  refine lv_iload_n S.1 S.2.1 d_MD_may_2 rfl (lv_at hl 1 rfl) ?_
  refine g_VP (As := [.int a]) (rest := [.ref (ad 140)]) S hO (k_MD_isUnit l G ad σ τ a nu hmu) cw_MD_91 (by decide) (sh_140 G ad _ _) rfl rfl hl.1 (Nat.le_of_ble_eq_true rfl) ⟨(Nat.le_of_ble_eq_true rfl), (Nat.le_of_ble_eq_true rfl)⟩ ⟨(Nat.le_of_ble_eq_true rfl), (Nat.le_of_ble_eq_true rfl)⟩ d_MD_may_3 (fun q x ce H h9 => h9.elim) (fun v H v_8 hO => ?_)
  subst v_8
  refine W.eq (g2 := F0 m 6 ls [.int (bI (unB nu a)), .ref (ad 140)]) rfl ?_
  refine lv_if_ne (tgt := 13) S.1 S.2.1 d_MD_may_6 (by decide) (fun c_6 => ?_) (fun c_6 => ?_)
  · skip
    have q_6 : (unB nu a) = true := b_1 c_6
    refine lv_iconst (v := 0) S.1 S.2.1 d_MD_may_13 (by decide) ?_
    exact J_14 _ (by simp [bI, q_6]) _ _ hO ls (lv_sub hl [0, 1, 2, 3] rfl)
  · skip
    have q_6 : (unB nu a) = false := b_0 c_6
    refine lv_iconst (v := 1) S.1 S.2.1 d_MD_may_9 (by decide) ?_
    refine lv_goto (tgt := 14) S.1 S.2.1 d_MD_may_10 (by decide) ?_
    exact J_14 _ (by simp [bI, q_6]) _ _ hO ls (lv_sub hl [0, 1, 2, 3] rfl)
set_option maxHeartbeats 4000000 in
set_option maxRecDepth 100000 in
theorem k_MD_put (l : Launch) (G : gP) (ad : Nat → Nat) (σ : Nat → Nat → Int32) (τ : Nat → Nat → Int64) (a b d : Int32) (nu : Nat) (hmu : σ 140 2 = nI nu) (hn4 : nu ≤ 40) (n : Nat) (hmr : σ 140 5 = nI n) (hn24 : n ≤ 24) (ne : Nat) (hme : σ 140 11 = nI ne) (hn2 : ne ≤ 20) (how : HOW σ n) : gim l y_MD_put c_MD_put 6 (some .int) { frames := 4, cells := 0, slots := 0, locals := 105 } G ad σ τ [.ref (ad 140), .int a, .int b, .int d] 0 0 (fun v σ1 τ1 => v = some (.int (mPv σ nu ne n a b d)) ∧ σ1 = mPs σ nu ne n a b d ∧ τ1 = τ) (fun _ => False) := by
  refine gs_of (fun _ h => h) (by decide) (Nat.le_of_ble_eq_true rfl) ?_
  intro p e s m args below meth c ls S hk hr hx hl hO
  have hl : lv_has ls 6 [(0, .ref (ad 140)), (1, .int a), (2, .int b), (3, .int d)] := hl
  have J_23 : ∀ (z : Int32), z = (bI (bdM b d)) → ∀ (H : Heap) (locs : List Loc), gO G (gA G) 159 ad (enc G ad σ τ) s H locs → ∀ ls : Array Slot, lv_has ls 6 [(0, .ref (ad 140)), (1, .int a), (2, .int b), (3, .int d)] → W p l e { frames := 4, cells := 0, slots := 0, locals := 105 } s m args below meth c H locs 0 0 (gM below (gA G) 0 0 (fun v t => ∃ E1, (∃ σ1 τ1, E1 = enc G ad σ1 τ1 ∧ (fun v σ1 τ1 => v = some (.int (mPv σ nu ne n a b d)) ∧ σ1 = mPs σ nu ne n a b d ∧ τ1 = τ) v σ1 τ1) ∧ va_P G.1 gcl (gw 159 ad E1) t.heap) (fun x t => (fun _ => False) x ∧ va_P G.1 gcl (gw 159 ad (enc G ad σ τ)) t.heap) args s) (F0 m 23 ls (.int z :: [])) := by
    intro z ez H locs hO ls hl
    subst ez
    refine lv_istore (lv' := [(4, .int (bI (bdM b d))), (0, .ref (ad 140)), (1, .int a), (2, .int b), (3, .int d)]) S.1 S.2.1 d_MD_put_23 hl (by decide) rfl (fun ls hl => ?_)
    refine lv_aload_n S.1 S.2.1 d_MD_put_25 rfl (lv_at hl 1 rfl) ?_
    have J_39 : ∀ (z : Int32), z = (bI (!unB nu a)) → ∀ (H : Heap) (locs : List Loc), gO G (gA G) 159 ad (enc G ad σ τ) s H locs → ∀ ls : Array Slot, lv_has ls 6 [(4, .int (bI (bdM b d))), (0, .ref (ad 140)), (1, .int a), (2, .int b), (3, .int d)] → W p l e { frames := 4, cells := 0, slots := 0, locals := 105 } s m args below meth c H locs 0 0 (gM below (gA G) 0 0 (fun v t => ∃ E1, (∃ σ1 τ1, E1 = enc G ad σ1 τ1 ∧ (fun v σ1 τ1 => v = some (.int (mPv σ nu ne n a b d)) ∧ σ1 = mPs σ nu ne n a b d ∧ τ1 = τ) v σ1 τ1) ∧ va_P G.1 gcl (gw 159 ad E1) t.heap) (fun x t => (fun _ => False) x ∧ va_P G.1 gcl (gw 159 ad (enc G ad σ τ)) t.heap) args s) (F0 m 39 ls (.int z :: [.ref (ad 140)])) := by
      intro z ez H locs hO ls hl
      subst ez
      refine lv_iload S.1 S.2.1 d_MD_put_39 (lv_at hl 0 rfl) ?_
      have J_64 : ∀ (z : Int32), z = (bI (ptB σ nu a b)) → ∀ (H : Heap) (locs : List Loc), gO G (gA G) 159 ad (enc G ad σ τ) s H locs → ∀ ls : Array Slot, lv_has ls 6 [(4, .int (bI (bdM b d))), (0, .ref (ad 140)), (1, .int a), (2, .int b), (3, .int d)] → W p l e { frames := 4, cells := 0, slots := 0, locals := 105 } s m args below meth c H locs 0 0 (gM below (gA G) 0 0 (fun v t => ∃ E1, (∃ σ1 τ1, E1 = enc G ad σ1 τ1 ∧ (fun v σ1 τ1 => v = some (.int (mPv σ nu ne n a b d)) ∧ σ1 = mPs σ nu ne n a b d ∧ τ1 = τ) v σ1 τ1) ∧ va_P G.1 gcl (gw 159 ad E1) t.heap) (fun x t => (fun _ => False) x ∧ va_P G.1 gcl (gw 159 ad (enc G ad σ τ)) t.heap) args s) (F0 m 64 ls (.int z :: [.int (bI (bdM b d)), .int (bI (!unB nu a)), .ref (ad 140)])) := by
        intro z ez H locs hO ls hl
        subst ez
        refine g_VI (As := [.int (bI (!unB nu a)), .int (bI (bdM b d)), .int (bI (ptB σ nu a b))]) (rest := []) S hO (fun _ h => h) (k_MD_fails l G ad σ τ (!unB nu a) (bdM b d) (ptB σ nu a b)) cw_MD_78 (by decide) (sh_140 G ad _ _) rfl rfl hl.1 (Nat.le_of_ble_eq_true rfl) ⟨(Nat.le_of_ble_eq_true rfl), (Nat.le_of_ble_eq_true rfl)⟩ ⟨(Nat.le_of_ble_eq_true rfl), (Nat.le_of_ble_eq_true rfl)⟩ d_MD_put_64 (fun q x ce H locs h9 => h9.elim) (fun v E1 H locs v_1 hO => ?_)
        obtain ⟨sf, t_2, rfl, rfl, hsf, ht_2⟩ := v_1
        rw [ht_2] at hO
        refine W.eq (g2 := F0 m 67 ls [.int (bI ((!unB nu a) || (bdM b d) || (ptB σ nu a b)))]) rfl ?_
        refine lv_if_eq (tgt := 72) S.1 S.2.1 d_MD_put_67 (by decide) (fun c_67 => ?_) (fun c_67 => ?_)
        · skip
          have q_67 : ((!unB nu a) || (bdM b d) || (ptB σ nu a b)) = false := b_0 c_67
          obtain ⟨u, hu, rfl⟩ := unB_n (by omega) (or3_1 q_67)
          obtain ⟨i, hi, rfl⟩ := inB_n (n := 11) (by decide) (bdM_1 (or3_2 q_67))
          refine lv_aload_n S.1 S.2.1 d_MD_put_72 rfl (lv_at hl 1 rfl) ?_
          refine lv_iload_n S.1 S.2.1 d_MD_put_73 rfl (lv_at hl 2 rfl) ?_
          refine lv_iload_n S.1 S.2.1 d_MD_put_74 rfl (lv_at hl 3 rfl) ?_
          refine lv_iload_n S.1 S.2.1 d_MD_put_75 rfl (lv_at hl 4 rfl) ?_
          refine g_VI (As := [.int (nI u), .int (nI i), .int d]) (rest := []) S hO (fun _ h => h) (k_MD_ask l G ad sf τ u (by omega) i (by omega) d nu (by simp [hsf, up2_at, hmu]) hn4 n (by simp [hsf, up2_at, hmr]) hn24 ne (by simp [hsf, up2_at, hme]) hn2 (by rw [hsf]; exact HOW_e (up2_c (by decide)) (up2_c (by decide)) how)) cw_MD_200 (by decide) (sh_140 G ad _ _) rfl rfl hl.1 (Nat.le_of_ble_eq_true rfl) ⟨(Nat.le_of_ble_eq_true rfl), (Nat.le_of_ble_eq_true rfl)⟩ ⟨(Nat.le_of_ble_eq_true rfl), (Nat.le_of_ble_eq_true rfl)⟩ d_MD_put_76 (fun q x ce H locs h9 => h9.elim) (fun v E1 H locs v_3 hO => ?_)
          obtain ⟨sk, t_4, rfl, rfl, hsk, ht_4⟩ := v_3
          rw [ht_4] at hO
          refine W.eq (g2 := F0 m 79 ls [.int (maV sf nu ne n u i d)]) rfl ?_
          refine lv_topi (fun no eno => ?_)
          refine lv_istore (lv' := [(5, .int no), (4, .int (bI (bdM (nI i) d))), (0, .ref (ad 140)), (1, .int (nI u)), (2, .int (nI i)), (3, .int d)]) S.1 S.2.1 d_MD_put_79 hl (by decide) rfl (fun ls hl => ?_)
          refine lv_aload_n S.1 S.2.1 d_MD_put_81 rfl (lv_at hl 2 rfl) ?_
          refine g_get S hO fl_MD_16 (by decide) (sh_140 G ad _ _) (v := .ref (ad 143)) rfl d_MD_put_82 ?_
          refine lv_iload_n S.1 S.2.1 d_MD_put_85 rfl (lv_at hl 3 rfl) ?_
          have J_101 : ∀ (z : Int32), z = (if no = 0 then nI i else sk 143 u) → ∀ (H : Heap) (locs : List Loc), gO G (gA G) 159 ad (enc G ad sk τ) s H locs → ∀ ls : Array Slot, lv_has ls 6 [(5, .int no), (4, .int (bI (bdM (nI i) d))), (0, .ref (ad 140)), (1, .int (nI u)), (2, .int (nI i)), (3, .int d)] → W p l e { frames := 4, cells := 0, slots := 0, locals := 105 } s m args below meth c H locs 0 0 (gM below (gA G) 0 0 (fun v t => ∃ E1, (∃ σ1 τ1, E1 = enc G ad σ1 τ1 ∧ (fun v σ1 τ1 => v = some (.int (mPv σ nu ne n (nI u) (nI i) d)) ∧ σ1 = mPs σ nu ne n (nI u) (nI i) d ∧ τ1 = τ) v σ1 τ1) ∧ va_P G.1 gcl (gw 159 ad E1) t.heap) (fun x t => (fun _ => False) x ∧ va_P G.1 gcl (gw 159 ad (enc G ad σ τ)) t.heap) args s) (F0 m 101 ls (.int z :: [.int (nI u), .ref (ad 143)])) := by
            intro z ez H locs hO ls hl
            subst ez
            obtain ⟨s_5, hs_5⟩ : ∃ z : Nat → Nat → Int32, z = up2 sk 143 u (if no = 0 then nI i else sk 143 u) := ⟨_, rfl⟩
            refine g_ias S hO (fun _ h => h) (by decide) (sh_143 G ad _ _) (vp_in_nI (show u < 40 by omega) (by decide)) (E2 := enc G ad s_5 τ) (by rw [hs_5, nI_clamp (show u < 2 ^ 31 by omega)]; exact enc_i (sh_143 G ad _ _)) d_MD_put_101 (fun H locs hO => ?_)
            refine lv_iload S.1 S.2.1 d_MD_put_102 (lv_at hl 0 rfl) ?_
            subst hs_5
            subst hsk
            subst hsf
            exact im_i S hk hr hO ⟨by rw [mPv, q_67, nI_clamp (show u < 2 ^ 31 by omega), nI_clamp (show i < 2 ^ 31 by omega)]; exact congrArg some (congrArg Value.int eno), by rw [mPs, q_67, nI_clamp (show u < 2 ^ 31 by omega), nI_clamp (show i < 2 ^ 31 by omega), eno]; rfl, rfl⟩ (Nat.le_of_ble_eq_true rfl) (Nat.le_of_ble_eq_true rfl) d_MD_put_104
          refine lv_iload S.1 S.2.1 d_MD_put_86 (lv_at hl 0 rfl) ?_
          refine lv_if_ne (tgt := 95) S.1 S.2.1 d_MD_put_88 (by decide) (fun c_88 => ?_) (fun c_88 => ?_)
          · skip
            refine lv_aload_n S.1 S.2.1 d_MD_put_95 rfl (lv_at hl 2 rfl) ?_
            refine g_get S hO fl_MD_16 (by decide) (sh_140 G ad _ _) (v := .ref (ad 143)) rfl d_MD_put_96 ?_
            refine lv_iload_n S.1 S.2.1 d_MD_put_99 rfl (lv_at hl 3 rfl) ?_
            refine g_ial S hO (by decide) (sh_143 G ad _ _) (vp_in_nI (show u < 40 by omega) (by decide)) d_MD_put_100 ?_
            refine W.eq (g2 := F0 m 101 ls [.int (sk 143 u), .int (nI u), .ref (ad 143)]) (by rw [nI_clamp (show u < 2 ^ 31 by omega)]) ?_
            exact J_101 _ (by simp [bI, c_88]) _ _ hO ls (lv_sub hl [0, 1, 2, 3, 4, 5] rfl)
          · skip
            refine lv_iload_n S.1 S.2.1 d_MD_put_91 rfl (lv_at hl 4 rfl) ?_
            refine lv_goto (tgt := 101) S.1 S.2.1 d_MD_put_92 (by decide) ?_
            exact J_101 _ (by simp [bI, c_88]) _ _ hO ls (lv_sub hl [0, 1, 2, 3, 4, 5] rfl)
        · skip
          have q_67 : ((!unB nu a) || (bdM b d) || (ptB σ nu a b)) = true := b_1 c_67
          refine lv_iconst (v := 0) S.1 S.2.1 d_MD_put_70 (by decide) ?_
          subst hsf
          exact im_i S hk hr hO ⟨by rw [mPv, if_pos q_67], by rw [mPs, if_pos q_67]; rfl, rfl⟩ (Nat.le_of_ble_eq_true rfl) (Nat.le_of_ble_eq_true rfl) d_MD_put_71
      refine lv_aload_n S.1 S.2.1 d_MD_put_41 rfl (lv_at hl 1 rfl) ?_
      refine lv_iload_n S.1 S.2.1 d_MD_put_42 rfl (lv_at hl 2 rfl) ?_
      refine g_VP (As := [.int a]) (rest := [.int (bI (bdM b d)), .int (bI (!unB nu a)), .ref (ad 140)]) S hO (k_MD_isUnit l G ad σ τ a nu hmu) cw_MD_91 (by decide) (sh_140 G ad _ _) rfl rfl hl.1 (Nat.le_of_ble_eq_true rfl) ⟨(Nat.le_of_ble_eq_true rfl), (Nat.le_of_ble_eq_true rfl)⟩ ⟨(Nat.le_of_ble_eq_true rfl), (Nat.le_of_ble_eq_true rfl)⟩ d_MD_put_43 (fun q x ce H h9 => h9.elim) (fun v H v_6 hO => ?_)
      subst v_6
      refine W.eq (g2 := F0 m 46 ls [.int (bI (unB nu a)), .int (bI (bdM b d)), .int (bI (!unB nu a)), .ref (ad 140)]) rfl ?_
      refine lv_if_eq (tgt := 63) S.1 S.2.1 d_MD_put_46 (by decide) (fun c_46 => ?_) (fun c_46 => ?_)
      · skip
        have q_46 : (unB nu a) = false := b_0 c_46
        refine lv_iconst (v := 0) S.1 S.2.1 d_MD_put_63 (by decide) ?_
        exact J_64 _ (by simp [bI, ptB, q_46]) _ _ hO ls (lv_sub hl [0, 1, 2, 3, 4] rfl)
      · skip
        have q_46 : (unB nu a) = true := b_1 c_46
        obtain ⟨u, hu, rfl⟩ := unB_n (by omega) q_46
        refine lv_aload_n S.1 S.2.1 d_MD_put_49 rfl (lv_at hl 1 rfl) ?_
        refine g_get S hO fl_MD_16 (by decide) (sh_140 G ad _ _) (v := .ref (ad 143)) rfl d_MD_put_50 ?_
        refine lv_iload_n S.1 S.2.1 d_MD_put_53 rfl (lv_at hl 2 rfl) ?_
        refine g_ial S hO (by decide) (sh_143 G ad _ _) (vp_in_nI (show u < 40 by omega) (by decide)) d_MD_put_54 ?_
        refine W.eq (g2 := F0 m 55 ls [.int (σ 143 u), .int (bI (bdM b d)), .int (bI (!unB nu (nI u))), .ref (ad 140)]) (by rw [nI_clamp (show u < 2 ^ 31 by omega)]) ?_
        refine lv_iload_n S.1 S.2.1 d_MD_put_55 rfl (lv_at hl 3 rfl) ?_
        refine lv_icmp_ne (tgt := 63) S.1 S.2.1 d_MD_put_56 (by decide) (fun c_56 => ?_) (fun c_56 => ?_)
        · skip
          refine lv_iconst (v := 0) S.1 S.2.1 d_MD_put_63 (by decide) ?_
          exact J_64 _ (by simp [bI, ptB, q_46, nI_clamp (show u < 2 ^ 31 by omega), c_56]) _ _ hO ls (lv_sub hl [0, 1, 2, 3, 4] rfl)
        · skip
          refine lv_iconst (v := 1) S.1 S.2.1 d_MD_put_59 (by decide) ?_
          refine lv_goto (tgt := 64) S.1 S.2.1 d_MD_put_60 (by decide) ?_
          exact J_64 _ (by simp [bI, ptB, q_46, nI_clamp (show u < 2 ^ 31 by omega), c_56]) _ _ hO ls (lv_sub hl [0, 1, 2, 3, 4] rfl)
    refine lv_aload_n S.1 S.2.1 d_MD_put_26 rfl (lv_at hl 1 rfl) ?_
    refine lv_iload_n S.1 S.2.1 d_MD_put_27 rfl (lv_at hl 2 rfl) ?_
    refine g_VP (As := [.int a]) (rest := [.ref (ad 140)]) S hO (k_MD_isUnit l G ad σ τ a nu hmu) cw_MD_91 (by decide) (sh_140 G ad _ _) rfl rfl hl.1 (Nat.le_of_ble_eq_true rfl) ⟨(Nat.le_of_ble_eq_true rfl), (Nat.le_of_ble_eq_true rfl)⟩ ⟨(Nat.le_of_ble_eq_true rfl), (Nat.le_of_ble_eq_true rfl)⟩ d_MD_put_28 (fun q x ce H h9 => h9.elim) (fun v H v_7 hO => ?_)
    subst v_7
    refine W.eq (g2 := F0 m 31 ls [.int (bI (unB nu a)), .ref (ad 140)]) rfl ?_
    refine lv_if_ne (tgt := 38) S.1 S.2.1 d_MD_put_31 (by decide) (fun c_31 => ?_) (fun c_31 => ?_)
    · skip
      have q_31 : (unB nu a) = true := b_1 c_31
      refine lv_iconst (v := 0) S.1 S.2.1 d_MD_put_38 (by decide) ?_
      exact J_39 _ (by simp [bI, q_31]) _ _ hO ls (lv_sub hl [0, 1, 2, 3, 4] rfl)
    · skip
      have q_31 : (unB nu a) = false := b_0 c_31
      refine lv_iconst (v := 1) S.1 S.2.1 d_MD_put_34 (by decide) ?_
      refine lv_goto (tgt := 39) S.1 S.2.1 d_MD_put_35 (by decide) ?_
      exact J_39 _ (by simp [bI, q_31]) _ _ hO ls (lv_sub hl [0, 1, 2, 3, 4] rfl)
  refine lv_iload_n S.1 S.2.1 d_MD_put_0 rfl (lv_at hl 2 rfl) ?_
  refine g_SP (As := [.int b]) (rest := []) S hO (k_MD_isPlace l G ad σ τ b) cw_MD_71 g_cfC hl.1 (Nat.le_of_ble_eq_true rfl) ⟨(Nat.le_of_ble_eq_true rfl), (Nat.le_of_ble_eq_true rfl)⟩ ⟨(Nat.le_of_ble_eq_true rfl), (Nat.le_of_ble_eq_true rfl)⟩ d_MD_put_1 (fun q x ce H h9 => h9.elim) (fun v H v_8 hO => ?_)
  subst v_8
  refine W.eq (g2 := F0 m 4 ls [.int (bI (inB b 0 11))]) rfl ?_
  refine lv_if_eq (tgt := 18) S.1 S.2.1 d_MD_put_4 (by decide) (fun c_4 => ?_) (fun c_4 => ?_)
  · skip
    have q_4 : (inB b 0 11) = false := b_0 c_4
    refine lv_iconst (v := 1) S.1 S.2.1 d_MD_put_18 (by decide) ?_
    refine lv_goto (tgt := 23) S.1 S.2.1 d_MD_put_19 (by decide) ?_
    exact J_23 _ (by simp [bI, bdM, q_4]) _ _ hO ls (lv_sub hl [0, 1, 2, 3] rfl)
  · skip
    have q_4 : (inB b 0 11) = true := b_1 c_4
    refine lv_iload_n S.1 S.2.1 d_MD_put_7 rfl (lv_at hl 3 rfl) ?_
    refine lv_iconst (v := 0) S.1 S.2.1 d_MD_put_8 (by decide) ?_
    refine lv_sipush (v := 1000) S.1 S.2.1 d_MD_put_9 (by decide) ?_
    refine g_SP (As := [.int d, .int 0, .int 1000]) (rest := []) S hO (k_MD_in l G ad σ τ d 0 1000) cw_MD_67 g_cfC hl.1 (Nat.le_of_ble_eq_true rfl) ⟨(Nat.le_of_ble_eq_true rfl), (Nat.le_of_ble_eq_true rfl)⟩ ⟨(Nat.le_of_ble_eq_true rfl), (Nat.le_of_ble_eq_true rfl)⟩ d_MD_put_12 (fun q x ce H h9 => h9.elim) (fun v H v_9 hO => ?_)
    subst v_9
    refine W.eq (g2 := F0 m 15 ls [.int (bI (inB d 0 1000))]) rfl ?_
    refine lv_if_ne (tgt := 22) S.1 S.2.1 d_MD_put_15 (by decide) (fun c_15 => ?_) (fun c_15 => ?_)
    · skip
      have q_15 : (inB d 0 1000) = true := b_1 c_15
      refine lv_iconst (v := 0) S.1 S.2.1 d_MD_put_22 (by decide) ?_
      exact J_23 _ (by simp [bI, bdM, q_4, q_15]) _ _ hO ls (lv_sub hl [0, 1, 2, 3] rfl)
    · skip
      have q_15 : (inB d 0 1000) = false := b_0 c_15
      refine lv_iconst (v := 1) S.1 S.2.1 d_MD_put_18 (by decide) ?_
      refine lv_goto (tgt := 23) S.1 S.2.1 d_MD_put_19 (by decide) ?_
      exact J_23 _ (by simp [bI, bdM, q_4, q_15]) _ _ hO ls (lv_sub hl [0, 1, 2, 3] rfl)
set_option maxHeartbeats 4000000 in
set_option maxRecDepth 100000 in
theorem k_MD_turned (l : Launch) (G : gP) (ad : Nat → Nat) (σ : Nat → Nat → Int32) (τ : Nat → Nat → Int64) (a b : Int32) (nu : Nat) (hmu : σ 140 2 = nI nu) (hn4 : nu ≤ 40) : gim l y_MD_turned c_MD_turned 4 (some .int) { frames := 2, cells := 0, slots := 0, locals := 43 } G ad σ τ [.ref (ad 140), .int a, .int b] 0 0 (fun v σ1 τ1 => v = some (.int (mTv σ nu a b)) ∧ σ1 = mT0 σ nu a b ∧ τ1 = τ) (fun _ => False) := by
  refine gs_of (fun _ h => h) (by decide) (Nat.le_of_ble_eq_true rfl) ?_
  intro p e s m args below meth c ls S hk hr hx hl hO
  have hl : lv_has ls 4 [(0, .ref (ad 140)), (1, .int a), (2, .int b)] := hl
  refine lv_aload_n S.1 S.2.1 d_MD_turned_0 rfl (lv_at hl 0 rfl) ?_
  have J_14 : ∀ (z : Int32), z = (bI (!unB nu a)) → ∀ (H : Heap) (locs : List Loc), gO G (gA G) 159 ad (enc G ad σ τ) s H locs → ∀ ls : Array Slot, lv_has ls 4 [(0, .ref (ad 140)), (1, .int a), (2, .int b)] → W p l e { frames := 2, cells := 0, slots := 0, locals := 43 } s m args below meth c H locs 0 0 (gM below (gA G) 0 0 (fun v t => ∃ E1, (∃ σ1 τ1, E1 = enc G ad σ1 τ1 ∧ (fun v σ1 τ1 => v = some (.int (mTv σ nu a b)) ∧ σ1 = mT0 σ nu a b ∧ τ1 = τ) v σ1 τ1) ∧ va_P G.1 gcl (gw 159 ad E1) t.heap) (fun x t => (fun _ => False) x ∧ va_P G.1 gcl (gw 159 ad (enc G ad σ τ)) t.heap) args s) (F0 m 14 ls (.int z :: [.ref (ad 140)])) := by
    intro z ez H locs hO ls hl
    subst ez
    have J_26 : ∀ (z : Int32), z = (bI (!inB b 0 11)) → ∀ (H : Heap) (locs : List Loc), gO G (gA G) 159 ad (enc G ad σ τ) s H locs → ∀ ls : Array Slot, lv_has ls 4 [(0, .ref (ad 140)), (1, .int a), (2, .int b)] → W p l e { frames := 2, cells := 0, slots := 0, locals := 43 } s m args below meth c H locs 0 0 (gM below (gA G) 0 0 (fun v t => ∃ E1, (∃ σ1 τ1, E1 = enc G ad σ1 τ1 ∧ (fun v σ1 τ1 => v = some (.int (mTv σ nu a b)) ∧ σ1 = mT0 σ nu a b ∧ τ1 = τ) v σ1 τ1) ∧ va_P G.1 gcl (gw 159 ad E1) t.heap) (fun x t => (fun _ => False) x ∧ va_P G.1 gcl (gw 159 ad (enc G ad σ τ)) t.heap) args s) (F0 m 26 ls (.int z :: [.int (bI (!unB nu a)), .ref (ad 140)])) := by
      intro z ez H locs hO ls hl
      subst ez
      refine lv_iconst (v := 0) S.1 S.2.1 d_MD_turned_26 (by decide) ?_
      refine g_VI (As := [.int (bI (!unB nu a)), .int (bI (!inB b 0 11)), .int 0]) (rest := []) S hO (fun _ h => h) (k_MD_fails2 l G ad σ τ (!unB nu a) (!inB b 0 11)) cw_MD_78 (by decide) (sh_140 G ad _ _) rfl rfl hl.1 (Nat.le_of_ble_eq_true rfl) ⟨(Nat.le_of_ble_eq_true rfl), (Nat.le_of_ble_eq_true rfl)⟩ ⟨(Nat.le_of_ble_eq_true rfl), (Nat.le_of_ble_eq_true rfl)⟩ d_MD_turned_27 (fun q x ce H locs h9 => h9.elim) (fun v E1 H locs v_1 hO => ?_)
      obtain ⟨sf, t_2, rfl, rfl, hsf, ht_2⟩ := v_1
      rw [ht_2] at hO
      refine W.eq (g2 := F0 m 30 ls [.int (bI ((!unB nu a) || (!inB b 0 11)))]) rfl ?_
      refine lv_if_eq (tgt := 35) S.1 S.2.1 d_MD_turned_30 (by decide) (fun c_30 => ?_) (fun c_30 => ?_)
      · skip
        have q_30 : ((!unB nu a) || (!inB b 0 11)) = false := b_0 c_30
        obtain ⟨u, hu, rfl⟩ := unB_n (by omega) (or2_1 q_30)
        obtain ⟨i, hi, rfl⟩ := inB_n (n := 11) (by decide) (show inB b 0 11 = true by simpa using or2_2 q_30)
        have eT : mT0 σ nu (nI u) (nI i) = sf := hsf.symm
        refine lv_iconst (v := 0) S.1 S.2.1 d_MD_turned_35 (by decide) ?_
        refine lv_istore_n (lv' := [(3, .int 0), (0, .ref (ad 140)), (1, .int (nI u)), (2, .int (nI i))]) S.1 S.2.1 d_MD_turned_36 rfl hl (by decide) rfl (fun ls hl => ?_)
        have K_37 : ∀ (n9 : Nat) (j : Nat), 6 - j < n9 → (j ≤ 6) → (lpf (mfB sf u i) 6 0 = lpf (mfB sf u i) (6 - j) j) → ∀ (H : Heap) (locs : List Loc), gO G (gA G) 159 ad (enc G ad sf τ) s H locs → ∀ ls : Array Slot, lv_has ls 4 [(3, .int (nI j)), (0, .ref (ad 140)), (1, .int (nI u)), (2, .int (nI i))] → W p l e { frames := 2, cells := 0, slots := 0, locals := 43 } s m args below meth c H locs 0 0 (gM below (gA G) 0 0 (fun v t => ∃ E1, (∃ σ1 τ1, E1 = enc G ad σ1 τ1 ∧ (fun v σ1 τ1 => v = some (.int (mTv σ nu (nI u) (nI i))) ∧ σ1 = mT0 σ nu (nI u) (nI i) ∧ τ1 = τ) v σ1 τ1) ∧ va_P G.1 gcl (gw 159 ad E1) t.heap) (fun x t => (fun _ => False) x ∧ va_P G.1 gcl (gw 159 ad (enc G ad σ τ)) t.heap) args s) (F0 m 37 ls []) := by
          intro n9
          induction n9 with
          | zero =>
            intro j hn9 hj hq H locs hO ls hl
            exact absurd hn9 (Nat.not_lt_zero _)
          | succ n9 ih_37 =>
            intro j hn9 hj hq H locs hO ls hl
            refine lv_iload_n S.1 S.2.1 d_MD_turned_37 rfl (lv_at hl 0 rfl) ?_
            refine lv_bipush (v := 6) S.1 S.2.1 d_MD_turned_38 (by decide) ?_
            refine lv_icmp_ge (tgt := 59) S.1 S.2.1 d_MD_turned_40 (by decide) (fun c_40 => ?_) (fun c_40 => ?_)
            · skip
              have hw : j = 6 := by have h9 := ge_nI (x := 6) (n := 6) rfl rfl (by omega) (by omega) c_40; omega
              refine lv_iload_n S.1 S.2.1 d_MD_turned_59 rfl (lv_at hl 0 rfl) ?_
              refine lv_bipush (v := 6) S.1 S.2.1 d_MD_turned_60 (by decide) ?_
              refine lv_icmp_ge (tgt := 69) S.1 S.2.1 d_MD_turned_62 (by decide) (fun c_62 => ?_) (fun c_62 => ?_)
              · skip
                refine lv_iconst (v := (-1)) S.1 S.2.1 d_MD_turned_69 (by decide) ?_
                subst hsf
                exact im_i S hk hr hO ⟨by rw [mTv, q_30, if_neg (by decide), nI_clamp (show u < 2 ^ 31 by omega), nI_clamp (show i < 2 ^ 31 by omega), eT, hq, hw]; rfl, rfl, rfl⟩ (Nat.le_of_ble_eq_true rfl) (Nat.le_of_ble_eq_true rfl) d_MD_turned_70
              · skip
                exact absurd (ngt_nI (x := 6) (n := 6) rfl rfl (by omega) (by omega) c_62) (by omega)
            · skip
              have hw : j < 6 := ngt_nI (x := 6) (n := 6) rfl rfl (by omega) (by omega) c_40
              have e6 : 6 - j = (6 - (j + 1)) + 1 := by omega
              refine lv_aload_n S.1 S.2.1 d_MD_turned_43 rfl (lv_at hl 1 rfl) ?_
              refine lv_iload_n S.1 S.2.1 d_MD_turned_44 rfl (lv_at hl 2 rfl) ?_
              refine lv_iload_n S.1 S.2.1 d_MD_turned_45 rfl (lv_at hl 3 rfl) ?_
              refine lv_iload_n S.1 S.2.1 d_MD_turned_46 rfl (lv_at hl 0 rfl) ?_
              refine g_VP (As := [.int (nI u), .int (nI i), .int (nI j)]) (rest := []) S hO (k_MD_fits l G ad sf τ u (by omega) i (by omega) (nI j)) cw_MD_162 (by decide) (sh_140 G ad _ _) rfl rfl hl.1 (Nat.le_of_ble_eq_true rfl) ⟨(Nat.le_of_ble_eq_true rfl), (Nat.le_of_ble_eq_true rfl)⟩ ⟨(Nat.le_of_ble_eq_true rfl), (Nat.le_of_ble_eq_true rfl)⟩ d_MD_turned_47 (fun q x ce H h9 => h9.elim) (fun v H v_3 hO => ?_)
              subst v_3
              refine W.eq (g2 := F0 m 50 ls [.int (bI (ftB sf u i (nI j)))]) rfl ?_
              refine lv_if_ne (tgt := 59) S.1 S.2.1 d_MD_turned_50 (by decide) (fun c_50 => ?_) (fun c_50 => ?_)
              · skip
                have q_50 : (ftB sf u i (nI j)) = true := b_1 c_50
                refine lv_iload_n S.1 S.2.1 d_MD_turned_59 rfl (lv_at hl 0 rfl) ?_
                refine lv_bipush (v := 6) S.1 S.2.1 d_MD_turned_60 (by decide) ?_
                refine lv_icmp_ge (tgt := 69) S.1 S.2.1 d_MD_turned_62 (by decide) (fun c_62 => ?_) (fun c_62 => ?_)
                · skip
                  exact absurd (ge_nI (x := 6) (n := 6) rfl rfl (by omega) (by omega) c_62) (by omega)
                · skip
                  refine lv_iload_n S.1 S.2.1 d_MD_turned_65 rfl (lv_at hl 0 rfl) ?_
                  refine lv_goto (tgt := 70) S.1 S.2.1 d_MD_turned_66 (by decide) ?_
                  subst hsf
                  exact im_i S hk hr hO ⟨by rw [mTv, q_30, if_neg (by decide), nI_clamp (show u < 2 ^ 31 by omega), nI_clamp (show i < 2 ^ 31 by omega), eT, hq, e6, lpf_t q_50]; rfl, rfl, rfl⟩ (Nat.le_of_ble_eq_true rfl) (Nat.le_of_ble_eq_true rfl) d_MD_turned_70
              · skip
                have q_50 : (ftB sf u i (nI j)) = false := b_0 c_50
                refine lv_iinc (v := nI (j + 1)) (lv' := [(3, .int (nI (j + 1))), (0, .ref (ad 140)), (1, .int (nI u)), (2, .int (nI i))]) S.1 S.2.1 d_MD_turned_53 hl (k := 0) rfl (nI_1 _) (by decide) rfl (fun ls hl => ?_)
                refine lv_goto (tgt := 37) S.1 S.2.1 d_MD_turned_56 (by decide) ?_
                exact ih_37 (j + 1) (by omega) (by omega) (by rw [hq, e6, lpf_f (by rw [mfB, q_50]; decide)]) _ _ hO ls (lv_sub hl [0, 1, 2, 3] rfl)
        exact K_37 7 0 (by omega) (by omega) rfl _ _ hO ls (lv_sub hl [0, 1, 2, 3] rfl)
      · skip
        have q_30 : ((!unB nu a) || (!inB b 0 11)) = true := b_1 c_30
        refine lv_iconst (v := 0) S.1 S.2.1 d_MD_turned_33 (by decide) ?_
        subst hsf
        exact im_i S hk hr hO ⟨by rw [mTv, if_pos q_30], rfl, rfl⟩ (Nat.le_of_ble_eq_true rfl) (Nat.le_of_ble_eq_true rfl) d_MD_turned_34
    refine lv_iload_n S.1 S.2.1 d_MD_turned_14 rfl (lv_at hl 2 rfl) ?_
    refine g_SP (As := [.int b]) (rest := [.int (bI (!unB nu a)), .ref (ad 140)]) S hO (k_MD_isPlace l G ad σ τ b) cw_MD_71 g_cfC hl.1 (Nat.le_of_ble_eq_true rfl) ⟨(Nat.le_of_ble_eq_true rfl), (Nat.le_of_ble_eq_true rfl)⟩ ⟨(Nat.le_of_ble_eq_true rfl), (Nat.le_of_ble_eq_true rfl)⟩ d_MD_turned_15 (fun q x ce H h9 => h9.elim) (fun v H v_5 hO => ?_)
    subst v_5
    refine W.eq (g2 := F0 m 18 ls [.int (bI (inB b 0 11)), .int (bI (!unB nu a)), .ref (ad 140)]) rfl ?_
    refine lv_if_ne (tgt := 25) S.1 S.2.1 d_MD_turned_18 (by decide) (fun c_18 => ?_) (fun c_18 => ?_)
    · skip
      have q_18 : (inB b 0 11) = true := b_1 c_18
      refine lv_iconst (v := 0) S.1 S.2.1 d_MD_turned_25 (by decide) ?_
      exact J_26 _ (by simp [bI, q_18]) _ _ hO ls (lv_sub hl [0, 1, 2] rfl)
    · skip
      have q_18 : (inB b 0 11) = false := b_0 c_18
      refine lv_iconst (v := 1) S.1 S.2.1 d_MD_turned_21 (by decide) ?_
      refine lv_goto (tgt := 26) S.1 S.2.1 d_MD_turned_22 (by decide) ?_
      exact J_26 _ (by simp [bI, q_18]) _ _ hO ls (lv_sub hl [0, 1, 2] rfl)
  refine lv_aload_n S.1 S.2.1 d_MD_turned_1 rfl (lv_at hl 0 rfl) ?_
  refine lv_iload_n S.1 S.2.1 d_MD_turned_2 rfl (lv_at hl 1 rfl) ?_
  refine g_VP (As := [.int a]) (rest := [.ref (ad 140)]) S hO (k_MD_isUnit l G ad σ τ a nu hmu) cw_MD_91 (by decide) (sh_140 G ad _ _) rfl rfl hl.1 (Nat.le_of_ble_eq_true rfl) ⟨(Nat.le_of_ble_eq_true rfl), (Nat.le_of_ble_eq_true rfl)⟩ ⟨(Nat.le_of_ble_eq_true rfl), (Nat.le_of_ble_eq_true rfl)⟩ d_MD_turned_3 (fun q x ce H h9 => h9.elim) (fun v H v_6 hO => ?_)
  subst v_6
  refine W.eq (g2 := F0 m 6 ls [.int (bI (unB nu a)), .ref (ad 140)]) rfl ?_
  refine lv_if_ne (tgt := 13) S.1 S.2.1 d_MD_turned_6 (by decide) (fun c_6 => ?_) (fun c_6 => ?_)
  · skip
    have q_6 : (unB nu a) = true := b_1 c_6
    refine lv_iconst (v := 0) S.1 S.2.1 d_MD_turned_13 (by decide) ?_
    exact J_14 _ (by simp [bI, q_6]) _ _ hO ls (lv_sub hl [0, 1, 2] rfl)
  · skip
    have q_6 : (unB nu a) = false := b_0 c_6
    refine lv_iconst (v := 1) S.1 S.2.1 d_MD_turned_9 (by decide) ?_
    refine lv_goto (tgt := 14) S.1 S.2.1 d_MD_turned_10 (by decide) ?_
    exact J_14 _ (by simp [bI, q_6]) _ _ hO ls (lv_sub hl [0, 1, 2] rfl)
set_option maxHeartbeats 4000000 in
set_option maxRecDepth 100000 in
theorem k_MD_never (l : Launch) (G : gP) (ad : Nat → Nat) (σ : Nat → Nat → Int32) (τ : Nat → Nat → Int64) (a : Int32) (n : Nat) (hmr : σ 140 5 = nI n) (hn24 : n ≤ 24) : gim l y_MD_never c_MD_never 4 (some .int) { frames := 1, cells := 0, slots := 0, locals := 23 } G ad σ τ [.ref (ad 140), .int a] 0 0 (fun v σ1 τ1 => v = some (.int (mNv σ n a)) ∧ σ1 = mN0 σ a ∧ τ1 = τ) (fun _ => False) := by
  refine gs_of (fun _ h => h) (by decide) (Nat.le_of_ble_eq_true rfl) ?_
  intro p e s m args below meth c ls S hk hr hx hl hO
  have hl : lv_has ls 4 [(0, .ref (ad 140)), (1, .int a)] := hl
  refine lv_aload_n S.1 S.2.1 d_MD_never_0 rfl (lv_at hl 0 rfl) ?_
  have J_10 : ∀ (z : Int32), z = (bI (!decide (0 ≤ a))) → ∀ (H : Heap) (locs : List Loc), gO G (gA G) 159 ad (enc G ad σ τ) s H locs → ∀ ls : Array Slot, lv_has ls 4 [(0, .ref (ad 140)), (1, .int a)] → W p l e { frames := 1, cells := 0, slots := 0, locals := 23 } s m args below meth c H locs 0 0 (gM below (gA G) 0 0 (fun v t => ∃ E1, (∃ σ1 τ1, E1 = enc G ad σ1 τ1 ∧ (fun v σ1 τ1 => v = some (.int (mNv σ n a)) ∧ σ1 = mN0 σ a ∧ τ1 = τ) v σ1 τ1) ∧ va_P G.1 gcl (gw 159 ad E1) t.heap) (fun x t => (fun _ => False) x ∧ va_P G.1 gcl (gw 159 ad (enc G ad σ τ)) t.heap) args s) (F0 m 10 ls (.int z :: [.ref (ad 140)])) := by
    intro z ez H locs hO ls hl
    subst ez
    refine lv_iconst (v := 0) S.1 S.2.1 d_MD_never_10 (by decide) ?_
    refine lv_iconst (v := 0) S.1 S.2.1 d_MD_never_11 (by decide) ?_
    refine g_VI (As := [.int (bI (!decide (0 ≤ a))), .int 0, .int 0]) (rest := []) S hO (fun _ h => h) (k_MD_fails1 l G ad σ τ (!decide (0 ≤ a))) cw_MD_78 (by decide) (sh_140 G ad _ _) rfl rfl hl.1 (Nat.le_of_ble_eq_true rfl) ⟨(Nat.le_of_ble_eq_true rfl), (Nat.le_of_ble_eq_true rfl)⟩ ⟨(Nat.le_of_ble_eq_true rfl), (Nat.le_of_ble_eq_true rfl)⟩ d_MD_never_12 (fun q x ce H locs h9 => h9.elim) (fun v E1 H locs v_1 hO => ?_)
    obtain ⟨sf, t_2, rfl, rfl, hsf, ht_2⟩ := v_1
    rw [ht_2] at hO
    refine W.eq (g2 := F0 m 15 ls [.int (bI (!decide (0 ≤ a)))]) rfl ?_
    refine lv_if_eq (tgt := 20) S.1 S.2.1 d_MD_never_15 (by decide) (fun c_15 => ?_) (fun c_15 => ?_)
    · skip
      have q_15 : (!decide (0 ≤ a)) = false := b_0 c_15
      obtain ⟨k, hk2, rfl⟩ := nn_n q_15
      have eN : mN0 σ (nI k) = sf := hsf.symm
      refine lv_iload_n S.1 S.2.1 d_MD_never_20 rfl (lv_at hl 1 rfl) ?_
      refine lv_istore_n (lv' := [(2, .int (nI k)), (0, .ref (ad 140)), (1, .int (nI k))]) S.1 S.2.1 d_MD_never_21 rfl hl (by decide) rfl (fun ls hl => ?_)
      refine lv_iconst (v := 0) S.1 S.2.1 d_MD_never_22 (by decide) ?_
      refine lv_istore_n (lv' := [(3, .int 0), (2, .int (nI k)), (0, .ref (ad 140)), (1, .int (nI k))]) S.1 S.2.1 d_MD_never_23 rfl hl (by decide) rfl (fun ls hl => ?_)
      have K_24 : ∀ (n9 : Nat) (j mm : Nat), n - j < n9 → (j ≤ n) → (nthx (nmB sf) n 0 k = nthx (nmB sf) (n - j) j mm) → (mm < 2 ^ 31) → ∀ (H : Heap) (locs : List Loc), gO G (gA G) 159 ad (enc G ad sf τ) s H locs → ∀ ls : Array Slot, lv_has ls 4 [(3, .int (nI j)), (2, .int (nI mm)), (0, .ref (ad 140)), (1, .int (nI k))] → W p l e { frames := 1, cells := 0, slots := 0, locals := 23 } s m args below meth c H locs 0 0 (gM below (gA G) 0 0 (fun v t => ∃ E1, (∃ σ1 τ1, E1 = enc G ad σ1 τ1 ∧ (fun v σ1 τ1 => v = some (.int (mNv σ n (nI k))) ∧ σ1 = mN0 σ (nI k) ∧ τ1 = τ) v σ1 τ1) ∧ va_P G.1 gcl (gw 159 ad E1) t.heap) (fun x t => (fun _ => False) x ∧ va_P G.1 gcl (gw 159 ad (enc G ad σ τ)) t.heap) args s) (F0 m 24 ls []) := by
        intro n9
        induction n9 with
        | zero =>
          intro j mm hn9 hj hq hmm H locs hO ls hl
          exact absurd hn9 (Nat.not_lt_zero _)
        | succ n9 ih_24 =>
          intro j mm hn9 hj hq hmm H locs hO ls hl
          refine lv_iload_n S.1 S.2.1 d_MD_never_24 rfl (lv_at hl 0 rfl) ?_
          refine lv_aload_n S.1 S.2.1 d_MD_never_25 rfl (lv_at hl 2 rfl) ?_
          refine g_get S hO fl_MD_94 (by decide) (sh_140 G ad _ _) (v := .int (sf 140 5)) rfl d_MD_never_26 ?_
          refine W.eq (g2 := F0 m 29 ls [.int (nI n), .int (nI j)]) (by rw [show sf 140 5 = nI n from (by simp [hsf, up2_at, hmr])]) ?_
          refine lv_icmp_ge (tgt := 56) S.1 S.2.1 d_MD_never_29 (by decide) (fun c_29 => ?_) (fun c_29 => ?_)
          · skip
            have hw : j = n := by have h9 := ge_nI (x := nI n) rfl rfl (by omega) (by omega) c_29; omega
            refine lv_iconst (v := (-1)) S.1 S.2.1 d_MD_never_56 (by decide) ?_
            subst hsf
            exact im_i S hk hr hO ⟨by rw [mNv, q_15, if_neg (by decide), nI_clamp (by omega), eN, hq, hw, Nat.sub_self]; rfl, rfl, rfl⟩ (Nat.le_of_ble_eq_true rfl) (Nat.le_of_ble_eq_true rfl) d_MD_never_57
          · skip
            have hw : j < n := ngt_nI (x := nI n) rfl rfl (by omega) (by omega) c_29
            have e6 : n - j = (n - (j + 1)) + 1 := by omega
            refine lv_aload_n S.1 S.2.1 d_MD_never_32 rfl (lv_at hl 2 rfl) ?_
            refine g_get S hO fl_MD_31 (by decide) (sh_140 G ad _ _) (v := .ref (ad 148)) rfl d_MD_never_33 ?_
            refine lv_iload_n S.1 S.2.1 d_MD_never_36 rfl (lv_at hl 0 rfl) ?_
            refine g_zal S hO (by decide) (sh_148 G ad _ _) (vp_in_nI (show j < 24 by omega) (by decide)) d_MD_never_37 ?_
            refine W.eq (g2 := F0 m 38 ls [.int (sf 148 j)]) (by rw [nI_clamp (show j < 2 ^ 31 by omega)]) ?_
            refine lv_if_ne (tgt := 50) S.1 S.2.1 d_MD_never_38 (by decide) (fun c_38 => ?_) (fun c_38 => ?_)
            · skip
              have nB : ¬ nmB sf j = true := by simpa [nmB] using c_38
              refine lv_iinc (v := nI (j + 1)) (lv' := [(3, .int (nI (j + 1))), (2, .int (nI mm)), (0, .ref (ad 140)), (1, .int (nI k))]) S.1 S.2.1 d_MD_never_50 hl (k := 0) rfl (nI_1 _) (by decide) rfl (fun ls hl => ?_)
              refine lv_goto (tgt := 24) S.1 S.2.1 d_MD_never_53 (by decide) ?_
              exact ih_24 (j + 1) mm (by omega) (by omega) (by rw [hq, e6, nthx_f (by first | exact nB)]) (by omega) _ _ hO ls (lv_sub hl [0, 1, 2, 3] rfl)
            · skip
              have yB : nmB sf j = true := by simpa [nmB] using c_38
              refine lv_iload_n S.1 S.2.1 d_MD_never_41 rfl (lv_at hl 1 rfl) ?_
              refine lv_if_ne (tgt := 47) S.1 S.2.1 d_MD_never_42 (by decide) (fun c_42 => ?_) (fun c_42 => ?_)
              · skip
                have hm0 : mm ≠ 0 := fun z => c_42 (by rw [z]; rfl)
                obtain ⟨m1, rfl⟩ : ∃ m1, mm = m1 + 1 := ⟨mm - 1, by omega⟩
                obtain ⟨x_4, ex_4⟩ : ∃ z : Int32, z = (nI (m1 + 1)) + (-1) := ⟨_, rfl⟩
                refine lv_iinc (v := x_4) (lv' := [(2, .int x_4), (3, .int (nI j)), (0, .ref (ad 140)), (1, .int (nI k))]) S.1 S.2.1 d_MD_never_47 hl (k := 1) rfl (by rw [ex_4]; rfl) (by decide) rfl (fun ls hl => ?_)
                refine lv_iinc (v := nI (j + 1)) (lv' := [(3, .int (nI (j + 1))), (2, .int x_4), (0, .ref (ad 140)), (1, .int (nI k))]) S.1 S.2.1 d_MD_never_50 hl (k := 1) rfl (nI_1 _) (by decide) rfl (fun ls hl => ?_)
                refine lv_goto (tgt := 24) S.1 S.2.1 d_MD_never_53 (by decide) ?_
                obtain rfl : x_4 = nI m1 := by rw [ex_4]; exact pk_m1 m1
                exact ih_24 (j + 1) m1 (by omega) (by omega) (by rw [hq, e6, nthx_s yB]) (by omega) _ _ hO ls (lv_sub hl [0, 1, 2, 3] rfl)
              · skip
                have hm0 : mm = 0 := by
                  rcases Nat.eq_zero_or_pos mm with q9 | q9
                  · exact q9
                  · exact absurd c_42 (nI_ne0 q9 (by omega))
                refine lv_iload_n S.1 S.2.1 d_MD_never_45 rfl (lv_at hl 0 rfl) ?_
                subst hsf
                exact im_i S hk hr hO ⟨by rw [mNv, q_15, if_neg (by decide), nI_clamp (by omega), eN, hq, e6, hm0, nthx_0 yB]; rfl, rfl, rfl⟩ (Nat.le_of_ble_eq_true rfl) (Nat.le_of_ble_eq_true rfl) d_MD_never_46
      exact K_24 (n + 1) 0 k (by omega) (by omega) rfl hk2 _ _ hO ls (lv_sub hl [0, 1, 2, 3] rfl)
    · skip
      have q_15 : (!decide (0 ≤ a)) = true := b_1 c_15
      refine lv_iconst (v := 0) S.1 S.2.1 d_MD_never_18 (by decide) ?_
      subst hsf
      exact im_i S hk hr hO ⟨by rw [mNv, if_pos q_15], rfl, rfl⟩ (Nat.le_of_ble_eq_true rfl) (Nat.le_of_ble_eq_true rfl) d_MD_never_19
  refine lv_iload_n S.1 S.2.1 d_MD_never_1 rfl (lv_at hl 1 rfl) ?_
  refine lv_if_ge (tgt := 9) S.1 S.2.1 d_MD_never_2 (by decide) (fun c_2 => ?_) (fun c_2 => ?_)
  · skip
    refine lv_iconst (v := 0) S.1 S.2.1 d_MD_never_9 (by decide) ?_
    exact J_10 _ (by simp [bI, c_2, Int32.not_lt.mpr c_2]) _ _ hO ls (lv_sub hl [0, 1] rfl)
  · skip
    refine lv_iconst (v := 1) S.1 S.2.1 d_MD_never_5 (by decide) ?_
    refine lv_goto (tgt := 10) S.1 S.2.1 d_MD_never_6 (by decide) ?_
    exact J_10 _ (by simp [bI, c_2, Int32.not_le.mp c_2]) _ _ hO ls (lv_sub hl [0, 1] rfl)
set_option maxHeartbeats 4000000 in
set_option maxRecDepth 100000 in
theorem k_MD_at (l : Launch) (G : gP) (ad : Nat → Nat) (σ : Nat → Nat → Int32) (τ : Nat → Nat → Int64) (a b : Int32) (nu : Nat) (hmu : σ 140 2 = nI nu) (hn4 : nu ≤ 40) : gim l y_MD_at c_MD_at 5 (some .int) { frames := 2, cells := 0, slots := 0, locals := 42 } G ad σ τ [.ref (ad 140), .int a, .int b] 0 0 (fun v σ1 τ1 => v = some (.int (mAv σ nu a b)) ∧ σ1 = mA0 σ a b ∧ τ1 = τ) (fun _ => False) := by
  refine gs_of (fun _ h => h) (by decide) (Nat.le_of_ble_eq_true rfl) ?_
  intro p e s m args below meth c ls S hk hr hx hl hO
  have hl : lv_has ls 5 [(0, .ref (ad 140)), (1, .int a), (2, .int b)] := hl
  refine lv_aload_n S.1 S.2.1 d_MD_at_0 rfl (lv_at hl 0 rfl) ?_
  have J_17 : ∀ (z : Int32), z = (bI (abB a b)) → ∀ (H : Heap) (locs : List Loc), gO G (gA G) 159 ad (enc G ad σ τ) s H locs → ∀ ls : Array Slot, lv_has ls 5 [(0, .ref (ad 140)), (1, .int a), (2, .int b)] → W p l e { frames := 2, cells := 0, slots := 0, locals := 42 } s m args below meth c H locs 0 0 (gM below (gA G) 0 0 (fun v t => ∃ E1, (∃ σ1 τ1, E1 = enc G ad σ1 τ1 ∧ (fun v σ1 τ1 => v = some (.int (mAv σ nu a b)) ∧ σ1 = mA0 σ a b ∧ τ1 = τ) v σ1 τ1) ∧ va_P G.1 gcl (gw 159 ad E1) t.heap) (fun x t => (fun _ => False) x ∧ va_P G.1 gcl (gw 159 ad (enc G ad σ τ)) t.heap) args s) (F0 m 17 ls (.int z :: [.ref (ad 140)])) := by
    intro z ez H locs hO ls hl
    subst ez
    refine lv_iconst (v := 0) S.1 S.2.1 d_MD_at_17 (by decide) ?_
    refine lv_iconst (v := 0) S.1 S.2.1 d_MD_at_18 (by decide) ?_
    refine g_VI (As := [.int (bI (abB a b)), .int 0, .int 0]) (rest := []) S hO (fun _ h => h) (k_MD_fails1 l G ad σ τ (abB a b)) cw_MD_78 (by decide) (sh_140 G ad _ _) rfl rfl hl.1 (Nat.le_of_ble_eq_true rfl) ⟨(Nat.le_of_ble_eq_true rfl), (Nat.le_of_ble_eq_true rfl)⟩ ⟨(Nat.le_of_ble_eq_true rfl), (Nat.le_of_ble_eq_true rfl)⟩ d_MD_at_19 (fun q x ce H locs h9 => h9.elim) (fun v E1 H locs v_1 hO => ?_)
    obtain ⟨sf, t_2, rfl, rfl, hsf, ht_2⟩ := v_1
    rw [ht_2] at hO
    refine W.eq (g2 := F0 m 22 ls [.int (bI (abB a b))]) rfl ?_
    refine lv_if_eq (tgt := 27) S.1 S.2.1 d_MD_at_22 (by decide) (fun c_22 => ?_) (fun c_22 => ?_)
    · skip
      have q_22 : (abB a b) = false := b_0 c_22
      obtain ⟨k, hk2, rfl⟩ := abB_2 q_22
      have eN : mA0 σ a (nI k) = sf := hsf.symm
      refine lv_iload_n S.1 S.2.1 d_MD_at_27 rfl (lv_at hl 2 rfl) ?_
      refine lv_istore_n (lv' := [(3, .int (nI k)), (0, .ref (ad 140)), (1, .int a), (2, .int (nI k))]) S.1 S.2.1 d_MD_at_28 rfl hl (by decide) rfl (fun ls hl => ?_)
      refine lv_iconst (v := 0) S.1 S.2.1 d_MD_at_29 (by decide) ?_
      refine lv_istore (lv' := [(4, .int 0), (3, .int (nI k)), (0, .ref (ad 140)), (1, .int a), (2, .int (nI k))]) S.1 S.2.1 d_MD_at_30 hl (by decide) rfl (fun ls hl => ?_)
      have K_32 : ∀ (n9 : Nat) (j mm : Nat), nu - j < n9 → (j ≤ nu) → (nthx (amB sf a) nu 0 k = nthx (amB sf a) (nu - j) j mm) → (mm < 2 ^ 31) → ∀ (H : Heap) (locs : List Loc), gO G (gA G) 159 ad (enc G ad sf τ) s H locs → ∀ ls : Array Slot, lv_has ls 5 [(4, .int (nI j)), (3, .int (nI mm)), (0, .ref (ad 140)), (1, .int a), (2, .int (nI k))] → W p l e { frames := 2, cells := 0, slots := 0, locals := 42 } s m args below meth c H locs 0 0 (gM below (gA G) 0 0 (fun v t => ∃ E1, (∃ σ1 τ1, E1 = enc G ad σ1 τ1 ∧ (fun v σ1 τ1 => v = some (.int (mAv σ nu a (nI k))) ∧ σ1 = mA0 σ a (nI k) ∧ τ1 = τ) v σ1 τ1) ∧ va_P G.1 gcl (gw 159 ad E1) t.heap) (fun x t => (fun _ => False) x ∧ va_P G.1 gcl (gw 159 ad (enc G ad σ τ)) t.heap) args s) (F0 m 32 ls []) := by
        intro n9
        induction n9 with
        | zero =>
          intro j mm hn9 hj hq hmm H locs hO ls hl
          exact absurd hn9 (Nat.not_lt_zero _)
        | succ n9 ih_32 =>
          intro j mm hn9 hj hq hmm H locs hO ls hl
          refine lv_iload S.1 S.2.1 d_MD_at_32 (lv_at hl 0 rfl) ?_
          refine lv_aload_n S.1 S.2.1 d_MD_at_34 rfl (lv_at hl 2 rfl) ?_
          refine g_get S hO fl_MD_83 (by decide) (sh_140 G ad _ _) (v := .int (sf 140 2)) rfl d_MD_at_35 ?_
          refine W.eq (g2 := F0 m 38 ls [.int (nI nu), .int (nI j)]) (by rw [show sf 140 2 = nI nu from (by simp [hsf, up2_at, hmu])]) ?_
          refine lv_icmp_ge (tgt := 68) S.1 S.2.1 d_MD_at_38 (by decide) (fun c_38 => ?_) (fun c_38 => ?_)
          · skip
            have hw : j = nu := by have h9 := ge_nI (x := nI nu) rfl rfl (by omega) (by omega) c_38; omega
            refine lv_iconst (v := (-1)) S.1 S.2.1 d_MD_at_68 (by decide) ?_
            subst hsf
            exact im_i S hk hr hO ⟨by rw [mAv, q_22, if_neg (by decide), nI_clamp (by omega), eN, hq, hw, Nat.sub_self]; rfl, rfl, rfl⟩ (Nat.le_of_ble_eq_true rfl) (Nat.le_of_ble_eq_true rfl) d_MD_at_69
          · skip
            have hw : j < nu := ngt_nI (x := nI nu) rfl rfl (by omega) (by omega) c_38
            have e6 : nu - j = (nu - (j + 1)) + 1 := by omega
            refine lv_aload_n S.1 S.2.1 d_MD_at_41 rfl (lv_at hl 2 rfl) ?_
            refine g_get S hO fl_MD_16 (by decide) (sh_140 G ad _ _) (v := .ref (ad 143)) rfl d_MD_at_42 ?_
            refine lv_iload S.1 S.2.1 d_MD_at_45 (lv_at hl 0 rfl) ?_
            refine g_ial S hO (by decide) (sh_143 G ad _ _) (vp_in_nI (show j < 40 by omega) (by decide)) d_MD_at_47 ?_
            refine W.eq (g2 := F0 m 48 ls [.int (sf 143 j)]) (by rw [nI_clamp (show j < 2 ^ 31 by omega)]) ?_
            refine lv_iload_n S.1 S.2.1 d_MD_at_48 rfl (lv_at hl 3 rfl) ?_
            refine lv_icmp_ne (tgt := 62) S.1 S.2.1 d_MD_at_49 (by decide) (fun c_49 => ?_) (fun c_49 => ?_)
            · skip
              have nB : ¬ amB sf a j = true := by simpa [amB] using c_49
              refine lv_iinc (v := nI (j + 1)) (lv' := [(4, .int (nI (j + 1))), (3, .int (nI mm)), (0, .ref (ad 140)), (1, .int a), (2, .int (nI k))]) S.1 S.2.1 d_MD_at_62 hl (k := 0) rfl (nI_1 _) (by decide) rfl (fun ls hl => ?_)
              refine lv_goto (tgt := 32) S.1 S.2.1 d_MD_at_65 (by decide) ?_
              exact ih_32 (j + 1) mm (by omega) (by omega) (by rw [hq, e6, nthx_f (by first | exact nB)]) (by omega) _ _ hO ls (lv_sub hl [0, 1, 2, 3, 4] rfl)
            · skip
              have yB : amB sf a j = true := by simpa [amB] using c_49
              refine lv_iload_n S.1 S.2.1 d_MD_at_52 rfl (lv_at hl 1 rfl) ?_
              refine lv_if_ne (tgt := 59) S.1 S.2.1 d_MD_at_53 (by decide) (fun c_53 => ?_) (fun c_53 => ?_)
              · skip
                have hm0 : mm ≠ 0 := fun z => c_53 (by rw [z]; rfl)
                obtain ⟨m1, rfl⟩ : ∃ m1, mm = m1 + 1 := ⟨mm - 1, by omega⟩
                obtain ⟨x_4, ex_4⟩ : ∃ z : Int32, z = (nI (m1 + 1)) + (-1) := ⟨_, rfl⟩
                refine lv_iinc (v := x_4) (lv' := [(3, .int x_4), (4, .int (nI j)), (0, .ref (ad 140)), (1, .int a), (2, .int (nI k))]) S.1 S.2.1 d_MD_at_59 hl (k := 1) rfl (by rw [ex_4]; rfl) (by decide) rfl (fun ls hl => ?_)
                refine lv_iinc (v := nI (j + 1)) (lv' := [(4, .int (nI (j + 1))), (3, .int x_4), (0, .ref (ad 140)), (1, .int a), (2, .int (nI k))]) S.1 S.2.1 d_MD_at_62 hl (k := 1) rfl (nI_1 _) (by decide) rfl (fun ls hl => ?_)
                refine lv_goto (tgt := 32) S.1 S.2.1 d_MD_at_65 (by decide) ?_
                obtain rfl : x_4 = nI m1 := by rw [ex_4]; exact pk_m1 m1
                exact ih_32 (j + 1) m1 (by omega) (by omega) (by rw [hq, e6, nthx_s yB]) (by omega) _ _ hO ls (lv_sub hl [0, 1, 2, 3, 4] rfl)
              · skip
                have hm0 : mm = 0 := by
                  rcases Nat.eq_zero_or_pos mm with q9 | q9
                  · exact q9
                  · exact absurd c_53 (nI_ne0 q9 (by omega))
                refine lv_iload S.1 S.2.1 d_MD_at_56 (lv_at hl 0 rfl) ?_
                subst hsf
                exact im_i S hk hr hO ⟨by rw [mAv, q_22, if_neg (by decide), nI_clamp (by omega), eN, hq, e6, hm0, nthx_0 yB]; rfl, rfl, rfl⟩ (Nat.le_of_ble_eq_true rfl) (Nat.le_of_ble_eq_true rfl) d_MD_at_58
      exact K_32 (nu + 1) 0 k (by omega) (by omega) rfl hk2 _ _ hO ls (lv_sub hl [0, 1, 2, 3, 4] rfl)
    · skip
      have q_22 : (abB a b) = true := b_1 c_22
      refine lv_iconst (v := 0) S.1 S.2.1 d_MD_at_25 (by decide) ?_
      subst hsf
      exact im_i S hk hr hO ⟨by rw [mAv, if_pos q_22], rfl, rfl⟩ (Nat.le_of_ble_eq_true rfl) (Nat.le_of_ble_eq_true rfl) d_MD_at_26
  refine lv_iload_n S.1 S.2.1 d_MD_at_1 rfl (lv_at hl 1 rfl) ?_
  refine g_SP (As := [.int a]) (rest := [.ref (ad 140)]) S hO (k_MD_isPlace l G ad σ τ a) cw_MD_71 g_cfC hl.1 (Nat.le_of_ble_eq_true rfl) ⟨(Nat.le_of_ble_eq_true rfl), (Nat.le_of_ble_eq_true rfl)⟩ ⟨(Nat.le_of_ble_eq_true rfl), (Nat.le_of_ble_eq_true rfl)⟩ d_MD_at_2 (fun q x ce H h9 => h9.elim) (fun v H v_6 hO => ?_)
  subst v_6
  refine W.eq (g2 := F0 m 5 ls [.int (bI (inB a 0 11)), .ref (ad 140)]) rfl ?_
  refine lv_if_eq (tgt := 12) S.1 S.2.1 d_MD_at_5 (by decide) (fun c_5 => ?_) (fun c_5 => ?_)
  · skip
    have q_5 : (inB a 0 11) = false := b_0 c_5
    refine lv_iconst (v := 1) S.1 S.2.1 d_MD_at_12 (by decide) ?_
    refine lv_goto (tgt := 17) S.1 S.2.1 d_MD_at_13 (by decide) ?_
    exact J_17 _ (by simp [bI, abB, q_5]) _ _ hO ls (lv_sub hl [0, 1, 2] rfl)
  · skip
    have q_5 : (inB a 0 11) = true := b_1 c_5
    refine lv_iload_n S.1 S.2.1 d_MD_at_8 rfl (lv_at hl 2 rfl) ?_
    refine lv_if_ge (tgt := 16) S.1 S.2.1 d_MD_at_9 (by decide) (fun c_9 => ?_) (fun c_9 => ?_)
    · skip
      refine lv_iconst (v := 0) S.1 S.2.1 d_MD_at_16 (by decide) ?_
      exact J_17 _ (by simp [bI, abB, q_5, c_9, Int32.not_lt.mpr c_9]) _ _ hO ls (lv_sub hl [0, 1, 2] rfl)
    · skip
      refine lv_iconst (v := 1) S.1 S.2.1 d_MD_at_12 (by decide) ?_
      refine lv_goto (tgt := 17) S.1 S.2.1 d_MD_at_13 (by decide) ?_
      exact J_17 _ (by simp [bI, abB, q_5, c_9, Int32.not_le.mp c_9]) _ _ hO ls (lv_sub hl [0, 1, 2] rfl)
