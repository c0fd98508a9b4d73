/-! The reference finds a kind. Written by wip/tools/m39.py. -/
def NMH (σ : Nat → Nat → Int32) : Prop := ∀ k j, k < 11 → j < 8 → σ 157 (8 * k + j) = if j < gkl.getD k 0 then kbC k j else 0
theorem kb0 {k j : Nat} (hk : k < 11) (hj : j < gkl.getD k 0) : kbC k j ≠ 0 ∧ kbC k j ≠ 32 := by
  have h : ∀ k, k < 11 → ∀ j, j < gkl.getD k 0 → kbC k j ≠ 0 ∧ kbC k j ≠ 32 := by decide +kernel
  exact h k hk j hj
theorem kbi {a b : Nat} (ha : a < 11) (hb : b < 11) (h1 : gkl.getD a 0 = gkl.getD b 0) (h2 : ∀ j, j < gkl.getD a 0 → kbC a j = kbC b j) : a = b := by
  have h : ∀ a, a < 11 → ∀ b, b < 11 → gkl.getD a 0 = gkl.getD b 0 → (∀ j, j < gkl.getD a 0 → kbC a j = kbC b j) → a = b := by decide +kernel
  exact h a ha b hb h1 h2
def whB (T : Nat → Int32) (N p k : Nat) : Bool := decide (shN T N p k = gkl.getD k 0) && decide (p + shN T N p k < N) && decide (T (p + shN T N p k) = 32)
def bsN (T : Nat → Int32) (N p : Nat) : Nat → Nat
  | 0 => 0
  | k + 1 => if bsN T N p k < shN T N p k then shN T N p k else bsN T N p k
theorem bsN_6 {T : Nat → Int32} {N p : Nat} (k : Nat) (hk : k ≤ 11) : bsN T N p k ≤ 6 := by
  induction k with
  | zero => exact Nat.zero_le _
  | succ k ih =>
    have h1 := shN_le (T := T) (N := N) (p := p) (k := k)
    have h2 := (gkl_6 (show k < 11 by omega)).1
    have h3 := ih (by omega)
    unfold bsN
    split <;> omega
theorem bsN_ge {T : Nat → Int32} {N p : Nat} (k j : Nat) (h : j < k) : shN T N p j ≤ bsN T N p k := by
  induction k with
  | zero => omega
  | succ k ih =>
    unfold bsN
    by_cases e : j = k
    · subst e
      split <;> omega
    · have h1 := ih (by omega)
      split <;> omega
theorem shf_m {T : Nat → Int32} {N p k : Nat} (f j : Nat) (h : ∀ i, i < j → p + i < N ∧ T (p + i) = kbC k i) : ∀ i, i < shf T N p k f j → p + i < N ∧ T (p + i) = kbC k i := by
  induction f generalizing j with
  | zero => exact h
  | succ f ih =>
    unfold shf
    split
    · rename_i z
      refine ih (j + 1) (fun i hi => ?_)
      by_cases e : i = j
      · subst e; exact z.2
      · exact h i (by omega)
    · exact h
theorem shN_m {T : Nat → Int32} {N p k i : Nat} (h : i < shN T N p k) : p + i < N ∧ T (p + i) = kbC k i := shf_m 7 0 (fun i hi => absurd hi (Nat.not_lt_zero _)) i h
theorem pkf_b {T : Nat → Int32} {N p : Nat} (k : Nat) (hk : k < 11) : ∃ q, q < k + 1 ∧ pkf T N p 0 (k + 1) = (nI (bsN T N p (k + 1)), q) ∧ shN T N p q = bsN T N p (k + 1) ∧ ∀ j, j < k + 1 → shN T N p j = bsN T N p (k + 1) → shN T N p j = gkl.getD j 0 → shN T N p q = gkl.getD q 0 := by
  have hs : ∀ j, j < 11 → shN T N p j ≤ 6 := fun j hj => Nat.le_trans shN_le (gkl_6 hj).1
  induction k with
  | zero =>
    have h0 := hs 0 (by omega)
    have e : bsN T N p 1 = shN T N p 0 := by
      show (if 0 < shN T N p 0 then shN T N p 0 else 0) = shN T N p 0
      split <;> omega
    refine ⟨0, by omega, ?_, by rw [e], fun j hj _ h => by rw [show j = 0 by omega] at h; exact h⟩
    rw [e]
    show pkS T N p (-1, 0) 0 = _
    rw [pkS, if_pos (Or.inl (Int32.lt_of_lt_of_le (by decide) (nI_pos' (by omega))))]
  | succ k ih =>
    obtain ⟨q, q1, q2, q3, q4⟩ := ih (by omega)
    have hb := bsN_6 (T := T) (N := N) (p := p) (k + 1) (by omega)
    have h1 := hs (k + 1) hk
    have hst : pkf T N p 0 (k + 1 + 1) = pkS T N p (nI (bsN T N p (k + 1)), q) (k + 1) := by rw [← q2]; rfl
    have hbs : bsN T N p (k + 1 + 1) = if bsN T N p (k + 1) < shN T N p (k + 1) then shN T N p (k + 1) else bsN T N p (k + 1) := rfl
    by_cases hlt : bsN T N p (k + 1) < shN T N p (k + 1)
    · rw [if_pos hlt] at hbs
      refine ⟨k + 1, by omega, ?_, by rw [hbs], fun j hj h2 h3 => ?_⟩
      · rw [hst, pkS, if_pos (Or.inl (nI_lt hlt (by omega))), hbs]
      · rw [hbs] at h2
        by_cases e : j = k + 1
        · rw [e] at h3; exact h3
        · have := bsN_ge (T := T) (N := N) (p := p) (k + 1) j (by omega)
          omega
    · rw [if_neg hlt] at hbs
      by_cases hw : shN T N p (k + 1) = bsN T N p (k + 1) ∧ shN T N p (k + 1) = gkl.getD (k + 1) 0
      · refine ⟨k + 1, by omega, ?_, by rw [hbs]; exact hw.1, fun j hj h2 h3 => hw.2⟩
        rw [hst, pkS, if_pos (Or.inr ⟨congrArg nI hw.1, congrArg nI hw.2⟩), hbs, hw.1]
      · have hg := (gkl_6 hk).1
        refine ⟨q, by omega, ?_, by rw [hbs]; exact q3, fun j hj h2 h3 => ?_⟩
        · rw [hst, pkS, if_neg ?_, hbs]
          rintro (z | z)
          · exact hlt ((nI_ltI (by omega) (by omega)).mp z)
          · exact hw ⟨(nI_eq (by omega) (by omega)).mp z.1, (nI_eq (by omega) (by omega)).mp z.2⟩
        · rw [hbs] at h2
          by_cases e : j = k + 1
          · subst e; exact absurd ⟨h2, h3⟩ hw
          · exact q4 j (by omega) h2 h3
/-- a kind and a blank behind it -/
def pkb (T : Nat → Int32) (N p : Nat) : Except Nat (Nat × Nat) := match pkd T N p with
  | .error e => .error e
  | .ok (k, q) => if nxS T N q = 32 then .ok (k, q) else .error q
theorem pkd_q {T : Nat → Int32} {N p m q : Nat} (hm : m ≤ 6) (h : pkf T N p 0 11 = (nI m, q)) (hq : q < 11) : pkd T N p = if m = gkl.getD q 0 then .ok (q, p + m) else .error (p + m) := by
  have hg := (gkl_6 hq).1
  rw [pkd, h]
  show (if nI m = nI (gkl.getD q 0) then Except.ok (q, p + (nI m).toNatClampNeg) else Except.error (p + (nI m).toNatClampNeg)) = _
  rw [nI_clamp (by omega)]
  by_cases e : m = gkl.getD q 0
  · rw [if_pos (congrArg nI e), if_pos e]
  · rw [if_neg (fun z => e ((nI_eq (by omega) (by omega)).mp z)), if_neg e]
theorem pkb_wh {T : Nat → Int32} {N p : Nat} : (lsf (whB T N p) 11 = none → pkb T N p = .error (p + bsN T N p 11)) ∧ ∀ k, lsf (whB T N p) 11 = some k → pkb T N p = .ok (k, p + gkl.getD k 0) := by
  obtain ⟨q, q1, q2, q3, q4⟩ : ∃ q, q < 11 ∧ pkf T N p 0 11 = (nI (bsN T N p 11), q) ∧ shN T N p q = bsN T N p 11 ∧ ∀ j, j < 11 → shN T N p j = bsN T N p 11 → shN T N p j = gkl.getD j 0 → shN T N p q = gkl.getD q 0 := pkf_b 10 (by decide)
  have hm := bsN_6 (T := T) (N := N) (p := p) 11 (Nat.le_refl _)
  have hpk := pkd_q hm q2 q1
  have whm : ∀ k, k < 11 → whB T N p k = true → shN T N p k = bsN T N p 11 := by
    intro k hk hw
    simp only [whB, Bool.and_eq_true, decide_eq_true_eq] at hw
    have h1 := bsN_ge (T := T) (N := N) (p := p) 11 k hk
    rcases Nat.lt_or_ge (shN T N p k) (bsN T N p 11) with z | z
    · exfalso
      rw [← q3] at z
      have h2 := (shN_m z).2
      have h3 := shN_le (T := T) (N := N) (p := p) (k := q)
      rw [hw.2] at h2
      exact (kb0 q1 (by omega)).2 h2.symm
    · omega
  have nos : ∀ n, (∀ k, k < n → whB T N p k = false) ↔ lsf (whB T N p) n = none := by
    intro n
    induction n with
    | zero => exact ⟨fun _ => rfl, fun _ k hk => absurd hk (Nat.not_lt_zero _)⟩
    | succ n ih =>
      rw [lsf]
      constructor
      · intro h
        rw [if_neg (by rw [h n (by omega)]; decide)]
        exact ih.mp (fun k hk => h k (by omega))
      · intro h k hk
        by_cases e : whB T N p n = true
        · rw [if_pos e] at h; cases h
        · rw [if_neg e] at h
          by_cases e2 : k = n
          · subst e2; simpa using e
          · exact ih.mpr h k (by omega)
  constructor
  · intro hn
    have hno := (nos 11).mpr hn
    rw [pkb, hpk]
    by_cases e : bsN T N p 11 = gkl.getD q 0
    · rw [if_pos e]
      show (if nxS T N (p + bsN T N p 11) = 32 then Except.ok (q, p + bsN T N p 11) else Except.error (p + bsN T N p 11)) = _
      rw [if_neg]
      intro z
      have hlt : p + bsN T N p 11 < N := by
        rcases Nat.lt_or_ge (p + bsN T N p 11) N with y | y
        · exact y
        · rw [nxS, if_neg (by omega)] at z; exact absurd z (by decide)
      rw [nxS, if_pos hlt] at z
      have h1 := hno q q1
      have h2 : whB T N p q = true := by
        simp only [whB, Bool.and_eq_true, decide_eq_true_eq, q3]
        exact ⟨⟨e, hlt⟩, z⟩
      rw [h2] at h1; cases h1
    · rw [if_neg e]
  · intro k hk
    obtain ⟨hk11, hw⟩ := lsf_lt _ _ hk
    have h1 := whm k hk11 hw
    simp only [whB, Bool.and_eq_true, decide_eq_true_eq, h1] at hw
    obtain ⟨⟨w1, w2⟩, w3⟩ := hw
    have h2 := q4 k hk11 h1 (h1.trans w1)
    rw [q3] at h2
    have e : q = k := by
      refine kbi q1 hk11 (by omega) (fun j hj => ?_)
      have a1 := (shN_m (T := T) (N := N) (p := p) (k := q) (i := j) (by omega)).2
      have a2 := (shN_m (T := T) (N := N) (p := p) (k := k) (i := j) (by omega)).2
      rw [← a1, a2]
    rw [pkb, hpk, if_pos h2]
    show (if nxS T N (p + bsN T N p 11) = 32 then Except.ok (q, p + bsN T N p 11) else Except.error (p + bsN T N p 11)) = _
    rw [nxS, if_pos w2, if_pos w3, e, w1]
def mkS (σ : Nat → Nat → Int32) (N pp : Nat) : Nat → Nat → Int32 := match lsf (whB (σ 156) N pp) 11 with
  | none => up2 σ 140 25 (nI (pp + bsN (σ 156) N pp 11))
  | some k => up2 σ 140 24 (nI (pp + gkl.getD k 0))
def mkV (σ : Nat → Nat → Int32) (N pp : Nat) : Int32 := match lsf (whB (σ 156) N pp) 11 with
  | none => 0
  | some k => nI k
theorem mkS_n {σ : Nat → Nat → Int32} {N pp : Nat} (h : lsf (whB (σ 156) N pp) 11 = none) : mkS σ N pp = up2 σ 140 25 (nI (pp + bsN (σ 156) N pp 11)) ∧ mkV σ N pp = 0 := by simp only [mkS, mkV, h, and_self]
theorem mkS_s {σ : Nat → Nat → Int32} {N pp k : Nat} (h : lsf (whB (σ 156) N pp) 11 = some k) : mkS σ N pp = up2 σ 140 24 (nI (pp + gkl.getD k 0)) ∧ mkV σ N pp = nI k := by simp only [mkS, mkV, h, and_self]
set_option maxHeartbeats 4000000 in
set_option maxRecDepth 100000 in
theorem k_MD_match (l : Launch) (G : gP) (ad : Nat → Nat) (σ : Nat → Nat → Int32) (τ : Nat → Nat → Int64) (k : Nat) (hk11 : k < 11) (N : Nat) (hN : σ 140 22 = nI N) (hN4 : N ≤ 400) (pp : Nat) (hp2 : pp < 4000) (hNM : NMH σ) : gpu l y_MD_match c_MD_match 4 (some .int) { frames := 0, cells := 0, slots := 0, locals := 0 } G ad σ τ [.ref (ad 140), .int (nI k), .int (nI pp)] 0 0 (fun v => v = some (.int (nI (shN (σ 156) N pp k)))) (fun _ => False) := by
  refine gs_of (fun _ h => h.elim) (by decide) (Nat.le_of_ble_eq_true rfl) ?_
  intro p e s m args below meth c ls S hk hr hx hl hO
  have hl : lv_has ls 4 [(0, .ref (ad 140)), (1, .int (nI k)), (2, .int (nI pp))] := hl
  have hg6 := gkl_6 hk11
  refine lv_iconst (v := 0) S.1 S.2.1 d_MD_match_0 (by decide) ?_
  refine lv_istore_n (lv' := [(3, .int 0), (0, .ref (ad 140)), (1, .int (nI k)), (2, .int (nI pp))]) S.1 S.2.1 d_MD_match_1 rfl hl (by decide) rfl (fun ls hl => ?_)
  have K_2 : ∀ (n9 : Nat) (j : Nat), 7 - j < n9 → (j ≤ gkl.getD k 0) → (shf (σ 156) N pp k 7 0 = shf (σ 156) N pp k (7 - j) j) → ∀ (H : Heap) (locs : List Loc), gO G (fun _ => False) 159 ad (enc G ad σ τ) s H locs → ∀ ls : Array Slot, lv_has ls 4 [(3, .int (nI j)), (0, .ref (ad 140)), (1, .int (nI k)), (2, .int (nI pp))] → W p l e { frames := 0, cells := 0, slots := 0, locals := 0 } s m args below meth c H locs 0 0 (gM below (fun _ => False) 0 0 (fun v _ => (fun v => v = some (.int (nI (shN (σ 156) N pp k)))) v) (fun x _ => (fun _ => False) x) args s) (F0 m 2 ls []) := by
    intro n9
    induction n9 with
    | zero =>
      intro j hn9 hj6 hq H locs hO ls hl
      exact absurd hn9 (Nat.not_lt_zero _)
    | succ n9 ih_2 =>
      intro j hn9 hj6 hq H locs hO ls hl
      refine lv_iload_n S.1 S.2.1 d_MD_match_2 rfl (lv_at hl 0 rfl) ?_
      refine lv_bipush (v := 8) S.1 S.2.1 d_MD_match_3 (by decide) ?_
      refine lv_icmp_ge (tgt := 60) S.1 S.2.1 d_MD_match_5 (by decide) (fun c_5 => ?_) (fun c_5 => ?_)
      · skip
        exact absurd (ge_nI (x := (8 : Int32)) (n := 8) rfl rfl (by omega) (by omega) c_5) (by omega)
      · skip
        have e7 : 7 - j = (7 - (j + 1)) + 1 := by omega
        refine lv_aload_n S.1 S.2.1 d_MD_match_8 rfl (lv_at hl 1 rfl) ?_
        refine g_get S hO fl_MD_59 (by decide) (sh_140 G ad _ _) (v := .ref (ad 157)) rfl d_MD_match_9 ?_
        refine lv_bipush (v := 8) S.1 S.2.1 d_MD_match_12 (by decide) ?_
        refine lv_iload_n S.1 S.2.1 d_MD_match_14 rfl (lv_at hl 2 rfl) ?_
        refine lv_imul S.1 S.2.1 d_MD_match_15 ?_
        refine W.eq (g2 := F0 m 16 ls [.int (nI (8 * k)), .ref (ad 157)]) (by rw [show (8 : Int32) * (nI k) = nI (8 * k) from pk_mul 8 k]) ?_
        refine lv_iload_n S.1 S.2.1 d_MD_match_16 rfl (lv_at hl 0 rfl) ?_
        refine lv_iadd S.1 S.2.1 d_MD_match_17 ?_
        refine W.eq (g2 := F0 m 18 ls [.int (nI (8 * k + j)), .ref (ad 157)]) (by rw [show (nI (8 * k)) + (nI j) = nI (8 * k + j) from nI_add (8 * k) j]) ?_
        refine g_ial S hO (by decide) (sh_157 G ad _ _) (vp_in_nI (show 8 * k + j < 88 by omega) (by decide)) d_MD_match_18 ?_
        refine W.eq (g2 := F0 m 19 ls [.int (σ 157 (8 * k + j))]) (by rw [nI_clamp (show 8 * k + j < 2 ^ 31 by omega)]) ?_
        refine lv_if_eq (tgt := 60) S.1 S.2.1 d_MD_match_19 (by decide) (fun c_19 => ?_) (fun c_19 => ?_)
        · skip
          have hg : ¬ j < gkl.getD k 0 := fun z => (kb0 hk11 z).1 (by rw [hNM k j hk11 (by omega), if_pos z] at c_19; exact c_19)
          refine lv_iload_n S.1 S.2.1 d_MD_match_60 rfl (lv_at hl 0 rfl) ?_
          exact pu_i S hk hr hO (by rw [shN, hq, e7, shf_f (fun z => by omega)]) (Nat.le_of_ble_eq_true rfl) (Nat.le_of_ble_eq_true rfl) d_MD_match_61
        · skip
          have hg : j < gkl.getD k 0 := by
            by_cases z : j < gkl.getD k 0
            · exact z
            · exact absurd (by rw [hNM k j hk11 (by omega), if_neg z]) c_19
          refine lv_iload_n S.1 S.2.1 d_MD_match_22 rfl (lv_at hl 3 rfl) ?_
          refine lv_iload_n S.1 S.2.1 d_MD_match_23 rfl (lv_at hl 0 rfl) ?_
          refine lv_iadd S.1 S.2.1 d_MD_match_24 ?_
          refine W.eq (g2 := F0 m 25 ls [.int (nI (pp + j))]) (by rw [show (nI pp) + (nI j) = nI (pp + j) from nI_add pp j]) ?_
          refine lv_aload_n S.1 S.2.1 d_MD_match_25 rfl (lv_at hl 1 rfl) ?_
          refine g_get S hO fl_MD_111 (by decide) (sh_140 G ad _ _) (v := .int (σ 140 22)) rfl d_MD_match_26 ?_
          refine W.eq (g2 := F0 m 29 ls [.int (nI N), .int (nI (pp + j))]) (by rw [show σ 140 22 = nI N from hN]) ?_
          refine lv_icmp_ge (tgt := 60) S.1 S.2.1 d_MD_match_29 (by decide) (fun c_29 => ?_) (fun c_29 => ?_)
          · skip
            have hge : N ≤ pp + j := ge_nI (x := nI N) rfl rfl (by omega) (by omega) c_29
            refine lv_iload_n S.1 S.2.1 d_MD_match_60 rfl (lv_at hl 0 rfl) ?_
            exact pu_i S hk hr hO (by rw [shN, hq, e7, shf_f (fun z => by omega)]) (Nat.le_of_ble_eq_true rfl) (Nat.le_of_ble_eq_true rfl) d_MD_match_61
          · skip
            have hlt : pp + j < N := ngt_nI (x := nI N) rfl rfl (by omega) (by omega) c_29
            refine lv_aload_n S.1 S.2.1 d_MD_match_32 rfl (lv_at hl 1 rfl) ?_
            refine g_get S hO fl_MD_56 (by decide) (sh_140 G ad _ _) (v := .ref (ad 156)) rfl d_MD_match_33 ?_
            refine lv_iload_n S.1 S.2.1 d_MD_match_36 rfl (lv_at hl 3 rfl) ?_
            refine lv_iload_n S.1 S.2.1 d_MD_match_37 rfl (lv_at hl 0 rfl) ?_
            refine lv_iadd S.1 S.2.1 d_MD_match_38 ?_
            refine W.eq (g2 := F0 m 39 ls [.int (nI (pp + j)), .ref (ad 156)]) (by rw [show (nI pp) + (nI j) = nI (pp + j) from nI_add pp j]) ?_
            refine g_ial S hO (by decide) (sh_156 G ad _ _) (vp_in_nI (show pp + j < 400 by omega) (by decide)) d_MD_match_39 ?_
            refine W.eq (g2 := F0 m 40 ls [.int (σ 156 (pp + j))]) (by rw [nI_clamp (show pp + j < 2 ^ 31 by omega)]) ?_
            refine lv_aload_n S.1 S.2.1 d_MD_match_40 rfl (lv_at hl 1 rfl) ?_
            refine g_get S hO fl_MD_59 (by decide) (sh_140 G ad _ _) (v := .ref (ad 157)) rfl d_MD_match_41 ?_
            refine lv_bipush (v := 8) S.1 S.2.1 d_MD_match_44 (by decide) ?_
            refine lv_iload_n S.1 S.2.1 d_MD_match_46 rfl (lv_at hl 2 rfl) ?_
            refine lv_imul S.1 S.2.1 d_MD_match_47 ?_
            refine W.eq (g2 := F0 m 48 ls [.int (nI (8 * k)), .ref (ad 157), .int (σ 156 (pp + j))]) (by rw [show (8 : Int32) * (nI k) = nI (8 * k) from pk_mul 8 k]) ?_
            refine lv_iload_n S.1 S.2.1 d_MD_match_48 rfl (lv_at hl 0 rfl) ?_
            refine lv_iadd S.1 S.2.1 d_MD_match_49 ?_
            refine W.eq (g2 := F0 m 50 ls [.int (nI (8 * k + j)), .ref (ad 157), .int (σ 156 (pp + j))]) (by rw [show (nI (8 * k)) + (nI j) = nI (8 * k + j) from nI_add (8 * k) j]) ?_
            refine g_ial S hO (by decide) (sh_157 G ad _ _) (vp_in_nI (show 8 * k + j < 88 by omega) (by decide)) d_MD_match_50 ?_
            refine W.eq (g2 := F0 m 51 ls [.int (σ 157 (8 * k + j)), .int (σ 156 (pp + j))]) (by rw [nI_clamp (show 8 * k + j < 2 ^ 31 by omega)]) ?_
            refine lv_icmp_ne (tgt := 60) S.1 S.2.1 d_MD_match_51 (by decide) (fun c_51 => ?_) (fun c_51 => ?_)
            · skip
              refine lv_iload_n S.1 S.2.1 d_MD_match_60 rfl (lv_at hl 0 rfl) ?_
              exact pu_i S hk hr hO (by rw [shN, hq, e7, shf_f (fun z => c_51 (by rw [hNM k j hk11 (by omega), if_pos hg]; exact z.2.2))]) (Nat.le_of_ble_eq_true rfl) (Nat.le_of_ble_eq_true rfl) d_MD_match_61
            · skip
              refine lv_iinc (v := nI (j + 1)) (lv' := [(3, .int (nI (j + 1))), (0, .ref (ad 140)), (1, .int (nI k)), (2, .int (nI pp))]) S.1 S.2.1 d_MD_match_54 hl (k := 0) rfl (nI_1 _) (by decide) rfl (fun ls hl => ?_)
              refine lv_goto (tgt := 2) S.1 S.2.1 d_MD_match_57 (by decide) ?_
              exact ih_2 (j + 1) (by omega) (by omega) (by rw [hq, e7, shf_t ⟨hg, hlt, by rw [c_51, hNM k j hk11 (by omega), if_pos hg]⟩]) _ _ hO ls (lv_sub hl [0, 1, 2, 3] rfl)
  exact K_2 8 0 (by omega) (by omega) rfl _ _ hO ls (lv_sub hl [0, 1, 2, 3] rfl)
set_option maxHeartbeats 4000000 in
set_option maxRecDepth 100000 in
theorem k_MD_lengthOf (l : Launch) (G : gP) (ad : Nat → Nat) (σ : Nat → Nat → Int32) (τ : Nat → Nat → Int64) (k : Nat) (hk11 : k < 11) (hNM : NMH σ) : gpu l y_MD_lengthOf c_MD_lengthOf 3 (some .int) { frames := 0, cells := 0, slots := 0, locals := 0 } G ad σ τ [.ref (ad 140), .int (nI k)] 0 0 (fun v => v = some (.int (nI (gkl.getD k 0)))) (fun _ => False) := by
  refine gs_of (fun _ h => h.elim) (by decide) (Nat.le_of_ble_eq_true rfl) ?_
  intro p e s m args below meth c ls S hk hr hx hl hO
  have hl : lv_has ls 3 [(0, .ref (ad 140)), (1, .int (nI k))] := hl
  have hg6 := gkl_6 hk11
  refine lv_iconst (v := 0) S.1 S.2.1 d_MD_lengthOf_0 (by decide) ?_
  refine lv_istore_n (lv' := [(2, .int 0), (0, .ref (ad 140)), (1, .int (nI k))]) S.1 S.2.1 d_MD_lengthOf_1 rfl hl (by decide) rfl (fun ls hl => ?_)
  have K_2 : ∀ (n9 : Nat) (j : Nat), 7 - j < n9 → (j ≤ gkl.getD k 0) → ∀ (H : Heap) (locs : List Loc), gO G (fun _ => False) 159 ad (enc G ad σ τ) s H locs → ∀ ls : Array Slot, lv_has ls 3 [(2, .int (nI j)), (0, .ref (ad 140)), (1, .int (nI k))] → W p l e { frames := 0, cells := 0, slots := 0, locals := 0 } s m args below meth c H locs 0 0 (gM below (fun _ => False) 0 0 (fun v _ => (fun v => v = some (.int (nI (gkl.getD k 0)))) v) (fun x _ => (fun _ => False) x) args s) (F0 m 2 ls []) := by
    intro n9
    induction n9 with
    | zero =>
      intro j hn9 hj6 H locs hO ls hl
      exact absurd hn9 (Nat.not_lt_zero _)
    | succ n9 ih_2 =>
      intro j hn9 hj6 H locs hO ls hl
      refine lv_aload_n S.1 S.2.1 d_MD_lengthOf_2 rfl (lv_at hl 1 rfl) ?_
      refine g_get S hO fl_MD_59 (by decide) (sh_140 G ad _ _) (v := .ref (ad 157)) rfl d_MD_lengthOf_3 ?_
      refine lv_bipush (v := 8) S.1 S.2.1 d_MD_lengthOf_6 (by decide) ?_
      refine lv_iload_n S.1 S.2.1 d_MD_lengthOf_8 rfl (lv_at hl 2 rfl) ?_
      refine lv_imul S.1 S.2.1 d_MD_lengthOf_9 ?_
      refine W.eq (g2 := F0 m 10 ls [.int (nI (8 * k)), .ref (ad 157)]) (by rw [show (8 : Int32) * (nI k) = nI (8 * k) from pk_mul 8 k]) ?_
      refine lv_iload_n S.1 S.2.1 d_MD_lengthOf_10 rfl (lv_at hl 0 rfl) ?_
      refine lv_iadd S.1 S.2.1 d_MD_lengthOf_11 ?_
      refine W.eq (g2 := F0 m 12 ls [.int (nI (8 * k + j)), .ref (ad 157)]) (by rw [show (nI (8 * k)) + (nI j) = nI (8 * k + j) from nI_add (8 * k) j]) ?_
      refine g_ial S hO (by decide) (sh_157 G ad _ _) (vp_in_nI (show 8 * k + j < 88 by omega) (by decide)) d_MD_lengthOf_12 ?_
      refine W.eq (g2 := F0 m 13 ls [.int (σ 157 (8 * k + j))]) (by rw [nI_clamp (show 8 * k + j < 2 ^ 31 by omega)]) ?_
      refine lv_if_eq (tgt := 22) S.1 S.2.1 d_MD_lengthOf_13 (by decide) (fun c_13 => ?_) (fun c_13 => ?_)
      · skip
        have hg : ¬ j < gkl.getD k 0 := fun z => (kb0 hk11 z).1 (by rw [hNM k j hk11 (by omega), if_pos z] at c_13; exact c_13)
        refine lv_iload_n S.1 S.2.1 d_MD_lengthOf_22 rfl (lv_at hl 0 rfl) ?_
        exact pu_i S hk hr hO (by rw [show j = gkl.getD k 0 by omega]) (Nat.le_of_ble_eq_true rfl) (Nat.le_of_ble_eq_true rfl) d_MD_lengthOf_23
      · skip
        have hg : j < gkl.getD k 0 := by
          by_cases z : j < gkl.getD k 0
          · exact z
          · exact absurd (by rw [hNM k j hk11 (by omega), if_neg z]) c_13
        refine lv_iinc (v := nI (j + 1)) (lv' := [(2, .int (nI (j + 1))), (0, .ref (ad 140)), (1, .int (nI k))]) S.1 S.2.1 d_MD_lengthOf_16 hl (k := 0) rfl (nI_1 _) (by decide) rfl (fun ls hl => ?_)
        refine lv_goto (tgt := 2) S.1 S.2.1 d_MD_lengthOf_19 (by decide) ?_
        exact ih_2 (j + 1) (by omega) (by omega) _ _ hO ls (lv_sub hl [0, 1, 2] rfl)
  exact K_2 8 0 (by omega) (by omega) _ _ hO ls (lv_sub hl [0, 1, 2] rfl)
set_option maxHeartbeats 4000000 in
set_option maxRecDepth 100000 in
theorem k_MD_kind (l : Launch) (G : gP) (ad : Nat → Nat) (σ : Nat → Nat → Int32) (τ : Nat → Nat → Int64) (N : Nat) (hN : σ 140 22 = nI N) (hN4 : N ≤ 400) (pp : Nat) (hp : σ 140 24 = nI pp) (hp2 : pp < 2000) (hw : σ 140 25 = (-1)) (hNM : NMH σ) : gim l y_MD_kind c_MD_kind 6 (some .int) { frames := 1, cells := 0, slots := 0, locals := 23 } G ad σ τ [.ref (ad 140)] 0 0 (fun v σ1 τ1 => v = some (.int (mkV σ N pp)) ∧ σ1 = mkS σ N pp ∧ τ1 = τ) (fun _ => False) := by
  refine gs_of (fun _ h => h) (by decide) (Nat.le_of_ble_eq_true rfl) ?_
  intro p e s m args below meth c ls S hk hr hx hl hO
  have hl : lv_has ls 6 [(0, .ref (ad 140))] := hl
  refine lv_iconst (v := 0) S.1 S.2.1 d_MD_kind_0 (by decide) ?_
  refine lv_istore_n (lv' := [(1, .int 0), (0, .ref (ad 140))]) S.1 S.2.1 d_MD_kind_1 rfl hl (by decide) rfl (fun ls hl => ?_)
  refine lv_iconst (v := (-1)) S.1 S.2.1 d_MD_kind_2 (by decide) ?_
  refine lv_istore_n (lv' := [(2, .int (-1)), (1, .int 0), (0, .ref (ad 140))]) S.1 S.2.1 d_MD_kind_3 rfl hl (by decide) rfl (fun ls hl => ?_)
  refine lv_iconst (v := 0) S.1 S.2.1 d_MD_kind_4 (by decide) ?_
  refine lv_istore_n (lv' := [(3, .int 0), (2, .int (-1)), (1, .int 0), (0, .ref (ad 140))]) S.1 S.2.1 d_MD_kind_5 rfl hl (by decide) rfl (fun ls hl => ?_)
  have K_6 : ∀ (n9 : Nat) (k : Nat), 11 - k < n9 → (k ≤ 11) → ∀ (H : Heap) (locs : List Loc), gO G (gA G) 159 ad (enc G ad σ τ) s H locs → ∀ ls : Array Slot, lv_has ls 6 [(3, .int (nI k)), (1, .int (nI (bsN (σ 156) N pp k))), (2, .int (oI (lsf (whB (σ 156) N pp) k))), (0, .ref (ad 140))] → W p l e { frames := 1, cells := 0, slots := 0, locals := 23 } s m args below meth c H locs 0 0 (gM below (gA G) 0 0 (fun v t => ∃ E1, (∃ σ1 τ1, E1 = enc G ad σ1 τ1 ∧ (fun v σ1 τ1 => v = some (.int (mkV σ N pp)) ∧ σ1 = mkS σ N pp ∧ τ1 = τ) v σ1 τ1) ∧ va_P G.1 gcl (gw 159 ad E1) t.heap) (fun x t => (fun _ => False) x ∧ va_P G.1 gcl (gw 159 ad (enc G ad σ τ)) t.heap) args s) (F0 m 6 ls []) := by
    intro n9
    induction n9 with
    | zero =>
      intro k hn9 hk11 H locs hO ls hl
      exact absurd hn9 (Nat.not_lt_zero _)
    | succ n9 ih_6 =>
      intro k hn9 hk11 H locs hO ls hl
      refine lv_iload_n S.1 S.2.1 d_MD_kind_6 rfl (lv_at hl 0 rfl) ?_
      refine lv_bipush (v := 11) S.1 S.2.1 d_MD_kind_7 (by decide) ?_
      refine lv_icmp_ge (tgt := 101) S.1 S.2.1 d_MD_kind_9 (by decide) (fun c_9 => ?_) (fun c_9 => ?_)
      · skip
        have hk9 : k = 11 := by have h9 := ge_nI (x := (11 : Int32)) (n := 11) rfl rfl (by omega) (by omega) c_9; omega
        rw [hk9] at hl
        refine lv_iload_n S.1 S.2.1 d_MD_kind_101 rfl (lv_at hl 2 rfl) ?_
        refine lv_if_ge (tgt := 117) S.1 S.2.1 d_MD_kind_102 (by decide) (fun c_102 => ?_) (fun c_102 => ?_)
        · skip
          obtain ⟨kf, hkf⟩ := oI_nn (Int32.not_lt.mpr c_102)
          have hkf2 := lsf_lt _ _ hkf
          have eF : oI (lsf (whB (σ 156) N pp) 11) = nI kf := by rw [hkf]; rfl
          rw [eF] at hl
          have hgf := (gkl_6 hkf2.1).1
          refine lv_aload_n S.1 S.2.1 d_MD_kind_117 rfl (lv_at hl 3 rfl) ?_
          refine lv_dup S.1 S.2.1 d_MD_kind_118 rfl ?_
          refine g_get S hO fl_MD_114 (by decide) (sh_140 G ad _ _) (v := .int (σ 140 24)) rfl d_MD_kind_119 ?_
          refine W.eq (g2 := F0 m 122 ls [.int (nI pp), .ref (ad 140)]) (by rw [show σ 140 24 = nI pp from hp]) ?_
          refine lv_aload_n S.1 S.2.1 d_MD_kind_122 rfl (lv_at hl 3 rfl) ?_
          refine lv_iload_n S.1 S.2.1 d_MD_kind_123 rfl (lv_at hl 2 rfl) ?_
          refine g_VP (As := [.int (nI kf)]) (rest := [.int (nI pp), .ref (ad 140)]) S hO (k_MD_lengthOf l G ad σ τ kf (by omega) hNM) cw_MD_139 (by decide) (sh_140 G ad _ _) rfl rfl hl.1 (Nat.le_of_ble_eq_true rfl) ⟨(Nat.le_of_ble_eq_true rfl), (Nat.le_of_ble_eq_true rfl)⟩ ⟨(Nat.le_of_ble_eq_true rfl), (Nat.le_of_ble_eq_true rfl)⟩ d_MD_kind_124 (fun q x ce H h9 => h9.elim) (fun v H v_1 hO => ?_)
          subst v_1
          refine W.eq (g2 := F0 m 127 ls [.int (nI (gkl.getD kf 0)), .int (nI pp), .ref (ad 140)]) rfl ?_
          refine lv_iadd S.1 S.2.1 d_MD_kind_127 ?_
          refine W.eq (g2 := F0 m 128 ls [.int (nI (pp + (gkl.getD kf 0))), .ref (ad 140)]) (by rw [show (nI pp) + (nI (gkl.getD kf 0)) = nI (pp + (gkl.getD kf 0)) from nI_add pp (gkl.getD kf 0)]) ?_
          obtain ⟨s_2, hs_2⟩ : ∃ z : Nat → Nat → Int32, z = up2 σ 140 24 (nI (pp + (gkl.getD kf 0))) := ⟨_, rfl⟩
          refine g_put S hO (fun _ h => h) fp_MD_114 (by decide) (sh_140 G ad _ _) (v := .int (nI (pp + (gkl.getD kf 0)))) rfl rfl (Nat.le_of_ble_eq_true rfl) (E2 := enc G ad s_2 τ) (by rw [hs_2]; exact enc_i (sh_140 G ad _ _)) d_MD_kind_128 (fun H locs hO => ?_)
          refine lv_iload_n S.1 S.2.1 d_MD_kind_131 rfl (lv_at hl 2 rfl) ?_
          subst hs_2
          exact im_i S hk hr hO ⟨by rw [(mkS_s hkf).2], (mkS_s hkf).1.symm, rfl⟩ (Nat.le_of_ble_eq_true rfl) (Nat.le_of_ble_eq_true rfl) d_MD_kind_132
        · skip
          have hN0 := oI_ng (fun j h => by have := lsf_lt _ _ h; omega) (Int32.not_le.mp c_102)
          have hb6 := bsN_6 (T := σ 156) (N := N) (p := pp) 11 (by omega)
          refine lv_aload_n S.1 S.2.1 d_MD_kind_105 rfl (lv_at hl 3 rfl) ?_
          refine lv_aload_n S.1 S.2.1 d_MD_kind_106 rfl (lv_at hl 3 rfl) ?_
          refine g_get S hO fl_MD_114 (by decide) (sh_140 G ad _ _) (v := .int (σ 140 24)) rfl d_MD_kind_107 ?_
          refine W.eq (g2 := F0 m 110 ls [.int (nI pp), .ref (ad 140)]) (by rw [show σ 140 24 = nI pp from hp]) ?_
          refine lv_iload_n S.1 S.2.1 d_MD_kind_110 rfl (lv_at hl 1 rfl) ?_
          refine lv_iadd S.1 S.2.1 d_MD_kind_111 ?_
          refine W.eq (g2 := F0 m 112 ls [.int (nI (pp + (bsN (σ 156) N pp 11))), .ref (ad 140)]) (by rw [show (nI pp) + (nI (bsN (σ 156) N pp 11)) = nI (pp + (bsN (σ 156) N pp 11)) from nI_add pp (bsN (σ 156) N pp 11)]) ?_
          refine g_VI (As := [.int (nI (pp + (bsN (σ 156) N pp 11)))]) (rest := []) S hO (fun _ h => h) (k_MD_fault l G ad σ τ (nI (pp + (bsN (σ 156) N pp 11))) hw) cw_MD_124 (by decide) (sh_140 G ad _ _) rfl rfl hl.1 (Nat.le_of_ble_eq_true rfl) ⟨(Nat.le_of_ble_eq_true rfl), (Nat.le_of_ble_eq_true rfl)⟩ ⟨(Nat.le_of_ble_eq_true rfl), (Nat.le_of_ble_eq_true rfl)⟩ d_MD_kind_112 (fun q x ce H locs h9 => h9.elim) (fun v E1 H locs v_3 hO => ?_)
          obtain ⟨s_4, t_5, rfl, rfl, hs_4, ht_5⟩ := v_3
          rw [ht_5] at hO
          refine W.eq (g2 := F0 m 115 ls []) rfl ?_
          refine lv_iconst (v := 0) S.1 S.2.1 d_MD_kind_115 (by decide) ?_
          subst hs_4
          exact im_i S hk hr hO ⟨by rw [(mkS_n hN0).2], (mkS_n hN0).1.symm, rfl⟩ (Nat.le_of_ble_eq_true rfl) (Nat.le_of_ble_eq_true rfl) d_MD_kind_116
      · skip
        have hk1 : k < 11 := ngt_nI (x := (11 : Int32)) (n := 11) rfl rfl (by omega) (by omega) c_9
        have hg6 := gkl_6 hk1
        have hs6 := shN_le (T := σ 156) (N := N) (p := pp) (k := k)
        have hb6 := bsN_6 (T := σ 156) (N := N) (p := pp) k (by omega)
        refine lv_aload_n S.1 S.2.1 d_MD_kind_12 rfl (lv_at hl 3 rfl) ?_
        refine lv_iload_n S.1 S.2.1 d_MD_kind_13 rfl (lv_at hl 0 rfl) ?_
        refine lv_aload_n S.1 S.2.1 d_MD_kind_14 rfl (lv_at hl 3 rfl) ?_
        refine g_get S hO fl_MD_114 (by decide) (sh_140 G ad _ _) (v := .int (σ 140 24)) rfl d_MD_kind_15 ?_
        refine W.eq (g2 := F0 m 18 ls [.int (nI pp), .int (nI k), .ref (ad 140)]) (by rw [show σ 140 24 = nI pp from hp]) ?_
        refine g_VP (As := [.int (nI k), .int (nI pp)]) (rest := []) S hO (k_MD_match l G ad σ τ k (by omega) N hN hN4 pp (by omega) hNM) cw_MD_135 (by decide) (sh_140 G ad _ _) rfl rfl hl.1 (Nat.le_of_ble_eq_true rfl) ⟨(Nat.le_of_ble_eq_true rfl), (Nat.le_of_ble_eq_true rfl)⟩ ⟨(Nat.le_of_ble_eq_true rfl), (Nat.le_of_ble_eq_true rfl)⟩ d_MD_kind_18 (fun q x ce H h9 => h9.elim) (fun v H v_6 hO => ?_)
        subst v_6
        refine W.eq (g2 := F0 m 21 ls [.int (nI (shN (σ 156) N pp k))]) rfl ?_
        refine lv_istore (lv' := [(4, .int (nI (shN (σ 156) N pp k))), (3, .int (nI k)), (1, .int (nI (bsN (σ 156) N pp k))), (2, .int (oI (lsf (whB (σ 156) N pp) k))), (0, .ref (ad 140))]) S.1 S.2.1 d_MD_kind_21 hl (by decide) rfl (fun ls hl => ?_)
        have J_69 : ∀ (z : Int32), z = (bI (whB (σ 156) N pp k)) → ∀ (H : Heap) (locs : List Loc), gO G (gA G) 159 ad (enc G ad σ τ) s H locs → ∀ ls : Array Slot, lv_has ls 6 [(4, .int (nI (shN (σ 156) N pp k))), (3, .int (nI k)), (1, .int (nI (bsN (σ 156) N pp k))), (2, .int (oI (lsf (whB (σ 156) N pp) k))), (0, .ref (ad 140))] → W p l e { frames := 1, cells := 0, slots := 0, locals := 23 } s m args below meth c H locs 0 0 (gM below (gA G) 0 0 (fun v t => ∃ E1, (∃ σ1 τ1, E1 = enc G ad σ1 τ1 ∧ (fun v σ1 τ1 => v = some (.int (mkV σ N pp)) ∧ σ1 = mkS σ N pp ∧ τ1 = τ) v σ1 τ1) ∧ va_P G.1 gcl (gw 159 ad E1) t.heap) (fun x t => (fun _ => False) x ∧ va_P G.1 gcl (gw 159 ad (enc G ad σ τ)) t.heap) args s) (F0 m 69 ls (.int z :: [])) := by
          intro z ez H locs hO ls hl
          subst ez
          refine lv_istore (lv' := [(5, .int (bI (whB (σ 156) N pp k))), (4, .int (nI (shN (σ 156) N pp k))), (3, .int (nI k)), (1, .int (nI (bsN (σ 156) N pp k))), (2, .int (oI (lsf (whB (σ 156) N pp) k))), (0, .ref (ad 140))]) S.1 S.2.1 d_MD_kind_69 hl (by decide) rfl (fun ls hl => ?_)
          have J_81 : ∀ (z : Int32), z = (oI (lsf (whB (σ 156) N pp) (k + 1))) → ∀ (H : Heap) (locs : List Loc), gO G (gA G) 159 ad (enc G ad σ τ) s H locs → ∀ ls : Array Slot, lv_has ls 6 [(5, .int (bI (whB (σ 156) N pp k))), (4, .int (nI (shN (σ 156) N pp k))), (3, .int (nI k)), (1, .int (nI (bsN (σ 156) N pp k))), (2, .int (oI (lsf (whB (σ 156) N pp) k))), (0, .ref (ad 140))] → W p l e { frames := 1, cells := 0, slots := 0, locals := 23 } s m args below meth c H locs 0 0 (gM below (gA G) 0 0 (fun v t => ∃ E1, (∃ σ1 τ1, E1 = enc G ad σ1 τ1 ∧ (fun v σ1 τ1 => v = some (.int (mkV σ N pp)) ∧ σ1 = mkS σ N pp ∧ τ1 = τ) v σ1 τ1) ∧ va_P G.1 gcl (gw 159 ad E1) t.heap) (fun x t => (fun _ => False) x ∧ va_P G.1 gcl (gw 159 ad (enc G ad σ τ)) t.heap) args s) (F0 m 81 ls (.int z :: [])) := by
            intro z ez H locs hO ls hl
            subst ez
            refine lv_istore_n (lv' := [(2, .int (oI (lsf (whB (σ 156) N pp) (k + 1)))), (5, .int (bI (whB (σ 156) N pp k))), (4, .int (nI (shN (σ 156) N pp k))), (3, .int (nI k)), (1, .int (nI (bsN (σ 156) N pp k))), (0, .ref (ad 140))]) S.1 S.2.1 d_MD_kind_81 rfl hl (by decide) rfl (fun ls hl => ?_)
            have J_94 : ∀ (z : Int32), z = (nI (bsN (σ 156) N pp (k + 1))) → ∀ (H : Heap) (locs : List Loc), gO G (gA G) 159 ad (enc G ad σ τ) s H locs → ∀ ls : Array Slot, lv_has ls 6 [(2, .int (oI (lsf (whB (σ 156) N pp) (k + 1)))), (5, .int (bI (whB (σ 156) N pp k))), (4, .int (nI (shN (σ 156) N pp k))), (3, .int (nI k)), (1, .int (nI (bsN (σ 156) N pp k))), (0, .ref (ad 140))] → W p l e { frames := 1, cells := 0, slots := 0, locals := 23 } s m args below meth c H locs 0 0 (gM below (gA G) 0 0 (fun v t => ∃ E1, (∃ σ1 τ1, E1 = enc G ad σ1 τ1 ∧ (fun v σ1 τ1 => v = some (.int (mkV σ N pp)) ∧ σ1 = mkS σ N pp ∧ τ1 = τ) v σ1 τ1) ∧ va_P G.1 gcl (gw 159 ad E1) t.heap) (fun x t => (fun _ => False) x ∧ va_P G.1 gcl (gw 159 ad (enc G ad σ τ)) t.heap) args s) (F0 m 94 ls (.int z :: [])) := by
              intro z ez H locs hO ls hl
              subst ez
              refine lv_istore_n (lv' := [(1, .int (nI (bsN (σ 156) N pp (k + 1)))), (2, .int (oI (lsf (whB (σ 156) N pp) (k + 1)))), (5, .int (bI (whB (σ 156) N pp k))), (4, .int (nI (shN (σ 156) N pp k))), (3, .int (nI k)), (0, .ref (ad 140))]) S.1 S.2.1 d_MD_kind_94 rfl hl (by decide) rfl (fun ls hl => ?_)
              refine lv_iinc (v := nI (k + 1)) (lv' := [(3, .int (nI (k + 1))), (1, .int (nI (bsN (σ 156) N pp (k + 1)))), (2, .int (oI (lsf (whB (σ 156) N pp) (k + 1)))), (5, .int (bI (whB (σ 156) N pp k))), (4, .int (nI (shN (σ 156) N pp k))), (0, .ref (ad 140))]) S.1 S.2.1 d_MD_kind_95 hl (k := 4) rfl (nI_1 _) (by decide) rfl (fun ls hl => ?_)
              refine lv_goto (tgt := 6) S.1 S.2.1 d_MD_kind_98 (by decide) ?_
              exact ih_6 (k + 1) (by omega) (by omega) _ _ hO ls (lv_sub hl [0, 1, 2, 5] rfl)
            refine lv_iload S.1 S.2.1 d_MD_kind_82 (lv_at hl 2 rfl) ?_
            refine lv_iload_n S.1 S.2.1 d_MD_kind_84 rfl (lv_at hl 4 rfl) ?_
            refine lv_icmp_le (tgt := 93) S.1 S.2.1 d_MD_kind_85 (by decide) (fun c_85 => ?_) (fun c_85 => ?_)
            · skip
              refine lv_iload_n S.1 S.2.1 d_MD_kind_93 rfl (lv_at hl 4 rfl) ?_
              exact J_94 _ (by rw [bsN, if_neg (by have h9 := ge_nI (x := nI (shN (σ 156) N pp k)) (n := shN (σ 156) N pp k) (N := bsN (σ 156) N pp k) rfl rfl (by omega) (by omega) c_85; omega)]) _ _ hO ls (lv_sub hl [0, 1, 2, 3, 4, 5] rfl)
            · skip
              refine lv_iload S.1 S.2.1 d_MD_kind_88 (lv_at hl 2 rfl) ?_
              refine lv_goto (tgt := 94) S.1 S.2.1 d_MD_kind_90 (by decide) ?_
              exact J_94 _ (by rw [bsN, if_pos (by have h9 := ngt_nI (x := nI (shN (σ 156) N pp k)) (n := shN (σ 156) N pp k) (N := bsN (σ 156) N pp k) rfl rfl (by omega) (by omega) c_85; omega)]) _ _ hO ls (lv_sub hl [0, 1, 2, 3, 4, 5] rfl)
          refine lv_iload S.1 S.2.1 d_MD_kind_71 (lv_at hl 0 rfl) ?_
          refine lv_if_eq (tgt := 80) S.1 S.2.1 d_MD_kind_73 (by decide) (fun c_73 => ?_) (fun c_73 => ?_)
          · skip
            have q_73 : (whB (σ 156) N pp k) = false := b_0 c_73
            refine lv_iload_n S.1 S.2.1 d_MD_kind_80 rfl (lv_at hl 4 rfl) ?_
            exact J_81 _ (by rw [lsf, if_neg (by rw [q_73]; decide)]) _ _ hO ls (lv_sub hl [0, 1, 2, 3, 4, 5] rfl)
          · skip
            have q_73 : (whB (σ 156) N pp k) = true := b_1 c_73
            refine lv_iload_n S.1 S.2.1 d_MD_kind_76 rfl (lv_at hl 2 rfl) ?_
            refine lv_goto (tgt := 81) S.1 S.2.1 d_MD_kind_77 (by decide) ?_
            exact J_81 _ (by rw [lsf, if_pos q_73]; rfl) _ _ hO ls (lv_sub hl [0, 1, 2, 3, 4, 5] rfl)
        refine lv_iload S.1 S.2.1 d_MD_kind_23 (lv_at hl 0 rfl) ?_
        refine lv_aload_n S.1 S.2.1 d_MD_kind_25 rfl (lv_at hl 4 rfl) ?_
        refine lv_iload_n S.1 S.2.1 d_MD_kind_26 rfl (lv_at hl 1 rfl) ?_
        refine g_VP (As := [.int (nI k)]) (rest := [.int (nI (shN (σ 156) N pp k))]) S hO (k_MD_lengthOf l G ad σ τ k (by omega) hNM) cw_MD_139 (by decide) (sh_140 G ad _ _) rfl rfl hl.1 (Nat.le_of_ble_eq_true rfl) ⟨(Nat.le_of_ble_eq_true rfl), (Nat.le_of_ble_eq_true rfl)⟩ ⟨(Nat.le_of_ble_eq_true rfl), (Nat.le_of_ble_eq_true rfl)⟩ d_MD_kind_27 (fun q x ce H h9 => h9.elim) (fun v H v_8 hO => ?_)
        subst v_8
        refine W.eq (g2 := F0 m 30 ls [.int (nI (gkl.getD k 0)), .int (nI (shN (σ 156) N pp k))]) rfl ?_
        refine lv_icmp_ne (tgt := 68) S.1 S.2.1 d_MD_kind_30 (by decide) (fun c_30 => ?_) (fun c_30 => ?_)
        · skip
          have h30 : ¬ shN (σ 156) N pp k = gkl.getD k 0 := fun z => c_30 (by rw [z])
          refine lv_iconst (v := 0) S.1 S.2.1 d_MD_kind_68 (by decide) ?_
          exact J_69 _ (by rw [whB, decide_eq_false h30]; rfl) _ _ hO ls (lv_sub hl [0, 1, 2, 3, 4] rfl)
        · skip
          have h30b : shN (σ 156) N pp k = gkl.getD k 0 := (nI_eq (by omega) (by omega)).mp c_30
          refine lv_aload_n S.1 S.2.1 d_MD_kind_33 rfl (lv_at hl 4 rfl) ?_
          refine g_get S hO fl_MD_114 (by decide) (sh_140 G ad _ _) (v := .int (σ 140 24)) rfl d_MD_kind_34 ?_
          refine W.eq (g2 := F0 m 37 ls [.int (nI pp)]) (by rw [show σ 140 24 = nI pp from hp]) ?_
          refine lv_iload S.1 S.2.1 d_MD_kind_37 (lv_at hl 0 rfl) ?_
          refine lv_iadd S.1 S.2.1 d_MD_kind_39 ?_
          refine W.eq (g2 := F0 m 40 ls [.int (nI (pp + (shN (σ 156) N pp k)))]) (by rw [show (nI pp) + (nI (shN (σ 156) N pp k)) = nI (pp + (shN (σ 156) N pp k)) from nI_add pp (shN (σ 156) N pp k)]) ?_
          refine lv_aload_n S.1 S.2.1 d_MD_kind_40 rfl (lv_at hl 4 rfl) ?_
          refine g_get S hO fl_MD_111 (by decide) (sh_140 G ad _ _) (v := .int (σ 140 22)) rfl d_MD_kind_41 ?_
          refine W.eq (g2 := F0 m 44 ls [.int (nI N), .int (nI (pp + (shN (σ 156) N pp k)))]) (by rw [show σ 140 22 = nI N from hN]) ?_
          refine lv_icmp_ge (tgt := 68) S.1 S.2.1 d_MD_kind_44 (by decide) (fun c_44 => ?_) (fun c_44 => ?_)
          · skip
            have h44 : ¬ pp + shN (σ 156) N pp k < N := by have h9 := ge_nI (x := nI N) rfl rfl (by omega) (by omega) c_44; omega
            refine lv_iconst (v := 0) S.1 S.2.1 d_MD_kind_68 (by decide) ?_
            exact J_69 _ (by rw [whB, decide_eq_false h44, Bool.and_false]; rfl) _ _ hO ls (lv_sub hl [0, 1, 2, 3, 4] rfl)
          · skip
            have h44 : pp + shN (σ 156) N pp k < N := ngt_nI (x := nI N) rfl rfl (by omega) (by omega) c_44
            refine lv_aload_n S.1 S.2.1 d_MD_kind_47 rfl (lv_at hl 4 rfl) ?_
            refine g_get S hO fl_MD_56 (by decide) (sh_140 G ad _ _) (v := .ref (ad 156)) rfl d_MD_kind_48 ?_
            refine lv_aload_n S.1 S.2.1 d_MD_kind_51 rfl (lv_at hl 4 rfl) ?_
            refine g_get S hO fl_MD_114 (by decide) (sh_140 G ad _ _) (v := .int (σ 140 24)) rfl d_MD_kind_52 ?_
            refine W.eq (g2 := F0 m 55 ls [.int (nI pp), .ref (ad 156)]) (by rw [show σ 140 24 = nI pp from hp]) ?_
            refine lv_iload S.1 S.2.1 d_MD_kind_55 (lv_at hl 0 rfl) ?_
            refine lv_iadd S.1 S.2.1 d_MD_kind_57 ?_
            refine W.eq (g2 := F0 m 58 ls [.int (nI (pp + (shN (σ 156) N pp k))), .ref (ad 156)]) (by rw [show (nI pp) + (nI (shN (σ 156) N pp k)) = nI (pp + (shN (σ 156) N pp k)) from nI_add pp (shN (σ 156) N pp k)]) ?_
            refine g_ial S hO (by decide) (sh_156 G ad _ _) (vp_in_nI (show pp + (shN (σ 156) N pp k) < 400 by omega) (by decide)) d_MD_kind_58 ?_
            refine W.eq (g2 := F0 m 59 ls [.int (σ 156 (pp + (shN (σ 156) N pp k)))]) (by rw [nI_clamp (show pp + (shN (σ 156) N pp k) < 2 ^ 31 by omega)]) ?_
            refine lv_bipush (v := 32) S.1 S.2.1 d_MD_kind_59 (by decide) ?_
            refine lv_icmp_ne (tgt := 68) S.1 S.2.1 d_MD_kind_61 (by decide) (fun c_61 => ?_) (fun c_61 => ?_)
            · skip
              refine lv_iconst (v := 0) S.1 S.2.1 d_MD_kind_68 (by decide) ?_
              exact J_69 _ (by rw [whB, decide_eq_false c_61, Bool.and_false]; rfl) _ _ hO ls (lv_sub hl [0, 1, 2, 3, 4] rfl)
            · skip
              refine lv_iconst (v := 1) S.1 S.2.1 d_MD_kind_64 (by decide) ?_
              refine lv_goto (tgt := 69) S.1 S.2.1 d_MD_kind_65 (by decide) ?_
              exact J_69 _ (by rw [whB, decide_eq_true h30b, decide_eq_true h44, decide_eq_true c_61]; rfl) _ _ hO ls (lv_sub hl [0, 1, 2, 3, 4] rfl)
  exact K_6 12 0 (by omega) (by omega) _ _ hO ls (lv_sub hl [0, 2, 1, 3] rfl)
