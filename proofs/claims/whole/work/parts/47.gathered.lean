/-! What is gathered for a question, in the reference's words. -/
theorem anB_c {b b2 : Nat → Bool} : ∀ n, (∀ j, j < n → b j = b2 j) → anB b n = anB b2 n
  | 0, _ => rfl
  | n + 1, h => by rw [anB, anB, anB_c n (fun j hj => h j (by omega)), h n (by omega)]
abbrev vvN (σ : Nat → Nat → Int32) (w j : Nat) : Nat := (σ 142 (10 * j + w)).toNatClampNeg % 128
theorem inB_v {x M : Int32} {n : Nat} (hM : M.toInt = n) (hn : n < 128) (h : inB x 0 M = true) : x = nI (x.toNatClampNeg % 128) := by
  obtain ⟨q, hq, rfl⟩ := inB_n hM h
  rw [nI_clamp (by omega), Nat.mod_eq_of_lt (by omega)]
theorem rUN.v {σ : Nat → Nat → Int32} {nu j : Nat} (h : rUN σ nu) (hj : j < nu) : σ 142 (10 * j + 0) = nI (vvN σ 0 j) ∧ σ 142 (10 * j + 1) = nI (vvN σ 1 j) ∧ σ 142 (10 * j + 2) = nI (vvN σ 2 j) ∧ σ 142 (10 * j + 7) = nI (vvN σ 7 j) := by
  obtain ⟨h1, h2, h3, h4⟩ := h.2.2.2.2.2.2.1 j hj
  exact ⟨inB_v (n := 99) rfl (by omega) h1, inB_v (n := 99) rfl (by omega) h2, inB_v (n := 7) rfl (by omega) h3, inB_v (n := 7) rfl (by omega) h4⟩
section GAT
variable {σ : Nat → Nat → Int32} {τ : Nat → Nat → Int64} {u i nu : Nat} {d : Int32}
abbrev gv (σ : Nat → Nat → Int32) (τ : Nat → Nat → Int64) (u i : Nat) (d : Int32) (v : Nat) : (Nat → Nat → Int32) × (Nat → Nat → Int64) := gst (va_up σ 62 (qbf σ i u d)) (qbt σ τ u) u (nI i) v
theorem gv_c {k v : Nat} (hk : k ≠ 62) : (gv σ τ u i d v).1 k = σ k := by
  rw [gv, gst_c hk v, va_up, if_neg hk]
theorem gv_lo {j : Nat} (hj : j < 10) : ∀ v, (gv σ τ u i d v).1 62 j = qbf σ i u d j
  | 0 => by
    show va_up σ 62 (qbf σ i u d) 62 j = _
    rw [va_up, if_pos rfl]
  | v + 1 => by
    by_cases h : v ≠ u ∧ (gv σ τ u i d v).1 (80 + v) 10 = nI i
    · rw [gv, gst_t h]
      show va_up (gv σ τ u i d v).1 62 (qaf (gv σ τ u i d v).1 v) 62 j = _
      rw [va_up, if_pos rfl, qaf, qav, if_neg (by omega), if_neg (by omega), if_neg (by omega), if_neg (by omega)]
      exact gv_lo hj v
    · rw [gv, gst_f h]
      exact gv_lo hj v
theorem th_o {v : Nat} (hv : v < 2 ^ 31) (hu : u < 2 ^ 31) {p : Int32} (h : ¬ v = u) : thB σ u p v = decide (σ 143 v = p) := by
  unfold thB
  rw [decide_eq_false (p := nI v = nI u) (by rw [nI_eq hv hu]; exact h), Bool.false_or]
theorem ot_o {v : Nat} (hv : v < 2 ^ 31) (hu : u < 2 ^ 31) {p : Int32} (h : ¬ v = u) : otB σ u p v = decide (σ 143 v = p) := by
  unfold otB
  rw [decide_eq_false (p := nI v = nI u) (by rw [nI_eq hv hu]; exact h)]
  rfl
theorem th_u {p : Int32} : thB σ u p u = true := by
  unfold thB
  rw [decide_eq_true (p := nI u = nI u) rfl]
  rfl
theorem ot_u {p : Int32} : otB σ u p u = false := by
  unfold otB
  rw [decide_eq_true (p := nI u = nI u) rfl]
  rfl
theorem i_sw (a b : Int32) : a + b + 1 = a + 1 + b := by grind
theorem gv_hi (hU : rUN σ nu) (hu : u < nu) : ∀ v, v ≤ nu → (gv σ τ u i d v).1 62 10 = mnI σ u (nI i) v + (if u < v then 0 else 1) ∧ (gv σ τ u i d v).1 62 11 = otI σ u (nI i) v ∧ (gv σ τ u i d v).1 62 12 = spL σ u (nI i) v ∧ (gv σ τ u i d v).1 62 13 = spM σ u (nI i) v ∧ spL σ u (nI i) v ≤ σ 142 (10 * u + 9) ∧ σ 142 (10 * u + 9) ≤ spM σ u (nI i) v := by
  have h40 := hU.2.2.1
  intro v
  induction v with
  | zero =>
    intro _
    have h9 := hU.2.2.2.1 u 9 hu (by omega)
    refine ⟨?_, ?_, ?_, ?_, Int32.le_refl _, Int32.le_refl _⟩
    · show va_up σ 62 (qbf σ i u d) 62 10 = 0 + (if u < 0 then 0 else 1)
      rw [if_neg (by omega)]
      rfl
    · rfl
    · exact h9
    · exact h9
  | succ v ih =>
    intro hv
    obtain ⟨i1, i2, i3, i4, i5, i6⟩ := ih (by omega)
    rw [mnI, otI, spL, spM]
    by_cases hvu : v = u
    · subst hvu
      rw [gv, gst_f (fun h => h.1 rfl), th_u, ot_u]
      rw [if_neg (by omega)] at i1
      refine ⟨?_, ?_, ?_, ?_, ?_, ?_⟩
      · rw [if_pos (by omega)]
        exact i1.trans (Int32.add_zero _).symm
      · exact i2.trans (Int32.add_zero _).symm
      · rw [if_neg (fun h => absurd h.2 (Int32.not_lt.mpr i5))]
        exact i3
      · rw [if_neg (fun h => absurd h.2 (Int32.not_lt.mpr i6))]
        exact i4
      · rw [if_neg (fun h => absurd h.2 (Int32.not_lt.mpr i5))]
        exact i5
      · rw [if_neg (fun h => absurd h.2 (Int32.not_lt.mpr i6))]
        exact i6
    · have e10 : (gv σ τ u i d v).1 (80 + v) 10 = σ 143 v := by
        rw [gv_c (by omega)]
        exact hU.2.2.2.2.1 v (by omega)
      have e6 : (gv σ τ u i d v).1 (80 + v) 6 = σ 142 (10 * v + 6) := by
        rw [gv_c (by omega)]
        exact hU.2.2.2.1 v 6 (by omega) (by omega)
      have e9 : (gv σ τ u i d v).1 (80 + v) 9 = σ 142 (10 * v + 9) := by
        rw [gv_c (by omega)]
        exact hU.2.2.2.1 v 9 (by omega) (by omega)
      have eif : (if u < v + 1 then (0 : Int32) else 1) = if u < v then 0 else 1 := by
        by_cases h : u < v
        · rw [if_pos h, if_pos (by omega)]
        · rw [if_neg h, if_neg (by omega)]
      rw [th_o (by omega) (by omega) hvu, ot_o (by omega) (by omega) hvu, eif]
      by_cases hp : σ 143 v = nI i
      · rw [gv, gst_t ⟨hvu, e10.trans hp⟩, decide_eq_true hp]
        have hq : ∀ j, va_up (gv σ τ u i d v).1 62 (qaf (gv σ τ u i d v).1 v) 62 j = qaf (gv σ τ u i d v).1 v j := fun j => by rw [va_up, if_pos rfl]
        refine ⟨?_, ?_, ?_, ?_, ?_, ?_⟩
        · show va_up (gv σ τ u i d v).1 62 (qaf (gv σ τ u i d v).1 v) 62 10 = _
          rw [hq]
          show (gv σ τ u i d v).1 62 10 + 1 = _
          rw [i1]
          exact i_sw _ _
        · show va_up (gv σ τ u i d v).1 62 (qaf (gv σ τ u i d v).1 v) 62 11 = _
          rw [hq]
          show (gv σ τ u i d v).1 62 11 + (gv σ τ u i d v).1 (80 + v) 6 = _
          rw [i2, e6, if_pos rfl]
        · show va_up (gv σ τ u i d v).1 62 (qaf (gv σ τ u i d v).1 v) 62 12 = _
          rw [hq]
          show (if (gv σ τ u i d v).1 (80 + v) 9 < (gv σ τ u i d v).1 62 12 then (gv σ τ u i d v).1 (80 + v) 9 else (gv σ τ u i d v).1 62 12) = _
          rw [i3, e9]
          simp only [true_and]
        · show va_up (gv σ τ u i d v).1 62 (qaf (gv σ τ u i d v).1 v) 62 13 = _
          rw [hq]
          show (if (gv σ τ u i d v).1 62 13 < (gv σ τ u i d v).1 (80 + v) 9 then (gv σ τ u i d v).1 (80 + v) 9 else (gv σ τ u i d v).1 62 13) = _
          rw [i4, e9]
          simp only [true_and]
        · split
          · rename_i h
            exact Int32.le_trans (Int32.le_of_lt h.2) i5
          · exact i5
        · split
          · rename_i h
            exact Int32.le_trans i6 (Int32.le_of_lt h.2)
          · exact i6
      · rw [gv, gst_f (fun h => hp (e10.symm.trans h.2)), decide_eq_false hp]
        refine ⟨?_, ?_, ?_, ?_, ?_, ?_⟩
        · refine i1.trans ?_
          congr 1
          exact (Int32.add_zero _).symm
        · exact i2.trans (Int32.add_zero _).symm
        · rw [if_neg (by simp)]
          exact i3
        · rw [if_neg (by simp)]
          exact i4
        · rw [if_neg (by simp)]
          exact i5
        · rw [if_neg (by simp)]
          exact i6
theorem vv_lt (w j : Nat) : vvN σ w j < 128 := Nat.mod_lt _ (by decide)
theorem ct_u {p : Int32} {w : Nat} : ctB σ u p w u = true := by
  unfold ctB
  rw [th_u, decide_eq_true (p := σ 142 (10 * u) = σ 142 (10 * u)) rfl, Bool.or_true]
  rfl
theorem ct_0 {p : Int32} {v : Nat} : ctB σ u p 0 v = thB σ u p v := by
  unfold ctB
  rw [decide_eq_false (p := nI 0 = 1) (by decide)]
  simp
theorem ct_2 {p : Int32} {v : Nat} : ctB σ u p 2 v = thB σ u p v := by
  unfold ctB
  rw [decide_eq_false (p := nI 2 = 1) (by decide)]
  simp
theorem ct_1 {p : Int32} {v : Nat} : ctB σ u p 1 v = (thB σ u p v && decide (σ 142 (10 * v) = σ 142 (10 * u))) := by
  unfold ctB
  rw [decide_eq_true (p := nI 1 = 1) (by decide)]
  simp
theorem gv_set (hU : rUN σ nu) (hu : u < nu) : ∀ v, v ≤ nu → ∀ b, b < 128 → smB (gv σ τ u i d v).2 63 b = sx (ctB σ u (nI i) 0) (vvN σ 0) u v b ∧ smB (gv σ τ u i d v).2 64 b = sx (ctB σ u (nI i) 1) (vvN σ 1) u v b ∧ smB (gv σ τ u i d v).2 65 b = sx (ctB σ u (nI i) 2) (vvN σ 2) u v b ∧ smB (gv σ τ u i d v).2 66 b = anB (fun x => otB σ u (nI i) x && decide (vvN σ 7 x = b)) v := by
  have h40 := hU.2.2.1
  have hF : ∀ x, x < nu → σ (80 + x) 0 = nI (vvN σ 0 x) ∧ σ (80 + x) 1 = nI (vvN σ 1 x) ∧ σ (80 + x) 2 = nI (vvN σ 2 x) ∧ σ (80 + x) 7 = nI (vvN σ 7 x) := fun x hx => by
    obtain ⟨v0, v1, v2, v7⟩ := hU.v hx
    exact ⟨(hU.2.2.2.1 x 0 hx (by omega)).trans v0, (hU.2.2.2.1 x 1 hx (by omega)).trans v1, (hU.2.2.2.1 x 2 hx (by omega)).trans v2, (hU.2.2.2.1 x 7 hx (by omega)).trans v7⟩
  intro v
  induction v with
  | zero =>
    intro _ b hb
    obtain ⟨f0, f1, f2, -⟩ := hF u hu
    show smB (qbt σ τ u) 63 b = _ ∧ smB (qbt σ τ u) 64 b = _ ∧ smB (qbt σ τ u) 65 b = _ ∧ smB (qbt σ τ u) 66 b = _
    unfold qbt
    rw [f0, f1, f2]
    simp only [sm_0, sm_add _ _ (vv_lt 0 u) _ _ hb, sm_add _ _ (vv_lt 1 u) _ _ hb, sm_add _ _ (vv_lt 2 u) _ _ hb]
    simp [sx, anB]
  | succ v ih =>
    intro hv b hb
    obtain ⟨i1, i2, i3, i4⟩ := ih (by omega) b hb
    rw [sx, sx, sx, anB]
    by_cases hvu : v = u
    · subst hvu
      rw [gv, gst_f (fun h => h.1 rfl), ot_u]
      refine ⟨?_, ?_, ?_, ?_⟩
      · simpa using i1
      · simpa using i2
      · simpa using i3
      · simpa using i4
    · have e10 : (gv σ τ u i d v).1 (80 + v) 10 = σ 143 v := by
        rw [gv_c (by omega)]
        exact hU.2.2.2.2.1 v (by omega)
      by_cases hp : σ 143 v = nI i
      · rw [gv, gst_t ⟨hvu, e10.trans hp⟩]
        have e5 : (gv σ τ u i d v).1 62 5 = σ (80 + u) 0 := gv_lo (by omega) v
        have g0 : σ (80 + v) 0 = σ 142 (10 * v) := hU.2.2.2.1 v 0 (by omega) (by omega)
        have g1 : σ (80 + u) 0 = σ 142 (10 * u) := hU.2.2.2.1 u 0 hu (by omega)
        obtain ⟨f0, f1, f2, f7⟩ := hF v (by omega)
        show smB (qat (gv σ τ u i d v).1 (gv σ τ u i d v).2 v) 63 b = _ ∧ smB (qat (gv σ τ u i d v).1 (gv σ τ u i d v).2 v) 64 b = _ ∧ smB (qat (gv σ τ u i d v).1 (gv σ τ u i d v).2 v) 65 b = _ ∧ smB (qat (gv σ τ u i d v).1 (gv σ τ u i d v).2 v) 66 b = _
        unfold qat
        rw [e5, gv_c (by omega), ct_0, ct_1, ct_2, th_o (by omega) (by omega) hvu, ot_o (by omega) (by omega) hvu, decide_eq_true hp, ← g0, ← g1, f1, f2, f7]
        by_cases hg : σ (80 + v) 0 = σ (80 + u) 0
        · rw [if_pos hg, decide_eq_true hg, f0]
          simp only [sm_add _ _ (vv_lt 0 v) _ _ hb, sm_add _ _ (vv_lt 1 v) _ _ hb, sm_add _ _ (vv_lt 2 v) _ _ hb, sm_add _ _ (vv_lt 7 v) _ _ hb]
          refine ⟨?_, ?_, ?_, ?_⟩
          · simp [hvu, i1]
          · simp [hvu, i2]
          · simp [hvu, i3]
          · simp [i4, eq_comm]
        · rw [if_neg hg, decide_eq_false hg, f0]
          simp only [sm_add _ _ (vv_lt 0 v) _ _ hb, sm_add _ _ (vv_lt 2 v) _ _ hb, sm_add _ _ (vv_lt 7 v) _ _ hb]
          refine ⟨?_, ?_, ?_, ?_⟩
          · simp [hvu, i1]
          · simp [i2]
          · simp [hvu, i3]
          · simp [i4, eq_comm]
      · rw [gv, gst_f (fun h => hp (e10.symm.trans h.2)), ct_0, ct_1, ct_2, th_o (by omega) (by omega) hvu, ot_o (by omega) (by omega) hvu, decide_eq_false hp]
        refine ⟨?_, ?_, ?_, ?_⟩
        · simpa using i1
        · simpa using i2
        · simpa using i3
        · simpa using i4
theorem cn_i {p : Int32} {w x : Nat} : ∀ m, cnB σ u p w x m = true ↔ (ctB σ u p w x = true ∧ ∀ j, j < m → ¬ (ctB σ u p w j = true ∧ σ 142 (10 * j + w) = σ 142 (10 * x + w)))
  | 0 => by simp [cnB]
  | m + 1 => by
    rw [cnB, Bool.and_eq_true, cn_i m]
    constructor
    · rintro ⟨⟨h1, h2⟩, h3⟩
      refine ⟨h1, fun j hj => ?_⟩
      by_cases hjm : j = m
      · subst hjm
        intro hh
        rw [hh.1, decide_eq_true hh.2] at h3
        exact absurd h3 (by decide)
      · exact h2 j (by omega)
    · rintro ⟨h1, h2⟩
      refine ⟨⟨h1, fun j hj => h2 j (by omega)⟩, ?_⟩
      have := h2 m (by omega)
      cases hc : ctB σ u p w m
      · rfl
      · rw [decide_eq_false (fun hh => this ⟨hc, hh⟩)]
        rfl
theorem uk_n {p : Int32} {w : Nat} (hw : ∀ j, j < nu → σ 142 (10 * j + w) = nI (vvN σ w j)) : ∀ x, x ≤ nu → ukI σ u p w x = nI (ukN (ctB σ u p w) (vvN σ w) x)
  | 0, _ => rfl
  | x + 1, hx => by
    rw [ukI, ukN, uk_n hw x (by omega), nI_a]
    congr 1
    have e : cnB σ u p w x x = true ↔ (ctB σ u p w x = true ∧ ∀ j, j < x → ¬ (ctB σ u p w j = true ∧ vvN σ w j = vvN σ w x)) := by
      rw [cn_i x]
      constructor
      · rintro ⟨h1, h2⟩
        exact ⟨h1, fun j hj hh => h2 j hj ⟨hh.1, by rw [hw j (by omega), hw x (by omega), hh.2]⟩⟩
      · rintro ⟨h1, h2⟩
        refine ⟨h1, fun j hj hh => h2 j hj ⟨hh.1, ?_⟩⟩
        show (σ 142 (10 * j + w)).toNatClampNeg % 128 = (σ 142 (10 * x + w)).toNatClampNeg % 128
        rw [hh.2]
    unfold bI
    by_cases h : cnB σ u p w x x = true
    · rw [if_pos h, if_pos (e.mp h)]
      rfl
    · rw [if_neg h, if_neg (fun hh => h (e.mpr hh))]
      rfl
theorem gv_uk (hU : rUN σ nu) (hu : u < nu) : bcF ((gv σ τ u i d nu).2 63 0) + bcF ((gv σ τ u i d nu).2 63 1) = ukI σ u (nI i) 0 nu ∧ bcF ((gv σ τ u i d nu).2 64 0) + bcF ((gv σ τ u i d nu).2 64 1) = ukI σ u (nI i) 1 nu ∧ bcF ((gv σ τ u i d nu).2 65 0) + bcF ((gv σ τ u i d nu).2 65 1) = ukI σ u (nI i) 2 nu := by
  have hs := gv_set (τ := τ) (i := i) (d := d) hU hu nu (Nat.le_refl _)
  rw [sm_n, sm_n, sm_n]
  refine ⟨?_, ?_, ?_⟩
  · rw [cnt_c (fun b hb => (hs b hb).1), sx_uk (fun j => vv_lt 0 j) ct_u hu, uk_n (fun j hj => (hU.v hj).1) nu (Nat.le_refl _)]
  · rw [cnt_c (fun b hb => (hs b hb).2.1), sx_uk (fun j => vv_lt 1 j) ct_u hu, uk_n (fun j hj => (hU.v hj).2.1) nu (Nat.le_refl _)]
  · rw [cnt_c (fun b hb => (hs b hb).2.2.1), sx_uk (fun j => vv_lt 2 j) ct_u hu, uk_n (fun j hj => (hU.v hj).2.2.1) nu (Nat.le_refl _)]
theorem gv_hz (hU : rUN σ nu) (hu : u < nu) {hz : Nat} (hh : hz < 8) : nsh (gv σ τ u i d nu).2 66 (nI hz) ↔ mtA σ u (nI i) (nI hz) nu = true := by
  rw [nsh_e _ _ (by omega), (gv_set (τ := τ) (i := i) (d := d) hU hu nu (Nat.le_refl _) hz (by omega)).2.2.2, mtA]
  rw [anB_c nu (b2 := mtB σ u (nI i) (nI hz)) (fun j hj => ?_)]
  unfold mtB
  congr 1
  rw [(hU.v hj).2.2.2]
  apply decide_eq_decide.mpr
  rw [nI_eq (by have := vv_lt (σ := σ) 7 j; omega) (by omega)]
end GAT
