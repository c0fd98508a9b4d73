/-! may and put keep the relation and answer alike. Written by wip/tools/m49.py. -/
def FC (s g : Nat → Nat → Int32) : Prop := ∀ k j, ¬ (k = 0 ∧ j = 10) → ¬ (k = 33 ∧ j = 1) → k ≠ 67 → ¬ (9 ≤ k ∧ k < 33 ∧ j = 4) → s k j = g k j
def JJ (σ μ g : Nat → Nat → Int32) (n t : Nat) (s m : Nat → Nat → Int32) : Prop := (∃ z, z ≤ t ∧ s 0 10 = nI z ∧ m 140 20 = nI z ∧ ∀ w, w < z → s 67 w = m 155 w) ∧ s 33 1 = m 140 17 ∧ (∀ r, r < n → s (9 + r) 4 = m 148 r) ∧ (∀ r, n ≤ r → r < 24 → s (9 + r) 4 = σ (9 + r) 4) ∧ FC s g ∧ MFr m μ
def MUS (μ σ : Nat → Nat → Int32) : Prop := (∀ k, 140 < k → μ k = σ k) ∧ ∀ j, j ≠ 0 → μ 140 j = σ 140 j
theorem mrS_c {m : Nat → Nat → Int32} {r q : Nat} (h : q ≠ 140) : mrS m r q = m q := by
  unfold mrS
  split
  · unfold owF
    exact up2_c h
  · rfl
section JJS
variable {σ μ g s m : Nat → Nat → Int32} {n t : Nat}
theorem JJ.r {q z : Nat} (hq : q < n) (hn : n ≤ 24) (h : JJ σ μ g n t s m) (hz : s 0 10 = nI z) (hzt : z ≤ t) (ht : t < 24) : JJ σ μ g n (t + 1) (asr s q z) (up2 (up2 (up2 m 148 q 1) 155 z (nI q)) 140 20 (nI (z + 1))) := by
  obtain ⟨⟨y, y1, y2, y3, y4⟩, j2, j3, j4, j5, j6⟩ := h
  have hy : y = z := (nI_eq (by omega) (by omega)).mp (y2.symm.trans hz)
  subst hy
  have e0 : up2 (up2 s (9 + q) 4 1) 67 y (nI q) 0 10 + 1 = nI (y + 1) := by
    rw [up2_f (by omega), up2_f (by omega), hz, nI_1]
  unfold asr
  rw [e0]
  refine ⟨⟨y + 1, by omega, up2_s, up2_s, fun w hw => ?_⟩, ?_, fun r hr => ?_, fun r h1 h2 => ?_, ?_, ((j6.uc (.inl rfl)).uc (.inr rfl)).u20⟩
  · by_cases hwy : w = y
    · subst hwy
      repeat (first | rw [up2_t (by omega)] | rw [up2_f (by omega)])
    · repeat rw [up2_f (by omega)]
      exact y4 w (by omega)
  · repeat rw [up2_f (by omega)]
    exact j2
  · by_cases hrq : r = q
    · subst hrq
      repeat (first | rw [up2_t (by omega)] | rw [up2_f (by omega)])
    · repeat rw [up2_f (by omega)]
      exact j3 r hr
  · repeat rw [up2_f (by omega)]
    exact j4 r h1 h2
  · intro k j h1 h2 h3 h4
    repeat rw [up2_f (by omega)]
    exact j5 k j h1 h2 h3 h4
theorem isO_k : ∀ k, k < 11 → isO (nI k) = decide (k = 10) := by decide +kernel
theorem JJ.e {q k x : Nat} (hn : n ≤ 24) (hk : k < 11) (h : JJ σ μ g n t s m) (hm5 : m 145 q = nI k) (hx : k = 10 → x < 4 ∧ s (9 + q) 2 = nI x ∧ m 146 q = nI x ∧ s 34 x = m 153 x) : JJ σ μ g n t (rfS s q k) (mrS m q) := by
  by_cases hk10 : k = 10
  · obtain ⟨x1, x2, x3, x4⟩ := hx hk10
    obtain ⟨⟨y, y1, y2, y3, y4⟩, j2, j3, j4, j5, j6⟩ := h
    refine ⟨⟨y, y1, ?_, mrS_20.trans y3, fun w hw => ?_⟩, ?_, fun r hr => ?_, fun r h1 h2 => ?_, ?_, j6.mr⟩
    · rw [rfS_c (by decide)]
      exact y2
    · rw [rfS_c (by decide), mrS_c (by decide)]
      exact y4 w hw
    · unfold rfS mrS
      rw [if_pos hk10, hm5, isO_k k hk, if_pos (by rw [hk10]; rfl), x2, x3, nI_clamp (by omega)]
      unfold owS owF
      rw [up2_s, ← x4]
      by_cases h3 : s 34 x = 3
      · rw [if_pos h3, up2_s, j2, decide_eq_true h3]
        rfl
      · rw [if_neg h3, j2, decide_eq_false h3]
        exact (Int32.add_zero _).symm
    · rw [rfS_c (by omega), mrS_c (by decide)]
      exact j3 r hr
    · rw [rfS_c (by omega)]
      exact j4 r h1 h2
    · intro k2 j h1 h2 h3 h4
      refine Eq.trans ?_ (j5 k2 j h1 h2 h3 h4)
      by_cases h33 : k2 = 33
      · subst h33
        unfold rfS owS
        rw [if_pos hk10]
        split
        · exact up2_j (by omega)
        · rfl
      · rw [rfS_c h33]
  · have e1 : rfS s q k = s := by
      unfold rfS
      rw [if_neg hk10]
    have e2 : mrS m q = m := by
      unfold mrS
      rw [hm5, isO_k k hk, if_neg (by simp [hk10])]
    rw [e1, e2]
    exact h
theorem JJ.up (h : JJ σ μ g n t s m) : JJ σ μ g n (t + 1) s m := by
  obtain ⟨⟨y, y1, y2⟩, j⟩ := h
  exact ⟨⟨y, by omega, y2⟩, j⟩
end JJS
section JAL
variable {σ μ : Nat → Nat → Int32} {τ : Nat → Nat → Int64} {u i nu n nc ne : Nat} {d : Int32}
theorem j_0 (hR : rRU σ n nc) (hO : rOW σ) (hM : MUS μ σ) : JJ σ μ (gv σ τ u i d nu).1 n 0 (up2 (gv σ τ u i d nu).1 0 10 0) (up2 μ 140 20 0) := by
  refine ⟨⟨0, Nat.le_refl _, up2_s, up2_s, fun w hw => by omega⟩, ?_, fun r hr => ?_, fun r h1 h2 => ?_, ?_, (MFr.refl μ).u20⟩
  · rw [up2_f (by omega), up2_f (by omega), gv_c (by decide), hM.2 17 (by decide)]
    exact hO.2
  · have := hR.1.1.2.1
    rw [up2_f (by omega), up2_f (by omega), gv_c (by omega), hM.1 148 (by decide)]
    exact hR.2.2.2.1 r 4 hr (by omega)
  · rw [up2_f (by omega), gv_c (by omega)]
  · intro k j h1 h2 h3 h4
    rw [up2_f h1]
theorem j_s {s m : Nat → Nat → Int32} {t : Nat} (hP : rPL σ) (hU : rUN σ nu) (hR : rRU σ n nc) (hE : rEX σ ne) (hO : rOW σ) (hM : MUS μ σ) (hu : u < nu) (hi : i < 12) (ht : t < n) (h : JJ σ μ (gv σ τ u i d nu).1 n t s m) : JJ σ μ (gv σ τ u i d nu).1 n (t + 1) (asn (gv σ τ u i d nu).2 ne (nI i) (σ (80 + u) 2) d s t) (rst μ nu ne u i d m (σ 6 t).toNatClampNeg) := by
  have hn := hR.1.1.2.1
  have h40 := hU.2.2.1
  have hne := hE.2.2.1
  obtain ⟨q, hq, hq6⟩ := hR.1.1.2.2.1 t ht
  have hFC := h.2.2.2.2.1
  have hMF := h.2.2.2.2.2
  have s6 : s 6 t = nI q := by
    rw [hFC 6 t (by omega) (by omega) (by omega) (by omega), gv_c (by decide)]
    exact hq6
  have f9 : ∀ j, j < 4 → s (9 + q) j = σ (144 + j) q := fun j hj => by
    rw [hFC (9 + q) j (by omega) (by omega) (by omega) (by omega), gv_c (by omega)]
    exact hR.2.2.2.1 q j hq (by omega)
  obtain ⟨k, hk, hkp⟩ := hR.2.2.2.2.2.1 q hq
  have hk11 : k < 11 := hkp.2.1
  have k1 : s (9 + q) 1 = nI k := (f9 1 (by omega)).trans hk
  have ex : ixA μ (nI q) u (nI i) d ne = ixA σ (nI q) u (nI i) d ne := ixA_e (hM.1 142 (by decide)) (hM.1 149 (by decide)) (hM.1 150 (by decide)) (hM.1 151 (by decide)) (hM.1 152 (by decide)) ne
  have em : mrB μ nu q u i d = mrB σ nu q u i d := mrB_w (hM.1 141 (by decide)) (hM.1 142 (by decide)) (hM.1 143 (by decide)) (hM.1 145 (by decide)) (hM.1 146 (by decide)) (hM.1 147 (by decide)) (hM.1 153 (by decide))
  have ew : (lpf (wvB s (nI q) (nI i) (σ (80 + u) 2) d) ne 0).isSome = ixA σ (nI q) u (nI i) d ne := wv_ix hE hU hu (fun j hj => funext fun x => by
    rw [hFC (120 + j) x (by omega) (by omega) (by omega) (by omega), gv_c (by omega)])
  have er : rfP s (gv σ τ u i d nu).2 q k ↔ mrB σ nu q u i d = true := rf_mr hP hU hO hu hi (funext fun x => hFC 62 x (by omega) (by omega) (by omega) (by omega)) (funext fun x => by
    rw [hFC 34 x (by omega) (by omega) (by omega) (by omega), gv_c (by decide)]) (f9 2 (by omega)) (f9 3 (by omega)) hk hkp
  have hJe : JJ σ μ (gv σ τ u i d nu).1 n t (rfS s q k) (mrS m q) := by
    have hx : k = 10 → ∃ x, x < 4 ∧ σ 146 q = nI x := fun hk10 => rkeep_10 hkp hk10
    by_cases hk10 : k = 10
    · obtain ⟨x, x1, x2⟩ := hx hk10
      refine h.e (x := x) hn hk11 ?_ (fun _ => ⟨x1, (f9 2 (by omega)).trans x2, ?_, ?_⟩)
      · rw [hMF.1 145 (by decide) (by decide) (by decide), hM.1 145 (by decide)]
        exact hk
      · rw [hMF.1 146 (by decide) (by decide) (by decide), hM.1 146 (by decide)]
        exact x2
      · rw [hFC 34 x (by omega) (by omega) (by omega) (by omega), gv_c (by decide), hMF.1 153 (by decide) (by decide) (by decide), hM.1 153 (by decide)]
        exact hO.1 x x1
    · refine h.e (x := 0) hn hk11 ?_ (fun hh => absurd hh hk10)
      rw [hMF.1 145 (by decide) (by decide) (by decide), hM.1 145 (by decide)]
      exact hk
  obtain ⟨z, z1, z2, z3, z4⟩ := h.1
  unfold asn rst
  rw [s6, hq6, nI_clamp (by omega), k1, nI_clamp (by omega), ew, ex, em, z2, z3, nI_clamp (by omega)]
  by_cases hix : ixA σ (nI q) u (nI i) d ne = true
  · rw [if_pos hix, if_neg (by rw [hix]; decide)]
    exact h.up
  · have hix2 := b_n.mp hix
    rw [if_neg hix, if_pos hix2]
    by_cases hmr : mrB σ nu q u i d = true
    · rw [if_pos (er.mpr hmr), if_pos hmr]
      exact hJe.r hq hn (by rw [rfS_c (by decide)]; exact z2) z1 (by omega)
    · rw [if_neg (fun hh => hmr (er.mp hh)), if_neg hmr]
      exact hJe.up
theorem j_t (hP : rPL σ) (hU : rUN σ nu) (hR : rRU σ n nc) (hE : rEX σ ne) (hO : rOW σ) (hM : MUS μ σ) (hu : u < nu) (hi : i < 12) : ∀ t, t ≤ n → JJ σ μ (gv σ τ u i d nu).1 n t (asx (gv σ τ u i d nu).2 ne (nI i) (σ (80 + u) 2) d (up2 (gv σ τ u i d nu).1 0 10 0) t) (rfx μ nu ne u i d (σ 6) t)
  | 0, _ => j_0 hR hO hM
  | t + 1, ht => by
    rw [asx, rfx]
    exact j_s hP hU hR hE hO hM hu hi (by omega) (j_t hP hU hR hE hO hM hu hi t (by omega))
theorem ORD.c {o f f2 : Nat → Int32} (h : ORD o f n) (hf : ∀ r, r < n → f2 r = f r) : ORD o f2 n := by
  obtain ⟨h1, h2, h3⟩ := h
  refine ⟨h1, h2, fun i j a b hij hj ha hb ha2 hb2 => ?_⟩
  rw [hf a ha2, hf b hb2]
  exact h3 i j a b hij hj ha hb ha2 hb2
theorem j_n (hP : rPL σ) (hU : rUN σ nu) (hR : rRU σ n nc) (hE : rEX σ ne) (hO : rOW σ) (hM : MUS μ σ) (hu : u < nu) (hi : i < 12) : JJ σ μ (gv σ τ u i d nu).1 n n (akS σ τ u i d nu n ne) (maA μ nu ne n u i d) := by
  have hn := hR.1.1.2.1
  have e4 : ∀ r, r < n → μ 144 r = σ (9 + r) 0 := fun r hr => by
    rw [hM.1 144 (by decide)]
    exact (hR.2.2.2.1 r 0 hr (by omega)).symm
  rw [maA_x hn (hR.1.2.1.c e4) (fun q hq => ?_)]
  · exact j_t hP hU hR hE hO hM hu hi n (Nat.le_refl _)
  · obtain ⟨k, hk, hkp⟩ := hR.2.2.2.2.2.1 q hq
    have h1 := inB_gwi.mp hkp.1
    have h2 : ¬ σ 144 q < 0 := fun hh => h1.1 (Int32.lt_trans hh (by decide))
    obtain ⟨j, hj, hj2⟩ := nI_of h2
    have e1 : (1 : Int32) = nI 1 := rfl
    have e100 : (100 : Int32) = nI 100 := rfl
    rw [hM.1 144 (by decide)]
    change ¬ σ 144 q < 1 ∧ ¬ 100 < σ 144 q at h1
    rw [hj2, e1, e100, nI_ltI hj (by omega), nI_ltI (by omega) hj] at h1
    exact ⟨j, by omega, by omega, hj2⟩
/-- the class's cells of one state, the reference's of another -/
def jn (s m : Nat → Nat → Int32) : Nat → Nat → Int32 := fun k j => if k < 140 then s k j else m k j
theorem jn_c {s m : Nat → Nat → Int32} {k j : Nat} (h : k < 140) : jn s m k j = s k j := if_pos h
theorem jn_m {s m : Nat → Nat → Int32} {k j : Nat} (h : 140 ≤ k) : jn s m k j = m k j := if_neg (by omega)
theorem j_R {N nt : Nat} {s m : Nat → Nat → Int32} (hP : rPL σ) (hU : rUN σ nu) (hR : rRU σ n nc) (hE : rEX σ ne) (hO : rOW σ) (hT : rTX σ N) (hN : NMH σ) (hM : MUS μ σ) (hJ : JJ σ μ (gv σ τ u i d nu).1 n n s m) : RR (jn s m) := by
  have hn := hR.1.1.2.1
  obtain ⟨⟨z, z1, z2, z3, z4⟩, j2, j3, j4, j5, j6⟩ := hJ
  have cf : ∀ k j, k < 140 → k ≠ 62 → ¬ (k = 0 ∧ j = 10) → ¬ (k = 33 ∧ j = 1) → k ≠ 67 → ¬ (9 ≤ k ∧ k < 33 ∧ j = 4) → jn s m k j = σ k j := fun k j h0 h62 h1 h2 h3 h4 => by
    rw [jn_c h0, j5 k j h1 h2 h3 h4, gv_c h62]
  have mf : ∀ k j, 140 < k → k ≠ 148 → k ≠ 155 → jn s m k j = σ k j := fun k j h0 h1 h2 => by
    rw [jn_m (by omega), j6.1 k (by omega) h1 h2, hM.1 k h0]
  have m4 : ∀ j, j ≠ 0 → j ≠ 17 → j ≠ 20 → jn s m 140 j = σ 140 j := fun j h0 h1 h2 => by
    rw [jn_m (by omega), j6.2 j h1 h2, hM.2 j h0]
  have ff : ∀ k j, k ≠ 62 → ¬ (k = 0 ∧ j = 10) → ¬ (k = 33 ∧ j = 1) → k ≠ 67 → ¬ (9 ≤ k ∧ k < 33 ∧ j = 4) → k ≠ 148 → k ≠ 155 → ¬ (k = 140 ∧ (j = 0 ∨ j = 17 ∨ j = 20)) → jn s m k j = σ k j := fun k j h0 h1 h2 h3 h4 h5 h6 h7 => by
    by_cases hk : k < 140
    · exact cf k j hk h0 h1 h2 h3 h4
    · by_cases hk2 : k = 140
      · subst hk2
        exact m4 j (by omega) (by omega) (by omega)
      · exact mf k j (by omega) h5 h6
  refine ⟨hP.f (fun k j hd => ff k j ?_ ?_ ?_ ?_ ?_ ?_ ?_ ?_), ⟨nu, hU.f (fun k j hd => ff k j ?_ ?_ ?_ ?_ ?_ ?_ ?_ ?_)⟩, ⟨n, nc, ?_⟩, ⟨ne, hE.f (fun k j hd => ff k j ?_ ?_ ?_ ?_ ?_ ?_ ?_ ?_)⟩, ⟨fun q hq => ?_, ?_⟩, ⟨z, ?_, ?_, by omega, fun w hw => ?_⟩, ⟨N, hT.f (fun k j hd => ff k j ?_ ?_ ?_ ?_ ?_ ?_ ?_ ?_)⟩, hN.f (fun k j hd => ff k j ?_ ?_ ?_ ?_ ?_ ?_ ?_ ?_)⟩
  iterate 8 (unfold dPL at hd; omega)
  iterate 8 (unfold dUN at hd; omega)
  · obtain ⟨a1, a2, a3, a4, a5, a6, a7⟩ := hR
    refine ⟨?_, (m4 5 (by omega) (by omega) (by omega)).trans a2, (m4 18 (by omega) (by omega) (by omega)).trans a3, ?_, ?_, ?_, ?_⟩
    · obtain ⟨i1, i2, i3, i4⟩ := a1
      have e6 : jn s m 6 = σ 6 := funext fun j => cf 6 j (by omega) (by omega) (by omega) (by omega) (by omega) (by omega)
      refine ⟨i1.mono (cf 4 2 (by omega) (by omega) (by omega) (by omega) (by omega) (by omega)) e6 (fun r hr => ⟨cf _ 1 (by omega) (by omega) (by omega) (by omega) (by omega) (by omega), cf _ 2 (by omega) (by omega) (by omega) (by omega) (by omega) (by omega)⟩), ?_, (cf 4 5 (by omega) (by omega) (by omega) (by omega) (by omega) (by omega)).trans i3, i4⟩
      rw [e6]
      exact i2.c (fun r hr => cf (9 + r) 0 (by omega) (by omega) (by omega) (by omega) (by omega) (by omega))
    · intro r j hr hj
      by_cases hj4 : j = 4
      · subst hj4
        rw [jn_c (by omega), jn_m (by omega)]
        exact j3 r hr
      · rw [cf (9 + r) j (by omega) (by omega) (by omega) (by omega) (by omega) (by omega), mf (144 + j) r (by omega) (by omega) (by omega)]
        exact a4 r j hr hj
    · intro r h1 h2
      rw [jn_c (by omega), j4 r h1 h2]
      exact a5 r h1 h2
    · intro r hr
      rw [mf 144 r (by omega) (by omega) (by omega), mf 145 r (by omega) (by omega) (by omega), mf 146 r (by omega) (by omega) (by omega), mf 147 r (by omega) (by omega) (by omega)]
      exact a6 r hr
    · intro w hw
      rw [cf 7 w (by omega) (by omega) (by omega) (by omega) (by omega) (by omega), cf 8 w (by omega) (by omega) (by omega) (by omega) (by omega) (by omega), mf 154 (2 * w) (by omega) (by omega) (by omega), mf 154 (2 * w + 1) (by omega) (by omega) (by omega)]
      exact a7 w hw
  iterate 8 (unfold dEX at hd; omega)
  · rw [cf 34 q (by omega) (by omega) (by omega) (by omega) (by omega) (by omega), mf 153 q (by omega) (by omega) (by omega)]
    exact hO.1 q hq
  · rw [jn_c (by omega), jn_m (by omega)]
    exact j2
  · rw [jn_c (by omega)]
    exact z2
  · rw [jn_m (by omega)]
    exact z3
  · rw [jn_c (by omega), jn_m (by omega)]
    exact z4 w hw
  iterate 8 (unfold dTX at hd; omega)
  iterate 8 (unfold dNM at hd; omega)
theorem j_V {t : Nat} (ht : n ≤ 24) (hJ : JJ σ μ (gv σ τ u i d nu).1 n n (akS σ τ u i d nu n ne) (maA μ nu ne n u i d)) : akV σ τ u i d nu n ne = maV μ nu ne n u i d := by
  obtain ⟨⟨z, z1, z2, z3, z4⟩, -⟩ := hJ
  unfold akV maV
  rw [z2, z3]
  by_cases hz : z = 0
  · subst hz
    rw [if_pos nI_0, if_neg (by decide)]
  · have h0 : (0 : Int32) < nI z := nI_lt (a := 0) (by omega) (by omega)
    rw [if_neg (nI_ne0 (by omega) (by omega)), if_pos h0, z4 0 (by omega)]
end JAL
theorem sh_c {m μ : Nat → Nat → Int32} (h : MFr m μ) {k : Nat} (hk : k < 140) : m k = μ k := h.1 k (by omega) (by omega) (by omega)
theorem bd_e {b d : Int32} : bdM b d = false ↔ (gwi b 0 11 ∧ gwi d 0 1000) := by
  simp only [bdM, Bool.or_eq_false_iff, Bool.not_eq_false', inB_gwi]
def hmy (σ : Nat → Nat → Int32) (τ : Nat → Nat → Int64) (nu n ne : Nat) (a b d z x : Int32) (s1 : Nat → Nat → Int32) : Prop := (z = 0 ∧ ((¬ a < 0 ∧ a < σ 0 2) ∧ gwi b 0 11 ∧ gwi d 0 1000) ∧ x = akV σ τ a.toNatClampNeg b.toNatClampNeg d nu n ne ∧ s1 = akS σ τ a.toNatClampNeg b.toNatClampNeg d nu n ne) ∨ (z = 1 ∧ ¬ (¬ a < 0 ∧ a < σ 0 2) ∧ s1 = σ) ∨ (z = 2 ∧ (¬ a < 0 ∧ a < σ 0 2) ∧ ¬ (gwi b 0 11 ∧ gwi d 0 1000) ∧ s1 = σ)
theorem rHOW {σ : Nat → Nat → Int32} {n nc : Nat} (h : rRU σ n nc) : HOW σ n := fun r hr ho => by
  obtain ⟨k, hk, hkp⟩ := h.2.2.2.2.2.1 r hr
  rw [hk, isO_k k hkp.2.1] at ho
  exact rkeep_10 hkp (of_decide_eq_true ho)
theorem ak_c {σ : Nat → Nat → Int32} {τ : Nat → Nat → Int64} {nu n nc ne u i : Nat} {d : Int32} (hP : rPL σ) (hU : rUN σ nu) (hR : rRU σ n nc) (hE : rEX σ ne) (hO : rOW σ) (hu : u < nu) (hi : i < 12) {k : Nat} (hk : 140 ≤ k) : akS σ τ u i d nu n ne k = σ k := by
  have hJ := j_n (τ := τ) (d := d) hP hU hR hE hO (μ := σ) ⟨fun _ _ => rfl, fun _ _ => rfl⟩ hu hi
  funext j
  rw [hJ.2.2.2.2.1 k j (by omega) (by omega) (by omega) (by omega), gv_c (by omega)]
theorem r_may {σ s1 : Nat → Nat → Int32} {τ : Nat → Nat → Int64} {nu n nc ne : Nat} {a b d z x : Int32} (h : RR σ) (aUN : rUN σ nu) (aRU : rRU σ n nc) (aEX : rEX σ ne) (hp : hmy σ τ nu n ne a b d z x s1) : s1 140 2 = nI nu ∧ s1 140 5 = nI n ∧ s1 140 11 = nI ne ∧ HOW s1 n ∧ mMs s1 nu ne n a b d 140 0 = z ∧ RR (mMs s1 nu ne n a b d) ∧ (z = 0 → x = mMv s1 nu ne n a b d) := by
  have hn4 := aUN.2.2.1
  have eu : (¬ a < 0 ∧ a < σ 0 2) ↔ unB nu a = true := un_e aUN.1 hn4
  rcases hp with ⟨rfl, ⟨hU, hB⟩, rfl, rfl⟩ | ⟨rfl, hU, rfl⟩ | ⟨rfl, hU, hB, rfl⟩
  · have eub := eu.mp hU
    have eb := bd_e.mpr hB
    obtain ⟨u, hu, rfl⟩ := unB_n (by omega) eub
    obtain ⟨i, hi, rfl⟩ := gwi_n (M := 11) (n := 11) rfl hB.1
    rw [nI_clamp (by omega), nI_clamp (by omega)] at *
    obtain ⟨aPL, ⟨_, _⟩, ⟨_, _, _⟩, ⟨_, _⟩, aOW, ⟨nt, aTO⟩, ⟨N, aTX⟩, aNM⟩ := h
    have hc : ∀ k, 140 ≤ k → akS σ τ u i d nu n ne k = σ k := fun k hk => ak_c aPL aUN aRU aEX aOW hu (by omega) hk
    generalize hS : akS σ τ u i d nu n ne = S1 at *
    have e1 : mMs S1 nu ne n (nI u) (nI i) d = maA (up2 S1 140 0 0) nu ne n u i d := by
      rw [mMs, if_neg (by rw [eub, eb]; decide), mM0, eub, eb, nI_clamp (by omega), nI_clamp (by omega)]
      rfl
    have e2 : mMv S1 nu ne n (nI u) (nI i) d = maV (up2 S1 140 0 0) nu ne n u i d := by
      rw [mMv, if_neg (by rw [eub, eb]; decide), mM0, eub, eb, nI_clamp (by omega), nI_clamp (by omega)]
      rfl
    have hM : MUS (up2 S1 140 0 0) σ := ⟨fun k hk => by rw [up2_c (by omega)]; exact hc k (by omega), fun j hj => by rw [up2_j hj, hc 140 (by omega)]⟩
    have hJ := j_n (τ := τ) (d := d) aPL aUN aRU aEX aOW hM hu (show i < 12 by omega)
    have hV := j_V (t := 0) aRU.1.1.2.1 hJ
    rw [hS] at hJ
    have hF := hJ.2.2.2.2.2
    have hH : HOW S1 n := fun r hr ho => by
      rw [hc 145 (by omega)] at ho
      rw [hc 146 (by omega)]
      exact rHOW aRU r hr ho
    rw [e1, e2]
    refine ⟨by rw [hc 140 (by omega)]; exact aUN.2.1, by rw [hc 140 (by omega)]; exact aRU.2.1, by rw [hc 140 (by omega)]; exact aEX.2.1, hH, ?_, ?_, fun _ => ?_⟩
    · rw [hF.2 0 (by decide) (by decide), up2_s]
    · have hR := j_R (nt := nt) aPL aUN aRU aEX aOW aTX aNM hM hJ
      apply hR.f
      intro k j hd
      by_cases hk : k < 140
      · rw [jn_c hk, sh_c hF hk, up2_f (by omega)]
      · rw [jn_m (by omega)]
    · exact hV
  · have eub : unB nu a = false := b_n.mp (fun hh => hU (eu.mpr hh))
    refine ⟨aUN.2.1, aRU.2.1, aEX.2.1, rHOW aRU, ?_, ?_, fun hh => absurd hh (by decide)⟩
    · rw [mMs, if_pos (by rw [eub]; rfl), mM0, up2_s, eub]
      rfl
    · rw [mMs, if_pos (by rw [eub]; rfl)]
      exact h.t
  · have eub := eu.mp hU
    have eb := nb_t bd_e hB
    refine ⟨aUN.2.1, aRU.2.1, aEX.2.1, rHOW aRU, ?_, ?_, fun hh => absurd hh (by decide)⟩
    · rw [mMs, if_pos (by rw [eub, eb]; rfl), mM0, up2_s, eub, eb]
      rfl
    · rw [mMs, if_pos (by rw [eub, eb]; rfl)]
      exact h.t
theorem RR.put {C : Nat → Nat → Int32} {nu u : Nat} {v : Int32} (h : RR C) (h2 : C 0 2 = nI nu) (h40 : nu ≤ 40) (hu : u < nu) (hv : inB v (-1) 11 = true) : RR (up2 (up2 C (80 + u) 10 v) 143 u v) := by
  obtain ⟨aPL, ⟨nu2, aUN⟩, ⟨n, nc, aRU⟩, ⟨ne, aEX⟩, aOW, ⟨nt, aTO⟩, ⟨N, aTX⟩, aNM⟩ := h
  have hnu : nu2 = nu := (nI_eq (by have := aUN.2.2.1; omega) (by omega)).mp (aUN.1.symm.trans h2)
  subst hnu
  refine ⟨aPL.f ((FR.r.u (by unfold dPL; omega)).u (by unfold dPL; omega)), ?_, ⟨n, nc, aRU.f ((FR.r.u (by unfold dRU; omega)).u (by unfold dRU; omega))⟩, ⟨ne, aEX.f ((FR.r.u (by unfold dEX; omega)).u (by unfold dEX; omega))⟩, aOW.f ((FR.r.u (by unfold dOW; omega)).u (by unfold dOW; omega)), ⟨nt, aTO.f ((FR.r.u (by unfold dTO; omega)).u (by unfold dTO; omega))⟩, ⟨N, aTX.f ((FR.r.u (by unfold dTX; omega)).u (by unfold dTX; omega))⟩, aNM.f ((FR.r.u (by unfold dNM; omega)).u (by unfold dNM; omega))⟩
  obtain ⟨a1, a2, a3, a4, a5, a6, a7, a8⟩ := aUN
  refine ⟨nu2, ?_, ?_, a3, ?_, ?_, ?_, ?_, ?_⟩
  · repeat rw [up2_f (by omega)]
    exact a1
  · repeat rw [up2_f (by omega)]
    exact a2
  · intro u' j' hu' hj'
    repeat rw [up2_f (by omega)]
    exact a4 u' j' hu' hj'
  · intro u' hu'
    by_cases hii : u' = u
    · subst hii
      repeat (first | rw [up2_t (by omega)] | rw [up2_f (by omega)])
    · repeat rw [up2_f (by omega)]
      exact a5 u' hu'
  · intro u' hu'
    by_cases hii : u' = u
    · subst hii
      repeat (first | rw [up2_t (by omega)] | rw [up2_f (by omega)])
      exact hv
    · repeat rw [up2_f (by omega)]
      exact a6 u' hu'
  · intro u' hu'
    have := a7 u' (by omega)
    unfold rUR at *
    refine ⟨?_, ?_, ?_, ?_⟩ <;> (repeat rw [up2_f (by omega)])
    · exact this.1
    · exact this.2.1
    · exact this.2.2.1
    · exact this.2.2.2
  · intro u' hu' h40
    have := a8 u' (by omega) h40
    unfold rFU at *
    refine ⟨?_, ?_, ?_, ?_, ?_, ?_, ?_, ?_⟩ <;> (repeat rw [up2_f (by omega)])
    · exact this.1
    · exact this.2.1
    · exact this.2.2.1
    · exact this.2.2.2.1
    · exact this.2.2.2.2.1
    · exact this.2.2.2.2.2.1
    · exact this.2.2.2.2.2.2.1
    · exact this.2.2.2.2.2.2.2
theorem in_m : ∀ i, i < 12 → inB (nI i) (-1) 11 = true := by decide +kernel
def hpt (σ : Nat → Nat → Int32) (τ : Nat → Nat → Int64) (nu n ne : Nat) (a b d z x : Int32) (s1 : Nat → Nat → Int32) : Prop := (z = 0 ∧ ((¬ a < 0 ∧ a < σ 0 2) ∧ gwi b 0 11 ∧ gwi d 0 1000) ∧ ¬ σ (80 + a.toNatClampNeg) 10 = b ∧ x = akV σ τ a.toNatClampNeg b.toNatClampNeg d nu n ne ∧ s1 = (if akV σ τ a.toNatClampNeg b.toNatClampNeg d nu n ne = 0 then up2 (akS σ τ a.toNatClampNeg b.toNatClampNeg d nu n ne) (80 + a.toNatClampNeg) 10 b else akS σ τ a.toNatClampNeg b.toNatClampNeg d nu n ne)) ∨ (z = 1 ∧ ¬ (¬ a < 0 ∧ a < σ 0 2) ∧ s1 = σ) ∨ (z = 2 ∧ (¬ a < 0 ∧ a < σ 0 2) ∧ ¬ (gwi b 0 11 ∧ gwi d 0 1000) ∧ s1 = σ) ∨ (z = 3 ∧ ((¬ a < 0 ∧ a < σ 0 2) ∧ gwi b 0 11 ∧ gwi d 0 1000) ∧ σ (80 + a.toNatClampNeg) 10 = b ∧ s1 = σ)
theorem r_put {σ s1 : Nat → Nat → Int32} {τ : Nat → Nat → Int64} {nu n nc ne : Nat} {a b d z x : Int32} (h : RR σ) (aUN : rUN σ nu) (aRU : rRU σ n nc) (aEX : rEX σ ne) (hp : hpt σ τ nu n ne a b d z x s1) : s1 140 2 = nI nu ∧ s1 140 5 = nI n ∧ s1 140 11 = nI ne ∧ HOW s1 n ∧ mPs s1 nu ne n a b d 140 0 = z ∧ RR (mPs s1 nu ne n a b d) ∧ (z = 0 → x = mPv s1 nu ne n a b d) := by
  have hn4 := aUN.2.2.1
  have eu : (¬ a < 0 ∧ a < σ 0 2) ↔ unB nu a = true := un_e aUN.1 hn4
  rcases hp with ⟨rfl, ⟨hU, hB⟩, h10, rfl, hS1⟩ | ⟨rfl, hU, rfl⟩ | ⟨rfl, hU, hB, rfl⟩ | ⟨rfl, ⟨hU, hB⟩, h10, rfl⟩
  · have eub := eu.mp hU
    have eb := bd_e.mpr hB
    obtain ⟨u, hu, rfl⟩ := unB_n (by omega) eub
    obtain ⟨i, hi, rfl⟩ := gwi_n (M := 11) (n := 11) rfl hB.1
    rw [nI_clamp (by omega), nI_clamp (by omega)] at *
    obtain ⟨aPL, ⟨_, _⟩, ⟨_, _, _⟩, ⟨_, _⟩, aOW, ⟨nt, aTO⟩, ⟨N, aTX⟩, aNM⟩ := h
    have hc0 : ∀ k, 140 ≤ k → akS σ τ u i d nu n ne k = σ k := fun k hk => ak_c aPL aUN aRU aEX aOW hu (by omega) hk
    have hc : ∀ k, 140 ≤ k → s1 k = σ k := fun k hk => by
      rw [hS1]
      split
      · rw [up2_c (by omega)]
        exact hc0 k hk
      · exact hc0 k hk
    have ep : ptB s1 nu (nI u) (nI i) = false := by
      unfold ptB
      rw [nI_clamp (by omega), hc 143 (by omega), ← aUN.2.2.2.2.1 u hu, decide_eq_false h10, Bool.and_false]
    have e1 : mPs s1 nu ne n (nI u) (nI i) d = up2 (maA (up2 s1 140 0 0) nu ne n u i d) 143 u (if maV (up2 s1 140 0 0) nu ne n u i d = 0 then nI i else maA (up2 s1 140 0 0) nu ne n u i d 143 u) := by
      rw [mPs, if_neg (by rw [eub, eb, ep]; decide), mP0, eub, eb, ep, nI_clamp (by omega), nI_clamp (by omega)]
      rfl
    have e2 : mPv s1 nu ne n (nI u) (nI i) d = maV (up2 s1 140 0 0) nu ne n u i d := by
      rw [mPv, if_neg (by rw [eub, eb, ep]; decide), mP0, eub, eb, ep, nI_clamp (by omega), nI_clamp (by omega)]
      rfl
    have hM : MUS (up2 s1 140 0 0) σ := ⟨fun k hk => by rw [up2_c (by omega)]; exact hc k (by omega), fun j hj => by rw [up2_j hj, hc 140 (by omega)]⟩
    have hJ := j_n (τ := τ) (d := d) aPL aUN aRU aEX aOW hM hu (show i < 12 by omega)
    have hV := j_V (t := 0) aRU.1.1.2.1 hJ
    have hF := hJ.2.2.2.2.2
    have hH : HOW s1 n := fun r hr ho => by
      rw [hc 145 (by omega)] at ho
      rw [hc 146 (by omega)]
      exact rHOW aRU r hr ho
    have hR := j_R (nt := nt) aPL aUN aRU aEX aOW aTX aNM hM hJ
    rw [e1, e2]
    refine ⟨by rw [hc 140 (by omega)]; exact aUN.2.1, by rw [hc 140 (by omega)]; exact aRU.2.1, by rw [hc 140 (by omega)]; exact aEX.2.1, hH, ?_, ?_, fun _ => hV⟩
    · rw [up2_f (by omega), hF.2 0 (by decide) (by decide), up2_s]
    · rw [← hV]
      by_cases h0 : akV σ τ u i d nu n ne = 0
      · rw [if_pos h0]
        rw [if_pos h0] at hS1
        have h02 : jn (akS σ τ u i d nu n ne) (maA (up2 s1 140 0 0) nu ne n u i d) 0 2 = nI nu := by
          rw [jn_c (by omega), hJ.2.2.2.2.1 0 2 (by omega) (by omega) (by omega) (by omega), gv_c (by omega)]
          exact aUN.1
        apply (hR.put h02 hn4 hu (in_m i (by omega))).f
        intro k j hd
        by_cases h3 : k = 143 ∧ j = u
        · rw [up2_t h3, up2_t h3]
        · rw [up2_f h3, up2_f h3]
          by_cases hk : k < 140
          · rw [sh_c hF hk, up2_f (by omega), hS1, up2_at, up2_at, jn_c hk]
          · rw [up2_f (by omega), jn_m (by omega)]
      · rw [if_neg h0]
        rw [if_neg h0] at hS1
        apply hR.f
        intro k j hd
        by_cases h3 : k = 143 ∧ j = u
        · rw [up2_t h3, h3.1, h3.2, jn_m (by omega)]
        · rw [up2_f h3]
          by_cases hk : k < 140
          · rw [sh_c hF hk, up2_f (by omega), hS1, jn_c hk]
          · rw [jn_m (by omega)]
  · have eub : unB nu a = false := b_n.mp (fun hh => hU (eu.mpr hh))
    refine ⟨aUN.2.1, aRU.2.1, aEX.2.1, rHOW aRU, ?_, ?_, fun hh => absurd hh (by decide)⟩
    · rw [mPs, if_pos (by rw [eub]; rfl), mP0, up2_s, eub]
      rfl
    · rw [mPs, if_pos (by rw [eub]; rfl)]
      exact h.t
  · have eub := eu.mp hU
    have eb := nb_t bd_e hB
    refine ⟨aUN.2.1, aRU.2.1, aEX.2.1, rHOW aRU, ?_, ?_, fun hh => absurd hh (by decide)⟩
    · rw [mPs, if_pos (by rw [eub, eb]; rfl), mP0, up2_s, eub, eb]
      rfl
    · rw [mPs, if_pos (by rw [eub, eb]; rfl)]
      exact h.t
  · have eub := eu.mp hU
    have eb := bd_e.mpr hB
    have ep : ptB s1 nu a b = true := by
      unfold ptB
      rw [eub]
      obtain ⟨u, hu, rfl⟩ := unB_n (by omega) eub
      rw [nI_clamp (by omega)] at *
      rw [← aUN.2.2.2.2.1 u hu, decide_eq_true h10]
      rfl
    refine ⟨aUN.2.1, aRU.2.1, aEX.2.1, rHOW aRU, ?_, ?_, fun hh => absurd hh (by decide)⟩
    · rw [mPs, if_pos (by rw [eub, eb, ep]; rfl), mP0, up2_s, eub, eb, ep]
      rfl
    · rw [mPs, if_pos (by rw [eub, eb, ep]; rfl)]
      exact h.t
