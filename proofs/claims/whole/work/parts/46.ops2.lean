/-! Exceptions, rules and the reading of text keep the relation and answer alike. -/
theorem lpf_s {b : Nat → Bool} : ∀ (f i j : Nat), lpf b f i = some j → i ≤ j ∧ j < i + f ∧ b j = true
  | 0, _, _, h => by simp [lpf] at h
  | f + 1, i, j, h => by
    rw [lpf] at h
    by_cases hb : b i = true
    · rw [if_pos hb] at h
      injection h with h
      subst h
      exact ⟨Nat.le_refl _, by omega, hb⟩
    · rw [if_neg hb] at h
      have := lpf_s f (i + 1) j h
      exact ⟨by omega, by omega, this.2.2⟩
theorem lpf_nn {b : Nat → Bool} : ∀ (f i : Nat), lpf b f i = none → ∀ j, i ≤ j → j < i + f → b j = false
  | 0, _, _, j, h1, h2 => by omega
  | f + 1, i, h, j, h1, h2 => by
    rw [lpf] at h
    by_cases hb : b i = true
    · rw [if_pos hb] at h
      exact absurd h (by simp)
    · rw [if_neg hb] at h
      by_cases hj : j = i
      · subst hj
        exact b_n.mp hb
      · exact lpf_nn f (i + 1) h j (by omega) (by omega)
theorem lsf_nn {b : Nat → Bool} : ∀ (n : Nat), lsf b n = none → ∀ j, j < n → b j = false
  | 0, _, j, h2 => by omega
  | n + 1, h, j, h2 => by
    rw [lsf] at h
    by_cases hb : b n = true
    · rw [if_pos hb] at h
      exact absurd h (by simp)
    · rw [if_neg hb] at h
      by_cases hj : j = n
      · subst hj
        exact b_n.mp hb
      · exact lsf_nn n h j (by omega)
theorem lpf_lsf {b : Nat → Bool} {n : Nat} (hu : ∀ i j, i < j → j < n → ¬ (b i = true ∧ b j = true)) : lpf b n 0 = lsf b n := by
  cases h1 : lpf b n 0 with
  | none =>
    cases h2 : lsf b n with
    | none => rfl
    | some k =>
      have := lsf_lt n k h2
      rw [lpf_nn n 0 h1 k (by omega) (by omega)] at this
      exact absurd this.2 (by decide)
  | some j =>
    have hj := lpf_s n 0 j h1
    cases h2 : lsf b n with
    | none =>
      have := lsf_nn n h2 j (by omega)
      rw [this] at hj
      exact absurd hj.2.2 (by decide)
    | some k =>
      have hk := lsf_lt n k h2
      congr 1
      by_cases h3 : j < k
      · exact absurd ⟨hj.2.2, hk.2⟩ (hu j k h3 hk.1)
      · by_cases h4 : k < j
        · exact absurd ⟨hk.2, hj.2.2⟩ (hu k j h4 (by omega))
        · omega
def hxc (σ : Nat → Nat → Int32) (ne : Nat) (a b d f z : Int32) (s1 : Nat → Nat → Int32) : Prop := (z = 0 ∧ (¬ a < 0 ∧ a < σ 4 2) ∧ (gwi b (-1) 11 ∧ gwi d (-1) 7 ∧ gwi f 0 1000) ∧ ((∃ j, lpf (fvB σ a b d) ne 0 = some j) ∨ σ 0 4 < 20) ∧ s1 = exS σ a b d f ne) ∨ (z = 1 ∧ ¬ (¬ a < 0 ∧ a < σ 4 2) ∧ s1 = σ) ∨ (z = 2 ∧ (¬ a < 0 ∧ a < σ 4 2) ∧ ¬ (gwi b (-1) 11 ∧ gwi d (-1) 7 ∧ gwi f 0 1000) ∧ s1 = σ) ∨ (z = 3 ∧ (¬ a < 0 ∧ a < σ 4 2) ∧ (gwi b (-1) 11 ∧ gwi d (-1) 7 ∧ gwi f 0 1000) ∧ lpf (fvB σ a b d) ne 0 = none ∧ ¬ σ 0 4 < 20 ∧ s1 = σ)
theorem meB_c {s σ : Nat → Nat → Int32} {a b d : Int32} (h1 : s 149 = σ 149) (h2 : s 150 = σ 150) (h3 : s 151 = σ 151) : meB s a b d = meB σ a b d := by
  funext j
  unfold meB
  rw [h1, h2, h3]
-- GEN --
theorem r_except {σ s1 : Nat → Nat → Int32} {n nc ne : Nat} {a b d f z : Int32} (h : RR σ) (aRU : rRU σ n nc) (aEX : rEX σ ne) (hp : hxc σ ne a b d f z s1) : s1 140 5 = nI n ∧ s1 140 11 = nI ne ∧ mXc s1 a b d f n ne 140 0 = z ∧ RR (mXc s1 a b d f n ne) := by
  have hn := aRU.1.1.2.1
  obtain ⟨a1, a2, a3, a4, a5, a6⟩ := aEX
  have eA : (¬ a < 0 ∧ a < σ 4 2) ↔ inB a 0 (nI n - 1) = true := un_e aRU.1.1.1 (by omega)
  have eB : bdE b d f = false ↔ (gwi b (-1) 11 ∧ gwi d (-1) 7 ∧ gwi f 0 1000) := by
    simp only [bdE, Bool.or_eq_false_iff, Bool.not_eq_false', inB_gwi, and_assoc]
  have e20 : (20 : Int32) = nI 20 := rfl
  have eF : lpf (fvB σ a b d) ne 0 = lsf (meB σ a b d) ne := by
    have e1 : lpf (fvB σ a b d) ne 0 = lpf (meB σ a b d) ne 0 := by
      apply lpf_c
      intro i _ hi
      show decide (σ (120 + i) 0 = a ∧ σ (120 + i) 1 = b ∧ σ (120 + i) 2 = d) = _
      rw [a4 i 0 (by omega) (by omega), a4 i 1 (by omega) (by omega), a4 i 2 (by omega) (by omega)]
      unfold meB
      rw [Bool.decide_and, Bool.decide_and, Bool.and_assoc]
    rw [e1]
    apply lpf_lsf
    intro i j hij hj hh
    apply a6 i j hij hj
    simp only [meB, Bool.and_eq_true, decide_eq_true_eq] at hh
    obtain ⟨⟨⟨x1, x2⟩, x3⟩, ⟨y1, y2⟩, y3⟩ := hh
    exact ⟨x1.trans y1.symm, x2.trans y2.symm, x3.trans y3.symm⟩
  rcases hp with ⟨rfl, hA, hB, hC, rfl⟩ | ⟨rfl, hA, rfl⟩ | ⟨rfl, hA, hB, rfl⟩ | ⟨rfl, hA, hB, hF, h4, rfl⟩
  · have eAb := eA.mp hA
    have eBb := eB.mpr hB
    cases hF : lpf (fvB σ a b d) ne 0 with
    | some j =>
      have hj := lpf_s ne 0 j hF
      have ex : exS σ a b d f ne = up2 σ (120 + j) 3 (if σ (120 + j) 3 < f then f else σ (120 + j) 3) := by
        unfold exS
        rw [hF]
      rw [ex]
      generalize hS : up2 σ (120 + j) 3 (if σ (120 + j) 3 < f then f else σ (120 + j) 3) = S1
      have f49 : S1 149 = σ 149 := by rw [← hS, up2_c (by omega)]
      have f50 : S1 150 = σ 150 := by rw [← hS, up2_c (by omega)]
      have f51 : S1 151 = σ 151 := by rw [← hS, up2_c (by omega)]
      have f40 : S1 140 = σ 140 := by rw [← hS, up2_c (by omega)]
      have eM : mxF S1 a b d ne = some j := by rw [mxF, meB_c f49 f50 f51, ← eF, hF]
      have e3 : mx3 S1 a b d ne = false := by
        rw [mx3, eM]
        show (!decide (0 ≤ nI j) && _) = false
        rw [decide_eq_true (nI_pos' (by omega))]
        rfl
      have e0 : mXc S1 a b d f n ne = up2 (mX0 S1 a b d f n ne) 152 j (if mX0 S1 a b d f n ne 152 j < f then f else mX0 S1 a b d f n ne 152 j) := by
        rw [mXc, if_neg (by rw [eAb, eBb, e3]; decide), eM]
      have e4 : mX0 S1 a b d f n ne 152 j = σ (120 + j) 3 := by
        rw [mX0, up2_f (by omega), ← hS, up2_f (by omega)]
        exact (a4 j 3 (by omega) (by omega)).symm
      rw [e0, e4, mX0, eAb, eBb, e3]
      refine ⟨by rw [f40]; exact aRU.2.1, by rw [f40]; exact a2, by rw [up2_f (by omega), up2_s]; rfl, ?_⟩
      subst hS
      obtain ⟨aPL, ⟨nu, aUN⟩, ⟨_, _, _⟩, ⟨_, _⟩, aOW, ⟨nt, aTO⟩, ⟨N, aTX⟩, aNM⟩ := h
      refine ⟨aPL.f (((FR.r.u (by unfold dPL; omega)).u (by unfold dPL; omega)).u (by unfold dPL; omega)), ⟨nu, aUN.f (((FR.r.u (by unfold dUN; omega)).u (by unfold dUN; omega)).u (by unfold dUN; omega))⟩, ⟨n, nc, aRU.f (((FR.r.u (by unfold dRU; omega)).u (by unfold dRU; omega)).u (by unfold dRU; omega))⟩, ?_, aOW.f (((FR.r.u (by unfold dOW; omega)).u (by unfold dOW; omega)).u (by unfold dOW; omega)), ⟨nt, aTO.f (((FR.r.u (by unfold dTO; omega)).u (by unfold dTO; omega)).u (by unfold dTO; omega))⟩, ⟨N, aTX.f (((FR.r.u (by unfold dTX; omega)).u (by unfold dTX; omega)).u (by unfold dTX; omega))⟩, aNM.f (((FR.r.u (by unfold dNM; omega)).u (by unfold dNM; omega)).u (by unfold dNM; omega))⟩
      refine ⟨ne, ?_, ?_, a3, ?_, ?_, ?_⟩
      · repeat (first | rw [up2_t (by omega)] | rw [up2_f (by omega)])
        exact a1
      · repeat (first | rw [up2_t (by omega)] | rw [up2_f (by omega)])
        exact a2
      · intro j' q hj' hq
        have hq2 : q = 0 ∨ q = 1 ∨ q = 2 ∨ q = 3 := by omega
        by_cases hii : j' = j
        · subst hii
          rcases hq2 with rfl | rfl | rfl | rfl <;> (repeat (first | rw [up2_t (by omega)] | rw [up2_f (by omega)])) <;> exact a4 j' _ hj' (by omega)
        · repeat rw [up2_f (by omega)]
          exact a4 j' q hj' hq
      · intro j' hj'
        repeat rw [up2_f (by omega)]
        exact a5 j' hj'
      · intro i' j' hi' hj'
        repeat rw [up2_f (by omega)]
        exact a6 i' j' hi' hj'
    | none =>
      have hlt : ne < 20 := by
        rcases hC with ⟨j, hj⟩ | h4
        · rw [hF] at hj
          exact absurd hj (by simp)
        · exact lt_nI a1 e20 (by omega) (by omega) h4
      have ey : (up2 (up2 (up2 (up2 σ (120 + ne) 0 a) (120 + ne) 1 b) (120 + ne) 2 d) (120 + ne) 3 f) 0 4 + 1 = nI (ne + 1) := by
        repeat rw [up2_f (by omega)]
        rw [a1, nI_1]
      have ex : exS σ a b d f ne = up2 (up2 (up2 (up2 (up2 σ (120 + ne) 0 a) (120 + ne) 1 b) (120 + ne) 2 d) (120 + ne) 3 f) 0 4 (nI (ne + 1)) := by
        unfold exS
        rw [hF, ← ey]
      rw [ex]
      generalize hS : up2 (up2 (up2 (up2 (up2 σ (120 + ne) 0 a) (120 + ne) 1 b) (120 + ne) 2 d) (120 + ne) 3 f) 0 4 (nI (ne + 1)) = S1
      have fr : ∀ q, 140 ≤ q → S1 q = σ q := fun q hq => by
        rw [← hS, up2_c (by omega), up2_c (by omega), up2_c (by omega), up2_c (by omega), up2_c (by omega)]
      have eM : mxF S1 a b d ne = none := by rw [mxF, meB_c (fr 149 (by omega)) (fr 150 (by omega)) (fr 151 (by omega)), ← eF, hF]
      have e3 : mx3 S1 a b d ne = false := by
        rw [mx3, eM, decide_eq_false (p := nI ne = 20) (by rw [e20, nI_eq (by omega) (by omega)]; omega)]
        exact Bool.and_false _
      have e0 : mXc S1 a b d f n ne = up2 (up2 (up2 (up2 (up2 (mX0 S1 a b d f n ne) 149 ne a) 150 ne b) 151 ne d) 152 ne f) 140 11 (nI (ne + 1)) := by
        rw [mXc, if_neg (by rw [eAb, eBb, e3]; decide), eM]
      rw [e0, mX0, eAb, eBb, e3]
      refine ⟨by rw [fr 140 (by omega)]; exact aRU.2.1, by rw [fr 140 (by omega)]; exact a2, ?_, ?_⟩
      · rw [up2_f (by omega), up2_f (by omega), up2_f (by omega), up2_f (by omega), up2_f (by omega), up2_s]
        rfl
      subst hS
      obtain ⟨aPL, ⟨nu, aUN⟩, ⟨_, _, _⟩, ⟨_, _⟩, aOW, ⟨nt, aTO⟩, ⟨N, aTX⟩, aNM⟩ := h
      refine ⟨aPL.f (((((((((((FR.r.u (by unfold dPL; omega)).u (by unfold dPL; omega)).u (by unfold dPL; omega)).u (by unfold dPL; omega)).u (by unfold dPL; omega)).u (by unfold dPL; omega)).u (by unfold dPL; omega)).u (by unfold dPL; omega)).u (by unfold dPL; omega)).u (by unfold dPL; omega)).u (by unfold dPL; omega)), ⟨nu, aUN.f (((((((((((FR.r.u (by unfold dUN; omega)).u (by unfold dUN; omega)).u (by unfold dUN; omega)).u (by unfold dUN; omega)).u (by unfold dUN; omega)).u (by unfold dUN; omega)).u (by unfold dUN; omega)).u (by unfold dUN; omega)).u (by unfold dUN; omega)).u (by unfold dUN; omega)).u (by unfold dUN; omega))⟩, ⟨n, nc, aRU.f (((((((((((FR.r.u (by unfold dRU; omega)).u (by unfold dRU; omega)).u (by unfold dRU; omega)).u (by unfold dRU; omega)).u (by unfold dRU; omega)).u (by unfold dRU; omega)).u (by unfold dRU; omega)).u (by unfold dRU; omega)).u (by unfold dRU; omega)).u (by unfold dRU; omega)).u (by unfold dRU; omega))⟩, ?_, aOW.f (((((((((((FR.r.u (by unfold dOW; omega)).u (by unfold dOW; omega)).u (by unfold dOW; omega)).u (by unfold dOW; omega)).u (by unfold dOW; omega)).u (by unfold dOW; omega)).u (by unfold dOW; omega)).u (by unfold dOW; omega)).u (by unfold dOW; omega)).u (by unfold dOW; omega)).u (by unfold dOW; omega)), ⟨nt, aTO.f (((((((((((FR.r.u (by unfold dTO; omega)).u (by unfold dTO; omega)).u (by unfold dTO; omega)).u (by unfold dTO; omega)).u (by unfold dTO; omega)).u (by unfold dTO; omega)).u (by unfold dTO; omega)).u (by unfold dTO; omega)).u (by unfold dTO; omega)).u (by unfold dTO; omega)).u (by unfold dTO; omega))⟩, ⟨N, aTX.f (((((((((((FR.r.u (by unfold dTX; omega)).u (by unfold dTX; omega)).u (by unfold dTX; omega)).u (by unfold dTX; omega)).u (by unfold dTX; omega)).u (by unfold dTX; omega)).u (by unfold dTX; omega)).u (by unfold dTX; omega)).u (by unfold dTX; omega)).u (by unfold dTX; omega)).u (by unfold dTX; omega))⟩, aNM.f (((((((((((FR.r.u (by unfold dNM; omega)).u (by unfold dNM; omega)).u (by unfold dNM; omega)).u (by unfold dNM; omega)).u (by unfold dNM; omega)).u (by unfold dNM; omega)).u (by unfold dNM; omega)).u (by unfold dNM; omega)).u (by unfold dNM; omega)).u (by unfold dNM; omega)).u (by unfold dNM; omega))⟩
      have hno : ∀ i, i < ne → ¬ (σ 149 i = a ∧ σ 150 i = b ∧ σ 151 i = d) := fun i hi hh => by
        have h1 := lsf_nn ne (eF.symm.trans hF) i hi
        simp only [meB, hh.1, hh.2.1, hh.2.2, decide_true, Bool.and_true] at h1
        exact absurd h1 (by decide)
      refine ⟨ne + 1, ?_, ?_, by omega, ?_, ?_, ?_⟩
      · repeat (first | rw [up2_t (by omega)] | rw [up2_f (by omega)])
      · repeat (first | rw [up2_t (by omega)] | rw [up2_f (by omega)])
      · intro j' q hj' hq
        have hq2 : q = 0 ∨ q = 1 ∨ q = 2 ∨ q = 3 := by omega
        by_cases hii : j' = ne
        · subst hii
          rcases hq2 with rfl | rfl | rfl | rfl <;> (repeat (first | rw [up2_t (by omega)] | rw [up2_f (by omega)]))
        · repeat rw [up2_f (by omega)]
          exact a4 j' q (by omega) hq
      · intro j' hj'
        by_cases hii : j' = ne
        · subst hii
          refine ⟨?_, ?_⟩ <;> (repeat (first | rw [up2_t (by omega)] | rw [up2_f (by omega)]))
          · exact inB_gwi.mpr hB.1
          · exact inB_gwi.mpr hB.2.1
        · repeat rw [up2_f (by omega)]
          exact a5 j' (by omega)
      · intro i' j' hi' hj'
        by_cases hii : j' = ne
        · subst hii
          repeat (first | rw [up2_t (by omega)] | rw [up2_f (by omega)])
          exact hno i' hi'
        · repeat rw [up2_f (by omega)]
          exact a6 i' j' hi' (by omega)
  · have eAb : inB a 0 (nI n - 1) = false := b_n.mp (fun hh => hA (eA.mpr hh))
    refine ⟨aRU.2.1, a2, ?_, ?_⟩
    · rw [mXc, if_pos (by rw [eAb]; rfl), mX0, up2_s, eAb]
      rfl
    · rw [mXc, if_pos (by rw [eAb]; rfl)]
      exact h.t
  · have eAb := eA.mp hA
    have eBb := nb_t eB hB
    refine ⟨aRU.2.1, a2, ?_, ?_⟩
    · rw [mXc, if_pos (by rw [eAb, eBb]; rfl), mX0, up2_s, eAb, eBb]
      rfl
    · rw [mXc, if_pos (by rw [eAb, eBb]; rfl)]
      exact h.t
  · have eAb := eA.mp hA
    have eBb := eB.mpr hB
    have hne : ne = 20 := by
      have : ¬ ne < 20 := fun hh => h4 (by rw [a1, e20]; exact nI_lt hh (by omega))
      omega
    have e3 : mx3 s1 a b d ne = true := by
      rw [mx3, mxF, ← eF, hF, hne]
      decide
    refine ⟨aRU.2.1, a2, ?_, ?_⟩
    · rw [mXc, if_pos (by rw [eAb, eBb, e3]; rfl), mX0, up2_s, eAb, eBb, e3]
      rfl
    · rw [mXc, if_pos (by rw [eAb, eBb, e3]; rfl)]
      exact h.t
/-- the rules of two states: the class's of one, the reference's of the other -/
def rRX (σ μ : Nat → Nat → Int32) (n nc : Nat) : Prop := CB σ n nc ∧ μ 140 5 = nI n ∧ μ 140 18 = nI nc ∧ (∀ r j, r < n → j < 5 → σ (9 + r) j = μ (144 + j) r) ∧ (∀ r, n ≤ r → r < 24 → σ (9 + r) 4 = 0) ∧ (∀ r, r < n → ∃ k, μ 145 r = nI k ∧ rkeep (μ 144 r, k, μ 146 r, μ 147 r)) ∧ ∀ z, z < nc → σ 7 z = μ 154 (2 * z) ∧ σ 8 z = μ 154 (2 * z + 1)
def dRM (k j : Nat) : Prop := (k = 140 ∧ (j = 5 ∨ j = 18)) ∨ (144 ≤ k ∧ k < 149) ∨ k = 154
def dRC (k j : Nat) : Prop := (k = 4 ∧ (j = 2 ∨ j = 5)) ∨ k = 6 ∨ k = 7 ∨ k = 8 ∨ (9 ≤ k ∧ k < 33)
theorem CB.fC {s σ : Nat → Nat → Int32} {n nc : Nat} (h : CB σ n nc) (hf : FR dRC s σ) : CB s n nc := by
  have h6 : s 6 = σ 6 := funext fun j => hf _ _ (by unfold dRC; omega)
  have h9 : ∀ r, r < 24 → s (9 + r) = σ (9 + r) := fun r hr => funext fun j => hf _ _ (by unfold dRC; omega)
  have h4 : s 4 2 = σ 4 2 := hf _ _ (by unfold dRC; omega)
  have h5 : s 4 5 = σ 4 5 := hf _ _ (by unfold dRC; omega)
  obtain ⟨i1, i2, i3, i4⟩ := h
  refine ⟨i1.mono h4 h6 (fun r hr => by rw [h9 r hr]; exact ⟨rfl, rfl⟩), ?_, h5.trans i3, i4⟩
  have hn := i1.2.1
  obtain ⟨o1, o2, o3⟩ := i2
  rw [h6]
  refine ⟨o1, o2, ?_⟩
  intro i j a b hij hj ha hb ha2 hb2
  have := o3 i j a b hij hj ha hb ha2 hb2
  show s (9 + a) 0 < s (9 + b) 0 ∨ (s (9 + a) 0 = s (9 + b) 0 ∧ a < b)
  rw [h9 a (by omega), h9 b (by omega)]
  exact this
theorem rRX.fM {σ μ t : Nat → Nat → Int32} {n nc : Nat} (h : rRX σ μ n nc) (hf : FR dRM t μ) : rRX σ t n nc := by
  obtain ⟨a1, a2, a3, a4, a5, a6, a7⟩ := h
  have hn := a1.1.2.1
  refine ⟨a1, (hf _ _ (by unfold dRM; omega)).trans a2, (hf _ _ (by unfold dRM; omega)).trans a3, ?_, a5, ?_, ?_⟩
  · intro r j hr hj
    rw [hf (144 + j) r (by unfold dRM; omega)]
    exact a4 r j hr hj
  · intro r hr
    rw [hf 144 r (by unfold dRM; omega), hf 145 r (by unfold dRM; omega), hf 146 r (by unfold dRM; omega), hf 147 r (by unfold dRM; omega)]
    exact a6 r hr
  · intro z hz
    rw [hf 154 (2 * z) (by unfold dRM; omega), hf 154 (2 * z + 1) (by unfold dRM; omega)]
    exact a7 z hz
theorem rRX.fC {σ μ t : Nat → Nat → Int32} {n nc : Nat} (h : rRX σ μ n nc) (hf : FR dRC t σ) : rRX t μ n nc := by
  obtain ⟨a1, a2, a3, a4, a5, a6, a7⟩ := h
  have hn := a1.1.2.1
  refine ⟨a1.fC hf, a2, a3, ?_, ?_, a6, ?_⟩
  · intro r j hr hj
    rw [hf (9 + r) j (by unfold dRC; omega)]
    exact a4 r j hr hj
  · intro r h1 h2
    rw [hf (9 + r) 4 (by unfold dRC; omega)]
    exact a5 r h1 h2
  · intro z hz
    rw [hf 7 z (by unfold dRC; omega), hf 8 z (by unfold dRC; omega)]
    exact a7 z hz
section RXS
variable {σ μ : Nat → Nat → Int32} {n nc : Nat} {rk a b : Int32} {k : Nat}
theorem cl_l (h : rRX σ μ n nc) (hn : n < 24) : ∀ i, i ≤ n → ∃ z, z ≤ nc + i ∧ ncx n (awS σ n rk (nI k) a b) i 4 5 = nI z ∧ mcx n rk (nI k) μ i 140 18 = nI z ∧ ∀ w, w < z → ncx n (awS σ n rk (nI k) a b) i 7 w = mcx n rk (nI k) μ i 154 (2 * w) ∧ ncx n (awS σ n rk (nI k) a b) i 8 w = mcx n rk (nI k) μ i 154 (2 * w + 1) := by
  have h2 := h.1.2.2.2
  have hc : nc ≤ 276 := by
    have h3 : n * (n - 1) ≤ 24 * 23 := Nat.mul_le_mul (by omega) (by omega)
    omega
  intro i
  induction i with
  | zero =>
    intro _
    refine ⟨nc, by omega, ?_, h.2.2.1, fun w hw => ?_⟩
    · show awS σ n rk (nI k) a b 4 5 = nI nc
      rw [awS_c (by omega)]
      exact h.1.2.2.1
    · show awS σ n rk (nI k) a b 7 w = μ 154 (2 * w) ∧ awS σ n rk (nI k) a b 8 w = μ 154 (2 * w + 1)
      rw [awS_c (by omega), awS_c (by omega)]
      exact h.2.2.2.2.2.2 w hw
  | succ i ih =>
    intro hi
    obtain ⟨z, z1, z2, z3, z4⟩ := ih (by omega)
    rw [ncx, mcx]
    unfold ncn mcn
    have e9i : ncx n (awS σ n rk (nI k) a b) i (9 + i) = σ (9 + i) := by rw [ncx_9 _ (by omega) (by omega) (by omega), awS_c (by omega)]
    have e90 : ncx n (awS σ n rk (nI k) a b) i (9 + n) 0 = rk := by rw [ncx_9 _ (by omega) (by omega) (by omega), awS_0]
    have e91 : ncx n (awS σ n rk (nI k) a b) i (9 + n) 1 = nI k := by rw [ncx_9 _ (by omega) (by omega) (by omega), awS_1]
    have m0 : mcx n rk (nI k) μ i 144 i = μ 144 i := mcx_k (by omega) (by omega) i
    have m1 : mcx n rk (nI k) μ i 145 i = μ 145 i := mcx_k (by omega) (by omega) i
    have r0 := h.2.2.2.1 i 0 (by omega) (by omega)
    have r1 := h.2.2.2.1 i 1 (by omega) (by omega)
    rw [e9i, e90, e91, m0, m1, r0, r1]
    generalize ncx n (awS σ n rk (nI k) a b) i = X at *
    generalize mcx n rk (nI k) μ i = M at *
    by_cases hq : μ 144 i = rk ∧ μ 145 i = nI k
    · rw [if_pos hq, if_pos hq, z2, z3, nI_clamp (by omega)]
      refine ⟨z + 1, by omega, ?_, ?_, fun w hw => ?_⟩
      · rw [up2_s, up2_f (by omega), up2_f (by omega), z2, nI_1]
      · rw [up2_s]
      · by_cases hw2 : w = z
        · subst hw2
          refine ⟨?_, ?_⟩ <;> (repeat (first | rw [up2_t (by omega)] | rw [up2_f (by omega)]))
        · refine ⟨?_, ?_⟩ <;> (repeat rw [up2_f (by omega)])
          · exact (z4 w (by omega)).1
          · exact (z4 w (by omega)).2
    · rw [if_neg hq, if_neg hq]
      exact ⟨z, by omega, z2, z3, z4⟩
theorem r_add (h : rRX σ μ n nc) (hn : n < 24) (hk : rkeep (rk, k, a, b)) : ∃ z, rRX (arS σ n rk (nI k) a b) (mCm μ n rk (nI k) a b) (n + 1) z := by
  obtain ⟨z, z1, z2, z3, z4⟩ := cl_l (rk := rk) (a := a) (b := b) (k := k) h hn n (Nat.le_refl _)
  obtain ⟨a1, a2, a3, a4, a5, a6, a7⟩ := h
  have h2 := a1.2.2.2
  have hc : nc ≤ 276 := by
    have h3 : n * (n - 1) ≤ 24 * 23 := Nat.mul_le_mul (by omega) (by omega)
    omega
  obtain ⟨y, y1, y2, y3, y4⟩ := a1.ar (rk := rk) (b := b) hn hk.2.1 (rkeep_10 hk)
  have hzy : y = z := (nI_eq (by omega) (by omega)).mp (y3.symm.trans z2)
  subst hzy
  have m4 : ∀ r, r ≠ n → mCm μ n rk (nI k) a b 144 r = μ 144 r ∧ mCm μ n rk (nI k) a b 145 r = μ 145 r ∧ mCm μ n rk (nI k) a b 146 r = μ 146 r ∧ mCm μ n rk (nI k) a b 147 r = μ 147 r ∧ mCm μ n rk (nI k) a b 148 r = μ 148 r := fun r hr => by
    unfold mCm
    refine ⟨?_, ?_, ?_, ?_, ?_⟩ <;> (repeat rw [up2_f (by omega)]) <;> exact mcx_k (by omega) (by omega) n
  have m5 : mCm μ n rk (nI k) a b 144 n = rk ∧ mCm μ n rk (nI k) a b 145 n = nI k ∧ mCm μ n rk (nI k) a b 146 n = a ∧ mCm μ n rk (nI k) a b 147 n = b ∧ mCm μ n rk (nI k) a b 148 n = 0 := by
    unfold mCm
    refine ⟨?_, ?_, ?_, ?_, ?_⟩ <;> (repeat (first | rw [up2_t (by omega)] | rw [up2_f (by omega)]))
  refine ⟨y, y4, mCm_5, ?_, ?_, ?_, ?_, ?_⟩
  · unfold mCm
    repeat rw [up2_f (by omega)]
    exact z3
  · intro r j hr hj
    have hj2 : j = 0 ∨ j = 1 ∨ j = 2 ∨ j = 3 ∨ j = 4 := by omega
    by_cases hrn : r = n
    · subst hrn
      rw [arS_n j hn]
      rcases hj2 with rfl | rfl | rfl | rfl | rfl
      · exact awS_0.trans m5.1.symm
      · exact awS_1.trans m5.2.1.symm
      · exact awS_2.trans m5.2.2.1.symm
      · exact awS_3.trans m5.2.2.2.1.symm
      · exact (awS_j (by omega)).trans ((a5 r (Nat.le_refl _) hn).trans m5.2.2.2.2.symm)
    · rw [arS_c (by omega) (by omega) (by omega) (by omega) (by omega)]
      have := a4 r j (by omega) hj
      obtain ⟨q0, q1, q2, q3, q4⟩ := m4 r hrn
      rcases hj2 with rfl | rfl | rfl | rfl | rfl
      · exact this.trans q0.symm
      · exact this.trans q1.symm
      · exact this.trans q2.symm
      · exact this.trans q3.symm
      · exact this.trans q4.symm
  · intro r h1 h2
    rw [arS_c (by omega) (by omega) (by omega) (by omega) (by omega)]
    exact a5 r (by omega) h2
  · intro r hr
    by_cases hrn : r = n
    · subst hrn
      rw [m5.1, m5.2.1, m5.2.2.1, m5.2.2.2.1]
      exact ⟨k, rfl, hk⟩
    · obtain ⟨q0, q1, q2, q3, -⟩ := m4 r hrn
      rw [q0, q1, q2, q3]
      exact a6 r (by omega)
  · intro w hw
    have e7 : arS σ n rk (nI k) a b 7 = ncx n (awS σ n rk (nI k) a b) n 7 := by
      unfold arS
      rw [up2_c (by decide), (ioS_sp n).1 7 (by decide)]
    have e8 : arS σ n rk (nI k) a b 8 = ncx n (awS σ n rk (nI k) a b) n 8 := by
      unfold arS
      rw [up2_c (by decide), (ioS_sp n).1 8 (by decide)]
    have e5 : ∀ i, mCm μ n rk (nI k) a b 154 i = mcx n rk (nI k) μ n 154 i := fun i => by
      unfold mCm
      repeat rw [up2_f (by omega)]
    rw [e7, e8, e5, e5]
    exact z4 w hw
end RXS
theorem r_adds (l : List RUL) : ∀ {σ μ : Nat → Nat → Int32} {n nc : Nat}, rRX σ μ n nc → n + l.length ≤ 24 → (∀ x, x ∈ l → rkeep x) → ∃ z, rRX (adS σ n l) (adM μ n l) (n + l.length) z := by
  induction l with
  | nil =>
    intro σ μ n nc h _ _
    exact ⟨nc, h⟩
  | cons x l ih =>
    intro σ μ n nc h hl hk
    rw [List.length_cons] at hl
    obtain ⟨z, hz⟩ := r_add (rk := x.1) (k := x.2.1) (a := x.2.2.1) (b := x.2.2.2) h (by omega) (hk x (List.mem_cons_self ..))
    obtain ⟨w, hw⟩ := ih hz (by omega) (fun y hy => hk y (List.mem_cons_of_mem _ hy))
    rw [adS, adM, List.length_cons, show n + (l.length + 1) = n + 1 + l.length from by omega]
    exact ⟨w, hw⟩
def dCL (k : Nat) : Prop := k = 4 ∨ k = 6 ∨ k = 7 ∨ k = 8 ∨ (9 ≤ k ∧ k < 33)
theorem FR.mCm {D : Nat → Nat → Prop} {μ : Nat → Nat → Int32} {n : Nat} {rk k a b : Int32} (hD : ∀ q i, D q i → ¬ dRM q i) : FR D (mCm μ n rk k a b) μ := fun q i hd => by
  have := hD q i hd
  unfold dRM at this
  exact mCm_k (by omega) (by omega) (by omega) (by omega) (by omega) (by omega) (by omega)
theorem FR.adM {D : Nat → Nat → Prop} {μ : Nat → Nat → Int32} {n : Nat} (l : List RUL) (hD : ∀ q i, D q i → ¬ dRM q i) : FR D (adM μ n l) μ := fun q i hd => by
  have := hD q i hd
  unfold dRM at this
  exact adM_k l (by omega) (by omega) (by omega) (by omega) (by omega) (by omega) (by omega)
theorem FR.arS {D : Nat → Nat → Prop} {σ : Nat → Nat → Int32} {n : Nat} {rk k a b : Int32} (hn : n < 24) (hD : ∀ q i, D q i → ¬ dCL q) : FR D (arS σ n rk k a b) σ := fun q i hd => by
  have := hD q i hd
  unfold dCL at this
  rw [arS_c (by omega) (by omega) (by omega) (by omega) (by omega)]
theorem FR.adS {D : Nat → Nat → Prop} {σ : Nat → Nat → Int32} {n : Nat} (l : List RUL) (hl : n + l.length ≤ 24) (hD : ∀ q i, D q i → ¬ dCL q) : FR D (adS σ n l) σ := fun q i hd => by
  have := hD q i hd
  unfold dCL at this
  rw [adS_c l (by omega) (by omega) (by omega) (by omega) (by omega) hl]
theorem FR.mxf {D : Nat → Nat → Prop} {s σ : Nat → Nat → Int32} (h : MXF s σ) (hD : ∀ q i, D q i → ¬ (q = 140 ∧ (i = 24 ∨ i = 25 ∨ i = 26))) : FR D s σ := fun q i hd => h q i (hD q i hd)
theorem FR.txr {D : Nat → Nat → Prop} {s σ : Nat → Nat → Int32} (h : TXR s σ) (hD : ∀ q i, D q i → ¬ (q = 35 ∧ (i = 3 ∨ i = 4 ∨ i = 5 ∨ i = 6)) ∧ ¬ (38 ≤ q ∧ q < 62 ∧ i < 4)) : FR D s σ := fun q i hd => h q i (hD q i hd).1 (hD q i hd).2
abbrev ruP (a b d f : Int32) : Prop := gwi a 1 100 ∧ gwi b 0 10 ∧ gwi d (kLe b.toNatClampNeg) (kMo b.toNatClampNeg) ∧ gwi f (if kNu b.toNatClampNeg = 2 then kLe b.toNatClampNeg else 0) (if kNu b.toNatClampNeg = 2 then kMo b.toNatClampNeg else 0)
theorem k_lo : ∀ k, k < 11 → (if kNu k = 2 then kLe k else 0) = 0 ∧ (if kNu k = 2 then kMo k else 0) = (if twB (nI k) = true then 7 else 0) := by decide +kernel
theorem rl_e {a b d f : Int32} : rlB a b d f = true ↔ ruP a b d f := by
  unfold rlB ruP
  simp only [Bool.and_eq_true, inB_gwi, and_assoc]
  constructor
  · rintro ⟨h1, h2, h3, h4⟩
    obtain ⟨k, hk, rfl⟩ := gwi_n (M := 10) (n := 10) rfl h2
    rw [nI_clamp (by omega)]
    rw [isA_k (by omega)] at h3
    rw [(k_lo k (by omega)).1, (k_lo k (by omega)).2]
    exact ⟨h1, h2, inB_gwi.mp h3, h4⟩
  · rintro ⟨h1, h2, h3, h4⟩
    obtain ⟨k, hk, rfl⟩ := gwi_n (M := 10) (n := 10) rfl h2
    rw [nI_clamp (by omega)] at h3 h4
    rw [isA_k (by omega)]
    rw [(k_lo k (by omega)).1, (k_lo k (by omega)).2] at h4
    exact ⟨h1, h2, inB_gwi.mpr h3, h4⟩
theorem ru_k {a d f : Int32} {k : Nat} (hk : k < 11) (h : ruP a (nI k) d f) : rkeep (a, k, d, f) := by
  unfold ruP at h
  rw [nI_clamp (by omega)] at h
  obtain ⟨h1, h2, h3, h4⟩ := h
  refine ⟨inB_gwi.mpr h1, hk, inB_gwi.mpr h3, fun hh => ?_, fun hh => ?_⟩
  · rw [if_pos hh, if_pos hh] at h4
    exact inB_gwi.mpr h4
  · rw [if_neg hh, if_neg hh] at h4
    unfold gwi at h4
    exact Int32.le_antisymm (Int32.not_lt.mp h4.2) (Int32.not_lt.mp h4.1)
def hru (σ : Nat → Nat → Int32) (n : Nat) (a b d f z x : Int32) (s1 : Nat → Nat → Int32) : Prop := (z = 0 ∧ x = nI n ∧ ruP a b d f ∧ n < 24 ∧ s1 = arS σ n a b d f) ∨ (z = 1 ∧ ¬ ruP a b d f ∧ s1 = σ) ∨ (z = 2 ∧ ruP a b d f ∧ ¬ 0 < 24 - σ 4 2 ∧ s1 = σ)
theorem rRX.rr {σ μ s : Nat → Nat → Int32} {n nc : Nat} (h : rRX σ μ n nc) (h1 : FR dRC s σ) (h2 : FR dRM s μ) : rRU s n nc := (h.fC h1).fM h2
theorem r_rule {σ s1 : Nat → Nat → Int32} {n nc : Nat} {a b d f z x : Int32} (h : RR σ) (aRU : rRU σ n nc) (hp : hru σ n a b d f z x s1) : s1 140 5 = nI n ∧ s1 140 18 = nI nc ∧ mRl s1 n a b d f 140 0 = z ∧ RR (mRl s1 n a b d f) ∧ (z = 0 → x = if (!rlB a b d f || decide (nI n = 24)) = true then 0 else nI n) := by
  have e24 : (24 : Int32) = nI 24 := rfl
  have hn := aRU.1.1.2.1
  rcases hp with ⟨rfl, rfl, hP, hlt, rfl⟩ | ⟨rfl, hP, rfl⟩ | ⟨rfl, hP, h4, rfl⟩
  · have eb := rl_e.mpr hP
    have e0 : decide (nI n = 24) = false := decide_eq_false (by rw [e24, nI_eq (by omega) (by omega)]; omega)
    obtain ⟨k, hk, rfl⟩ := gwi_n (M := 10) (n := 10) rfl hP.2.1
    have hk2 := ru_k (by omega) hP
    have e14 : ∀ q, 33 ≤ q → arS σ n a (nI k) d f q = σ q := fun q hq => arS_c (by omega) (by omega) (by omega) (by omega) (by omega)
    have eM : mRl (arS σ n a (nI k) d f) n a (nI k) d f = mCm (up2 (arS σ n a (nI k) d f) 140 0 0) n a (nI k) d f := by
      rw [mRl, if_neg (by rw [eb, e0]; decide), eb, e0]
      rfl
    refine ⟨by rw [e14 _ (by omega)]; exact aRU.2.1, by rw [e14 _ (by omega)]; exact aRU.2.2.1, ?_, ?_, fun _ => by rw [eb, e0, if_neg (by decide)]⟩
    · rw [eM, mCm_k (by omega) (by omega) (by omega) (by omega) (by omega) (by omega) (by omega), up2_s]
    · rw [eM]
      have hX : rRX σ (up2 (arS σ n a (nI k) d f) 140 0 0) n nc := by
        apply rRX.fM (μ := σ) aRU
        exact (FR.arS hlt (by intro q i; unfold dRM dCL; omega)).u (by unfold dRM; omega)
      obtain ⟨w, hw⟩ := r_add hX hlt hk2
      have hR : rRU (mCm (up2 (arS σ n a (nI k) d f) 140 0 0) n a (nI k) d f) (n + 1) w := hw.rr ((FR.mCm (by intro q i; unfold dRC dRM; omega)).t (FR.r.u (by unfold dRC; omega))) FR.r
      obtain ⟨aPL, ⟨nu, aUN⟩, ⟨_, _, _⟩, ⟨ne, aEX⟩, aOW, ⟨nt, aTO⟩, ⟨N, aTX⟩, aNM⟩ := h
      refine ⟨aPL.f ((FR.mCm (by intro q i; unfold dPL dRM; omega)).t ((FR.arS hlt (by intro q i; unfold dPL dCL; omega)).u (by unfold dPL; omega))), ⟨nu, aUN.f ((FR.mCm (by intro q i; unfold dUN dRM; omega)).t ((FR.arS hlt (by intro q i; unfold dUN dCL; omega)).u (by unfold dUN; omega)))⟩, ?_, ⟨ne, aEX.f ((FR.mCm (by intro q i; unfold dEX dRM; omega)).t ((FR.arS hlt (by intro q i; unfold dEX dCL; omega)).u (by unfold dEX; omega)))⟩, aOW.f ((FR.mCm (by intro q i; unfold dOW dRM; omega)).t ((FR.arS hlt (by intro q i; unfold dOW dCL; omega)).u (by unfold dOW; omega))), ⟨nt, aTO.f ((FR.mCm (by intro q i; unfold dTO dRM; omega)).t ((FR.arS hlt (by intro q i; unfold dTO dCL; omega)).u (by unfold dTO; omega)))⟩, ⟨N, aTX.f ((FR.mCm (by intro q i; unfold dTX dRM; omega)).t ((FR.arS hlt (by intro q i; unfold dTX dCL; omega)).u (by unfold dTX; omega)))⟩, aNM.f ((FR.mCm (by intro q i; unfold dNM dRM; omega)).t ((FR.arS hlt (by intro q i; unfold dNM dCL; omega)).u (by unfold dNM; omega)))⟩
      exact ⟨n + 1, w, hR⟩
  · have eb : rlB a b d f = false := b_n.mp (fun hh => hP (rl_e.mp hh))
    refine ⟨aRU.2.1, aRU.2.2.1, ?_, ?_, fun hh => absurd hh (by decide)⟩
    · rw [mRl, if_pos (by rw [eb]; rfl), up2_s, eb]
      rfl
    · rw [mRl, if_pos (by rw [eb]; rfl)]
      exact h.t
  · have eb := rl_e.mpr hP
    have h24 : n = 24 := by
      have : ¬ n < 24 := fun hh => h4 (by
        rw [aRU.1.1.1, e24, pk_sub (by omega)]
        exact nI_lt (a := 0) (by omega) (by omega))
      omega
    have e0 : decide (nI n = 24) = true := decide_eq_true (by rw [h24, e24])
    refine ⟨aRU.2.1, aRU.2.2.1, ?_, ?_, fun hh => absurd hh (by decide)⟩
    · rw [mRl, if_pos (by rw [e0, Bool.or_true]), up2_s, eb, e0]
      rfl
    · rw [mRl, if_pos (by rw [e0, Bool.or_true])]
      exact h.t
theorem r_read {σ s1 s2 : Nat → Nat → Int32} {n nc N : Nat} {v v2 : Option Value} (h : RR σ) (aRU : rRU σ n nc) (aTX : rTX σ N) (hp : ∃ s0, TXR s0 σ ∧ KDV s0 ∧ rdP (prs (σ 36) N (24 - n) 0) v s1 s0 n) (hm : mrP (prs (s1 156) N (24 - n) 0) n v2 s2 (up2 s1 140 0 0)) : v = v2 ∧ RR s2 := by
  obtain ⟨s0, hT, hV, hR⟩ := hp
  have hn := aRU.1.1.2.1
  obtain ⟨aPL, ⟨nu, aUN⟩, ⟨_, _, _⟩, ⟨ne, aEX⟩, aOW, ⟨nt, aTO⟩, ⟨_, _⟩, aNM⟩ := h
  have e36 : σ 36 = σ 156 := funext aTX.2.2.2.1
  have f56 : s0 156 = σ 156 := funext fun i => hT 156 i (by omega) (by omega)
  have f36 : s0 36 = σ 36 := funext fun i => hT 36 i (by omega) (by omega)
  cases hq : prs (σ 36) N (24 - n) 0 with
  | error ee =>
    rw [hq] at hR
    obtain ⟨r1, rfl⟩ := hR
    have e1 : up2 s0 35 1 0 156 = σ 36 := by rw [up2_c (by decide), f56, e36]
    rw [e1, hq] at hm
    obtain ⟨m1, s, m2, rfl⟩ := hm
    refine ⟨r1.trans m1.symm, ?_⟩
    refine ⟨aPL.f ((((FR.mxf m2 (by intro q i; unfold dPL; omega)).t (((FR.txr hT (by intro q i; unfold dPL; omega)).u (by unfold dPL; omega)).u (by unfold dPL; omega))).u (by unfold dPL; omega))), ⟨nu, aUN.f ((((FR.mxf m2 (by intro q i; unfold dUN; omega)).t (((FR.txr hT (by intro q i; unfold dUN; omega)).u (by unfold dUN; omega)).u (by unfold dUN; omega))).u (by unfold dUN; omega)))⟩, ?_, ⟨ne, aEX.f ((((FR.mxf m2 (by intro q i; unfold dEX; omega)).t (((FR.txr hT (by intro q i; unfold dEX; omega)).u (by unfold dEX; omega)).u (by unfold dEX; omega))).u (by unfold dEX; omega)))⟩, aOW.f ((((FR.mxf m2 (by intro q i; unfold dOW; omega)).t (((FR.txr hT (by intro q i; unfold dOW; omega)).u (by unfold dOW; omega)).u (by unfold dOW; omega))).u (by unfold dOW; omega))), ⟨nt, aTO.f ((((FR.mxf m2 (by intro q i; unfold dTO; omega)).t (((FR.txr hT (by intro q i; unfold dTO; omega)).u (by unfold dTO; omega)).u (by unfold dTO; omega))).u (by unfold dTO; omega)))⟩, ?_, aNM.f ((((FR.mxf m2 (by intro q i; unfold dNM; omega)).t (((FR.txr hT (by intro q i; unfold dNM; omega)).u (by unfold dNM; omega)).u (by unfold dNM; omega))).u (by unfold dNM; omega)))⟩
    · exact ⟨n, nc, aRU.f (((FR.mxf m2 (by intro q i; unfold dRU; omega)).t (((FR.txr hT (by intro q i; unfold dRU; omega)).u (by unfold dRU; omega)).u (by unfold dRU; omega))).u (by unfold dRU; omega))⟩
    · refine ⟨0, ?_, up2_s, by omega, fun i => ?_, ?_, fun i hi => ?_⟩
      · rw [up2_f (by omega), m2 35 1 (by omega), up2_f (by omega), up2_s]
        rfl
      · rw [up2_f (by omega), up2_f (by omega), m2 36 i (by omega), m2 156 i (by omega), up2_f (by omega), up2_f (by omega), up2_f (by omega), up2_f (by omega), f36, f56, e36]
      · rw [up2_f (by omega), m2 35 6 (by omega), up2_f (by omega), up2_f (by omega)]
        exact hV.1
      · rw [up2_f (by omega), m2 _ 1 (by omega), up2_f (by omega), up2_f (by omega)]
        exact hV.2 i hi
  | ok l =>
    have hl := prs_len (24 - n) 0 l hq
    rw [hq] at hR
    obtain ⟨r1, rfl⟩ := hR
    have ha : ∀ q, 33 ≤ q → adS s0 n l q = s0 q := fun q hq => adS_c l (by omega) (by omega) (by omega) (by omega) (by omega) (by omega)
    have e1 : up2 (adS s0 n l) 35 1 0 156 = σ 36 := by rw [up2_c (by decide), ha _ (by omega), f56, e36]
    rw [e1, hq] at hm
    obtain ⟨m1, s, m2, rfl⟩ := hm
    refine ⟨r1.trans m1.symm, ?_⟩
    have hX : rRX s0 (up2 (up2 (adS s0 n l) 35 1 0) 140 0 0) n nc := by
      apply rRX.fM (μ := σ)
      · apply rRX.fC (σ := σ) aRU
        exact FR.txr hT (by intro q i; unfold dRC; omega)
      · exact (((FR.adS l (by omega) (by intro q i; unfold dRM dCL; omega)).t (FR.txr hT (by intro q i; unfold dRM; omega))).u (by unfold dRM; omega)).u (by unfold dRM; omega)
    obtain ⟨w, hw⟩ := r_adds l hX (by omega) hl.2
    have hR : rRU (up2 s 140 22 0) (n + l.length) w := by
      apply hw.rr
      · exact (((FR.mxf m2 (by intro q i; unfold dRC; omega)).t (FR.adM l (by intro q i; unfold dRC dRM; omega))).t ((FR.r.u (by unfold dRC; omega)).u (by unfold dRC; omega))).u (by unfold dRC; omega)
      · exact (FR.mxf m2 (by intro q i; unfold dRM; omega)).u (by unfold dRM; omega)
    refine ⟨aPL.f (((((FR.mxf m2 (by intro q i; unfold dPL; omega)).t (FR.adM l (by intro q i; unfold dPL dRM; omega))).t ((((FR.adS l (by omega) (by intro q i; unfold dPL dCL; omega)).t (FR.txr hT (by intro q i; unfold dPL; omega))).u (by unfold dPL; omega)).u (by unfold dPL; omega))).u (by unfold dPL; omega))), ⟨nu, aUN.f (((((FR.mxf m2 (by intro q i; unfold dUN; omega)).t (FR.adM l (by intro q i; unfold dUN dRM; omega))).t ((((FR.adS l (by omega) (by intro q i; unfold dUN dCL; omega)).t (FR.txr hT (by intro q i; unfold dUN; omega))).u (by unfold dUN; omega)).u (by unfold dUN; omega))).u (by unfold dUN; omega)))⟩, ?_, ⟨ne, aEX.f (((((FR.mxf m2 (by intro q i; unfold dEX; omega)).t (FR.adM l (by intro q i; unfold dEX dRM; omega))).t ((((FR.adS l (by omega) (by intro q i; unfold dEX dCL; omega)).t (FR.txr hT (by intro q i; unfold dEX; omega))).u (by unfold dEX; omega)).u (by unfold dEX; omega))).u (by unfold dEX; omega)))⟩, aOW.f (((((FR.mxf m2 (by intro q i; unfold dOW; omega)).t (FR.adM l (by intro q i; unfold dOW dRM; omega))).t ((((FR.adS l (by omega) (by intro q i; unfold dOW dCL; omega)).t (FR.txr hT (by intro q i; unfold dOW; omega))).u (by unfold dOW; omega)).u (by unfold dOW; omega))).u (by unfold dOW; omega))), ⟨nt, aTO.f (((((FR.mxf m2 (by intro q i; unfold dTO; omega)).t (FR.adM l (by intro q i; unfold dTO dRM; omega))).t ((((FR.adS l (by omega) (by intro q i; unfold dTO dCL; omega)).t (FR.txr hT (by intro q i; unfold dTO; omega))).u (by unfold dTO; omega)).u (by unfold dTO; omega))).u (by unfold dTO; omega)))⟩, ?_, aNM.f (((((FR.mxf m2 (by intro q i; unfold dNM; omega)).t (FR.adM l (by intro q i; unfold dNM dRM; omega))).t ((((FR.adS l (by omega) (by intro q i; unfold dNM dCL; omega)).t (FR.txr hT (by intro q i; unfold dNM; omega))).u (by unfold dNM; omega)).u (by unfold dNM; omega))).u (by unfold dNM; omega)))⟩
    · exact ⟨_, w, hR⟩
    · have hg : ∀ q i, q = 35 ∨ q = 36 ∨ q = 156 ∨ (38 ≤ q ∧ q < 62) → s q i = up2 s0 35 1 0 q i := fun q i hq => by
        rw [m2 q i (by omega), adM_k l (by omega) (by omega) (by omega) (by omega) (by omega) (by omega) (by omega), up2_f (by omega), up2_at, up2_at, ha q (by omega)]
      refine ⟨0, ?_, up2_s, by omega, fun i => ?_, ?_, fun i hi => ?_⟩
      · rw [up2_f (by omega), hg 35 1 (by omega), up2_s]
        rfl
      · rw [up2_f (by omega), up2_f (by omega), hg 36 i (by omega), hg 156 i (by omega), up2_f (by omega), up2_f (by omega), f36, f56, e36]
      · rw [up2_f (by omega), hg 35 6 (by omega), up2_f (by omega)]
        exact hV.1
      · rw [up2_f (by omega), hg _ 1 (by omega), up2_f (by omega)]
        exact hV.2 i hi
