/-! Exceptions, rules and the reading of text keep the relation and answer alike. -/
theorem lpf_s {b : Nat → Bool} : ∀ (f i j : Nat), lpf b f i = some j → i ≤ j ∧ j < i + f ∧ b j = true
  | 0, _, _, h => by simp [lpf] at h
  | f + 1, i, j, h => by
    rw [lpf] at h
    by_cases hb : b i = true
    · rw [if_pos hb] at h
      injection h with h
      subst h
      exact ⟨Nat.le_refl _, by omega, hb⟩
    · rw [if_neg hb] at h
      have := lpf_s f (i + 1) j h
      exact ⟨by omega, by omega, this.2.2⟩
theorem lpf_nn {b : Nat → Bool} : ∀ (f i : Nat), lpf b f i = none → ∀ j, i ≤ j → j < i + f → b j = false
  | 0, _, _, j, h1, h2 => by omega
  | f + 1, i, h, j, h1, h2 => by
    rw [lpf] at h
    by_cases hb : b i = true
    · rw [if_pos hb] at h
      exact absurd h (by simp)
    · rw [if_neg hb] at h
      by_cases hj : j = i
      · subst hj
        exact b_n.mp hb
      · exact lpf_nn f (i + 1) h j (by omega) (by omega)
theorem lsf_nn {b : Nat → Bool} : ∀ (n : Nat), lsf b n = none → ∀ j, j < n → b j = false
  | 0, _, j, h2 => by omega
  | n + 1, h, j, h2 => by
    rw [lsf] at h
    by_cases hb : b n = true
    · rw [if_pos hb] at h
      exact absurd h (by simp)
    · rw [if_neg hb] at h
      by_cases hj : j = n
      · subst hj
        exact b_n.mp hb
      · exact lsf_nn n h j (by omega)
theorem lpf_lsf {b : Nat → Bool} {n : Nat} (hu : ∀ i j, i < j → j < n → ¬ (b i = true ∧ b j = true)) : lpf b n 0 = lsf b n := by
  cases h1 : lpf b n 0 with
  | none =>
    cases h2 : lsf b n with
    | none => rfl
    | some k =>
      have := lsf_lt n k h2
      rw [lpf_nn n 0 h1 k (by omega) (by omega)] at this
      exact absurd this.2 (by decide)
  | some j =>
    have hj := lpf_s n 0 j h1
    cases h2 : lsf b n with
    | none =>
      have := lsf_nn n h2 j (by omega)
      rw [this] at hj
      exact absurd hj.2.2 (by decide)
    | some k =>
      have hk := lsf_lt n k h2
      congr 1
      by_cases h3 : j < k
      · exact absurd ⟨hj.2.2, hk.2⟩ (hu j k h3 hk.1)
      · by_cases h4 : k < j
        · exact absurd ⟨hk.2, hj.2.2⟩ (hu k j h4 (by omega))
        · omega
def hxc (σ : Nat → Nat → Int32) (ne : Nat) (a b d f z : Int32) (s1 : Nat → Nat → Int32) : Prop := (z = 0 ∧ (¬ a < 0 ∧ a < σ 4 2) ∧ (gwi b (-1) 11 ∧ gwi d (-1) 7 ∧ gwi f 0 1000) ∧ ((∃ j, lpf (fvB σ a b d) ne 0 = some j) ∨ σ 0 4 < 20) ∧ s1 = exS σ a b d f ne) ∨ (z = 1 ∧ ¬ (¬ a < 0 ∧ a < σ 4 2) ∧ s1 = σ) ∨ (z = 2 ∧ (¬ a < 0 ∧ a < σ 4 2) ∧ ¬ (gwi b (-1) 11 ∧ gwi d (-1) 7 ∧ gwi f 0 1000) ∧ s1 = σ) ∨ (z = 3 ∧ (¬ a < 0 ∧ a < σ 4 2) ∧ (gwi b (-1) 11 ∧ gwi d (-1) 7 ∧ gwi f 0 1000) ∧ lpf (fvB σ a b d) ne 0 = none ∧ ¬ σ 0 4 < 20 ∧ s1 = σ)
theorem meB_c {s σ : Nat → Nat → Int32} {a b d : Int32} (h1 : s 149 = σ 149) (h2 : s 150 = σ 150) (h3 : s 151 = σ 151) : meB s a b d = meB σ a b d := by
  funext j
  unfold meB
  rw [h1, h2, h3]
-- GEN --
theorem r_except {σ s1 : Nat → Nat → Int32} {n nc ne : Nat} {a b d f z : Int32} (h : RR σ) (aRU : rRU σ n nc) (aEX : rEX σ ne) (hp : hxc σ ne a b d f z s1) : s1 140 5 = nI n ∧ s1 140 11 = nI ne ∧ mXc s1 a b d f n ne 140 0 = z ∧ RR (mXc s1 a b d f n ne) := by
  have hn := aRU.1.1.2.1
  obtain ⟨a1, a2, a3, a4, a5, a6⟩ := aEX
  have eA : (¬ a < 0 ∧ a < σ 4 2) ↔ inB a 0 (nI n - 1) = true := un_e aRU.1.1.1 (by omega)
  have eB : bdE b d f = false ↔ (gwi b (-1) 11 ∧ gwi d (-1) 7 ∧ gwi f 0 1000) := by
    simp only [bdE, Bool.or_eq_false_iff, Bool.not_eq_false', inB_gwi, and_assoc]
  have e20 : (20 : Int32) = nI 20 := rfl
  have eF : lpf (fvB σ a b d) ne 0 = lsf (meB σ a b d) ne := by
    have e1 : lpf (fvB σ a b d) ne 0 = lpf (meB σ a b d) ne 0 := by
      apply lpf_c
      intro i _ hi
      show decide (σ (120 + i) 0 = a ∧ σ (120 + i) 1 = b ∧ σ (120 + i) 2 = d) = _
      rw [a4 i 0 (by omega) (by omega), a4 i 1 (by omega) (by omega), a4 i 2 (by omega) (by omega)]
      unfold meB
      rw [Bool.decide_and, Bool.decide_and, Bool.and_assoc]
    rw [e1]
    apply lpf_lsf
    intro i j hij hj hh
    apply a6 i j hij hj
    simp only [meB, Bool.and_eq_true, decide_eq_true_eq] at hh
    obtain ⟨⟨⟨x1, x2⟩, x3⟩, ⟨y1, y2⟩, y3⟩ := hh
    exact ⟨x1.trans y1.symm, x2.trans y2.symm, x3.trans y3.symm⟩
  rcases hp with ⟨rfl, hA, hB, hC, rfl⟩ | ⟨rfl, hA, rfl⟩ | ⟨rfl, hA, hB, rfl⟩ | ⟨rfl, hA, hB, hF, h4, rfl⟩
  · have eAb := eA.mp hA
    have eBb := eB.mpr hB
    cases hF : lpf (fvB σ a b d) ne 0 with
    | some j =>
      have hj := lpf_s ne 0 j hF
      have ex : exS σ a b d f ne = up2 σ (120 + j) 3 (if σ (120 + j) 3 < f then f else σ (120 + j) 3) := by
        unfold exS
        rw [hF]
      rw [ex]
      generalize hS : up2 σ (120 + j) 3 (if σ (120 + j) 3 < f then f else σ (120 + j) 3) = S1
      have f49 : S1 149 = σ 149 := by rw [← hS, up2_c (by omega)]
      have f50 : S1 150 = σ 150 := by rw [← hS, up2_c (by omega)]
      have f51 : S1 151 = σ 151 := by rw [← hS, up2_c (by omega)]
      have f40 : S1 140 = σ 140 := by rw [← hS, up2_c (by omega)]
      have eM : mxF S1 a b d ne = some j := by rw [mxF, meB_c f49 f50 f51, ← eF, hF]
      have e3 : mx3 S1 a b d ne = false := by
        rw [mx3, eM]
        show (!decide (0 ≤ nI j) && _) = false
        rw [decide_eq_true (nI_pos' (by omega))]
        rfl
      have e0 : mXc S1 a b d f n ne = up2 (mX0 S1 a b d f n ne) 152 j (if mX0 S1 a b d f n ne 152 j < f then f else mX0 S1 a b d f n ne 152 j) := by
        rw [mXc, if_neg (by rw [eAb, eBb, e3]; decide), eM]
      have e4 : mX0 S1 a b d f n ne 152 j = σ (120 + j) 3 := by
        rw [mX0, up2_f (by omega), ← hS, up2_f (by omega)]
        exact (a4 j 3 (by omega) (by omega)).symm
      rw [e0, e4, mX0, eAb, eBb, e3]
      refine ⟨by rw [f40]; exact aRU.2.1, by rw [f40]; exact a2, by rw [up2_f (by omega), up2_s]; rfl, ?_⟩
      subst hS
      obtain ⟨aPL, ⟨nu, aUN⟩, ⟨_, _, _⟩, ⟨_, _⟩, aOW, ⟨nt, aTO⟩, ⟨N, aTX⟩, aNM⟩ := h
      refine ⟨aPL.f (((FR.r.u (by unfold dPL; omega)).u (by unfold dPL; omega)).u (by unfold dPL; omega)), ⟨nu, aUN.f (((FR.r.u (by unfold dUN; omega)).u (by unfold dUN; omega)).u (by unfold dUN; omega))⟩, ⟨n, nc, aRU.f (((FR.r.u (by unfold dRU; omega)).u (by unfold dRU; omega)).u (by unfold dRU; omega))⟩, ?_, aOW.f (((FR.r.u (by unfold dOW; omega)).u (by unfold dOW; omega)).u (by unfold dOW; omega)), ⟨nt, aTO.f (((FR.r.u (by unfold dTO; omega)).u (by unfold dTO; omega)).u (by unfold dTO; omega))⟩, ⟨N, aTX.f (((FR.r.u (by unfold dTX; omega)).u (by unfold dTX; omega)).u (by unfold dTX; omega))⟩, aNM.f (((FR.r.u (by unfold dNM; omega)).u (by unfold dNM; omega)).u (by unfold dNM; omega))⟩
      refine ⟨ne, ?_, ?_, a3, ?_, ?_, ?_⟩
      · repeat (first | rw [up2_t (by omega)] | rw [up2_f (by omega)])
        exact a1
      · repeat (first | rw [up2_t (by omega)] | rw [up2_f (by omega)])
        exact a2
      · intro j' q hj' hq
        have hq2 : q = 0 ∨ q = 1 ∨ q = 2 ∨ q = 3 := by omega
        by_cases hii : j' = j
        · subst hii
          rcases hq2 with rfl | rfl | rfl | rfl <;> (repeat (first | rw [up2_t (by omega)] | rw [up2_f (by omega)])) <;> exact a4 j' _ hj' (by omega)
        · repeat rw [up2_f (by omega)]
          exact a4 j' q hj' hq
      · intro j' hj'
        repeat rw [up2_f (by omega)]
        exact a5 j' hj'
      · intro i' j' hi' hj'
        repeat rw [up2_f (by omega)]
        exact a6 i' j' hi' hj'
    | none =>
      have hlt : ne < 20 := by
        rcases hC with ⟨j, hj⟩ | h4
        · rw [hF] at hj
          exact absurd hj (by simp)
        · exact lt_nI a1 e20 (by omega) (by omega) h4
      have ey : (up2 (up2 (up2 (up2 σ (120 + ne) 0 a) (120 + ne) 1 b) (120 + ne) 2 d) (120 + ne) 3 f) 0 4 + 1 = nI (ne + 1) := by
        repeat rw [up2_f (by omega)]
        rw [a1, nI_1]
      have ex : exS σ a b d f ne = up2 (up2 (up2 (up2 (up2 σ (120 + ne) 0 a) (120 + ne) 1 b) (120 + ne) 2 d) (120 + ne) 3 f) 0 4 (nI (ne + 1)) := by
        unfold exS
        rw [hF, ← ey]
      rw [ex]
      generalize hS : up2 (up2 (up2 (up2 (up2 σ (120 + ne) 0 a) (120 + ne) 1 b) (120 + ne) 2 d) (120 + ne) 3 f) 0 4 (nI (ne + 1)) = S1
      have fr : ∀ q, 140 ≤ q → S1 q = σ q := fun q hq => by
        rw [← hS, up2_c (by omega), up2_c (by omega), up2_c (by omega), up2_c (by omega), up2_c (by omega)]
      have eM : mxF S1 a b d ne = none := by rw [mxF, meB_c (fr 149 (by omega)) (fr 150 (by omega)) (fr 151 (by omega)), ← eF, hF]
      have e3 : mx3 S1 a b d ne = false := by
        rw [mx3, eM, decide_eq_false (p := nI ne = 20) (by rw [e20, nI_eq (by omega) (by omega)]; omega)]
        exact Bool.and_false _
      have e0 : mXc S1 a b d f n ne = up2 (up2 (up2 (up2 (up2 (mX0 S1 a b d f n ne) 149 ne a) 150 ne b) 151 ne d) 152 ne f) 140 11 (nI (ne + 1)) := by
        rw [mXc, if_neg (by rw [eAb, eBb, e3]; decide), eM]
      rw [e0, mX0, eAb, eBb, e3]
      refine ⟨by rw [fr 140 (by omega)]; exact aRU.2.1, by rw [fr 140 (by omega)]; exact a2, ?_, ?_⟩
      · rw [up2_f (by omega), up2_f (by omega), up2_f (by omega), up2_f (by omega), up2_f (by omega), up2_s]
        rfl
      subst hS
      obtain ⟨aPL, ⟨nu, aUN⟩, ⟨_, _, _⟩, ⟨_, _⟩, aOW, ⟨nt, aTO⟩, ⟨N, aTX⟩, aNM⟩ := h
      refine ⟨aPL.f (((((((((((FR.r.u (by unfold dPL; omega)).u (by unfold dPL; omega)).u (by unfold dPL; omega)).u (by unfold dPL; omega)).u (by unfold dPL; omega)).u (by unfold dPL; omega)).u (by unfold dPL; omega)).u (by unfold dPL; omega)).u (by unfold dPL; omega)).u (by unfold dPL; omega)).u (by unfold dPL; omega)), ⟨nu, aUN.f (((((((((((FR.r.u (by unfold dUN; omega)).u (by unfold dUN; omega)).u (by unfold dUN; omega)).u (by unfold dUN; omega)).u (by unfold dUN; omega)).u (by unfold dUN; omega)).u (by unfold dUN; omega)).u (by unfold dUN; omega)).u (by unfold dUN; omega)).u (by unfold dUN; omega)).u (by unfold dUN; omega))⟩, ⟨n, nc, aRU.f (((((((((((FR.r.u (by unfold dRU; omega)).u (by unfold dRU; omega)).u (by unfold dRU; omega)).u (by unfold dRU; omega)).u (by unfold dRU; omega)).u (by unfold dRU; omega)).u (by unfold dRU; omega)).u (by unfold dRU; omega)).u (by unfold dRU; omega)).u (by unfold dRU; omega)).u (by unfold dRU; omega))⟩, ?_, aOW.f (((((((((((FR.r.u (by unfold dOW; omega)).u (by unfold dOW; omega)).u (by unfold dOW; omega)).u (by unfold dOW; omega)).u (by unfold dOW; omega)).u (by unfold dOW; omega)).u (by unfold dOW; omega)).u (by unfold dOW; omega)).u (by unfold dOW; omega)).u (by unfold dOW; omega)).u (by unfold dOW; omega)), ⟨nt, aTO.f (((((((((((FR.r.u (by unfold dTO; omega)).u (by unfold dTO; omega)).u (by unfold dTO; omega)).u (by unfold dTO; omega)).u (by unfold dTO; omega)).u (by unfold dTO; omega)).u (by unfold dTO; omega)).u (by unfold dTO; omega)).u (by unfold dTO; omega)).u (by unfold dTO; omega)).u (by unfold dTO; omega))⟩, ⟨N, aTX.f (((((((((((FR.r.u (by unfold dTX; omega)).u (by unfold dTX; omega)).u (by unfold dTX; omega)).u (by unfold dTX; omega)).u (by unfold dTX; omega)).u (by unfold dTX; omega)).u (by unfold dTX; omega)).u (by unfold dTX; omega)).u (by unfold dTX; omega)).u (by unfold dTX; omega)).u (by unfold dTX; omega))⟩, aNM.f (((((((((((FR.r.u (by unfold dNM; omega)).u (by unfold dNM; omega)).u (by unfold dNM; omega)).u (by unfold dNM; omega)).u (by unfold dNM; omega)).u (by unfold dNM; omega)).u (by unfold dNM; omega)).u (by unfold dNM; omega)).u (by unfold dNM; omega)).u (by unfold dNM; omega)).u (by unfold dNM; omega))⟩
      have hno : ∀ i, i < ne → ¬ (σ 149 i = a ∧ σ 150 i = b ∧ σ 151 i = d) := fun i hi hh => by
        have h1 := lsf_nn ne (eF.symm.trans hF) i hi
        simp only [meB, hh.1, hh.2.1, hh.2.2, decide_true, Bool.and_true] at h1
        exact absurd h1 (by decide)
      refine ⟨ne + 1, ?_, ?_, by omega, ?_, ?_, ?_⟩
      · repeat (first | rw [up2_t (by omega)] | rw [up2_f (by omega)])
      · repeat (first | rw [up2_t (by omega)] | rw [up2_f (by omega)])
      · intro j' q hj' hq
        have hq2 : q = 0 ∨ q = 1 ∨ q = 2 ∨ q = 3 := by omega
        by_cases hii : j' = ne
        · subst hii
          rcases hq2 with rfl | rfl | rfl | rfl <;> (repeat (first | rw [up2_t (by omega)] | rw [up2_f (by omega)]))
        · repeat rw [up2_f (by omega)]
          exact a4 j' q (by omega) hq
      · intro j' hj'
        by_cases hii : j' = ne
        · subst hii
          refine ⟨?_, ?_⟩ <;> (repeat (first | rw [up2_t (by omega)] | rw [up2_f (by omega)]))
          · exact inB_gwi.mpr hB.1
          · exact inB_gwi.mpr hB.2.1
        · repeat rw [up2_f (by omega)]
          exact a5 j' (by omega)
      · intro i' j' hi' hj'
        by_cases hii : j' = ne
        · subst hii
          repeat (first | rw [up2_t (by omega)] | rw [up2_f (by omega)])
          exact hno i' hi'
        · repeat rw [up2_f (by omega)]
          exact a6 i' j' hi' (by omega)
  · have eAb : inB a 0 (nI n - 1) = false := b_n.mp (fun hh => hA (eA.mpr hh))
    refine ⟨aRU.2.1, a2, ?_, ?_⟩
    · rw [mXc, if_pos (by rw [eAb]; rfl), mX0, up2_s, eAb]
      rfl
    · rw [mXc, if_pos (by rw [eAb]; rfl)]
      exact h.t
  · have eAb := eA.mp hA
    have eBb := nb_t eB hB
    refine ⟨aRU.2.1, a2, ?_, ?_⟩
    · rw [mXc, if_pos (by rw [eAb, eBb]; rfl), mX0, up2_s, eAb, eBb]
      rfl
    · rw [mXc, if_pos (by rw [eAb, eBb]; rfl)]
      exact h.t
  · have eAb := eA.mp hA
    have eBb := eB.mpr hB
    have hne : ne = 20 := by
      have : ¬ ne < 20 := fun hh => h4 (by rw [a1, e20]; exact nI_lt hh (by omega))
      omega
    have e3 : mx3 s1 a b d ne = true := by
      rw [mx3, mxF, ← eF, hF, hne]
      decide
    refine ⟨aRU.2.1, a2, ?_, ?_⟩
    · rw [mXc, if_pos (by rw [eAb, eBb, e3]; rfl), mX0, up2_s, eAb, eBb, e3]
      rfl
    · rw [mXc, if_pos (by rw [eAb, eBb, e3]; rfl)]
      exact h.t
