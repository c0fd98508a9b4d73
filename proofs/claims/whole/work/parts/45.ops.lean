/-! The operations keep the relation and answer alike: those without a question. -/
theorem un_e {nu : Nat} {a x : Int32} (hx : x = nI nu) (hn : nu ≤ 40) : (¬ a < 0 ∧ a < x) ↔ unB nu a = true := by
  constructor
  · intro h
    obtain ⟨u, hu, rfl⟩ := uni_n hx (by omega) h
    exact unB_of (by omega) hu
  · intro h
    obtain ⟨u, hu, rfl⟩ := unB_n (by omega) h
    rw [hx]
    exact ⟨nI_pos (by omega), nI_lt hu (by omega)⟩
theorem b_n {b : Bool} : ¬ b = true ↔ b = false := by cases b <;> simp
theorem nb_t {b : Bool} {P : Prop} (e : b = false ↔ P) (h : ¬ P) : b = true := by
  cases b with
  | false => exact absurd (e.mp rfl) h
  | true => rfl
theorem up2_f {σ : Nat → Nat → Int32} {k j q i : Nat} {v : Int32} (h : ¬ (q = k ∧ i = j)) : up2 σ k j v q i = σ q i := by rw [up2_at, if_neg h]
theorem up2_t {σ : Nat → Nat → Int32} {k j q i : Nat} {v : Int32} (h : q = k ∧ i = j) : up2 σ k j v q i = v := by rw [up2_at, if_pos h]
def hpl (σ : Nat → Nat → Int32) (a b d f z : Int32) (s1 : Nat → Nat → Int32) : Prop := (z = 0 ∧ (gwi a 0 11 ∧ gwi b 1 9999 ∧ gwi d 1 9999 ∧ gwi f 1 9999) ∧ s1 = up2 (up2 (up2 σ (68 + a.toNatClampNeg) 0 b) (68 + a.toNatClampNeg) 1 d) (68 + a.toNatClampNeg) 2 f) ∨ (z = 1 ∧ ¬ (gwi a 0 11 ∧ gwi b 1 9999 ∧ gwi d 1 9999 ∧ gwi f 1 9999) ∧ s1 = σ)
theorem r_place {σ s1 : Nat → Nat → Int32} {a b d f z : Int32} (h : RR σ) (hp : hpl σ a b d f z s1) : mPl s1 a b d f 140 0 = z ∧ RR (mPl s1 a b d f) := by
  have e : bdP a b d f = false ↔ (gwi a 0 11 ∧ gwi b 1 9999 ∧ gwi d 1 9999 ∧ gwi f 1 9999) := by
    simp only [bdP, szB, Bool.or_eq_false_iff, Bool.not_eq_false', Bool.and_eq_true, inB_gwi, and_assoc]
  rcases hp with ⟨rfl, hP, rfl⟩ | ⟨rfl, hP, rfl⟩
  · rw [mPl, if_neg (by rw [e.mpr hP]; decide)]
    obtain ⟨i, hi, rfl⟩ := gwi_n (M := 11) (n := 11) rfl hP.1
    rw [nI_clamp (by omega)]
    refine ⟨by rw [up2_k (by decide), up2_k (by decide), up2_k (by decide), up2_s], ?_⟩
    obtain ⟨aPL, ⟨nu, aUN⟩, ⟨n, nc, aRU⟩, ⟨ne, aEX⟩, aOW, ⟨nt, aTO⟩, ⟨N, aTX⟩, aNM⟩ := h
    refine ⟨?_, ⟨nu, aUN.f (((((((FR.r.u (by unfold dUN; omega)).u (by unfold dUN; omega)).u (by unfold dUN; omega)).u (by unfold dUN; omega)).u (by unfold dUN; omega)).u (by unfold dUN; omega)).u (by unfold dUN; omega))⟩, ⟨n, nc, aRU.f (((((((FR.r.u (by unfold dRU; omega)).u (by unfold dRU; omega)).u (by unfold dRU; omega)).u (by unfold dRU; omega)).u (by unfold dRU; omega)).u (by unfold dRU; omega)).u (by unfold dRU; omega))⟩, ⟨ne, aEX.f (((((((FR.r.u (by unfold dEX; omega)).u (by unfold dEX; omega)).u (by unfold dEX; omega)).u (by unfold dEX; omega)).u (by unfold dEX; omega)).u (by unfold dEX; omega)).u (by unfold dEX; omega))⟩, aOW.f (((((((FR.r.u (by unfold dOW; omega)).u (by unfold dOW; omega)).u (by unfold dOW; omega)).u (by unfold dOW; omega)).u (by unfold dOW; omega)).u (by unfold dOW; omega)).u (by unfold dOW; omega)), ⟨nt, aTO.f (((((((FR.r.u (by unfold dTO; omega)).u (by unfold dTO; omega)).u (by unfold dTO; omega)).u (by unfold dTO; omega)).u (by unfold dTO; omega)).u (by unfold dTO; omega)).u (by unfold dTO; omega))⟩, ⟨N, aTX.f (((((((FR.r.u (by unfold dTX; omega)).u (by unfold dTX; omega)).u (by unfold dTX; omega)).u (by unfold dTX; omega)).u (by unfold dTX; omega)).u (by unfold dTX; omega)).u (by unfold dTX; omega))⟩, aNM.f (((((((FR.r.u (by unfold dNM; omega)).u (by unfold dNM; omega)).u (by unfold dNM; omega)).u (by unfold dNM; omega)).u (by unfold dNM; omega)).u (by unfold dNM; omega)).u (by unfold dNM; omega))⟩
    intro i' j' hi' hj'
    have hj : j' = 0 ∨ j' = 1 ∨ j' = 2 ∨ j' = 3 ∨ j' = 4 := by omega
    by_cases hii : i' = i
    · subst hii
      rcases hj with rfl | rfl | rfl | rfl | rfl <;> (repeat (first | rw [up2_t (by omega)] | rw [up2_f (by omega)]))
      · exact aPL i' 3 hi' (by omega)
      · exact aPL i' 4 hi' (by omega)
    · repeat rw [up2_f (by omega)]
      exact aPL i' j' hi' hj'
  · rw [mPl, if_pos (nb_t e hP)]
    exact ⟨up2_s, h.t⟩
def hli (σ : Nat → Nat → Int32) (a b d z : Int32) (s1 : Nat → Nat → Int32) : Prop := (z = 0 ∧ (gwi a 0 11 ∧ gwi b 0 10000000 ∧ gwi d 0 7) ∧ s1 = up2 (up2 σ (68 + a.toNatClampNeg) 3 b) (68 + a.toNatClampNeg) 4 d) ∨ (z = 1 ∧ ¬ (gwi a 0 11 ∧ gwi b 0 10000000 ∧ gwi d 0 7) ∧ s1 = σ)
theorem r_limit {σ s1 : Nat → Nat → Int32} {a b d z : Int32} (h : RR σ) (hp : hli σ a b d z s1) : mLi s1 a b d 140 0 = z ∧ RR (mLi s1 a b d) := by
  have e : bdL a b d = false ↔ (gwi a 0 11 ∧ gwi b 0 10000000 ∧ gwi d 0 7) := by
    simp only [bdL, Bool.or_eq_false_iff, Bool.not_eq_false', inB_gwi, and_assoc]
  rcases hp with ⟨rfl, hP, rfl⟩ | ⟨rfl, hP, rfl⟩
  · rw [mLi, if_neg (by rw [e.mpr hP]; decide), e.mpr hP]
    obtain ⟨i, hi, rfl⟩ := gwi_n (M := 11) (n := 11) rfl hP.1
    rw [nI_clamp (by omega)]
    refine ⟨by rw [up2_k (by decide), up2_k (by decide), up2_s]; rfl, ?_⟩
    obtain ⟨aPL, ⟨nu, aUN⟩, ⟨n, nc, aRU⟩, ⟨ne, aEX⟩, aOW, ⟨nt, aTO⟩, ⟨N, aTX⟩, aNM⟩ := h
    refine ⟨?_, ⟨nu, aUN.f (((((FR.r.u (by unfold dUN; omega)).u (by unfold dUN; omega)).u (by unfold dUN; omega)).u (by unfold dUN; omega)).u (by unfold dUN; omega))⟩, ⟨n, nc, aRU.f (((((FR.r.u (by unfold dRU; omega)).u (by unfold dRU; omega)).u (by unfold dRU; omega)).u (by unfold dRU; omega)).u (by unfold dRU; omega))⟩, ⟨ne, aEX.f (((((FR.r.u (by unfold dEX; omega)).u (by unfold dEX; omega)).u (by unfold dEX; omega)).u (by unfold dEX; omega)).u (by unfold dEX; omega))⟩, aOW.f (((((FR.r.u (by unfold dOW; omega)).u (by unfold dOW; omega)).u (by unfold dOW; omega)).u (by unfold dOW; omega)).u (by unfold dOW; omega)), ⟨nt, aTO.f (((((FR.r.u (by unfold dTO; omega)).u (by unfold dTO; omega)).u (by unfold dTO; omega)).u (by unfold dTO; omega)).u (by unfold dTO; omega))⟩, ⟨N, aTX.f (((((FR.r.u (by unfold dTX; omega)).u (by unfold dTX; omega)).u (by unfold dTX; omega)).u (by unfold dTX; omega)).u (by unfold dTX; omega))⟩, aNM.f (((((FR.r.u (by unfold dNM; omega)).u (by unfold dNM; omega)).u (by unfold dNM; omega)).u (by unfold dNM; omega)).u (by unfold dNM; omega))⟩
    intro i' j' hi' hj'
    have hj : j' = 0 ∨ j' = 1 ∨ j' = 2 ∨ j' = 3 ∨ j' = 4 := by omega
    by_cases hii : i' = i
    · subst hii
      rcases hj with rfl | rfl | rfl | rfl | rfl <;> (repeat (first | rw [up2_t (by omega)] | rw [up2_f (by omega)]))
      · exact aPL i' 0 hi' (by omega)
      · exact aPL i' 1 hi' (by omega)
      · exact aPL i' 2 hi' (by omega)
    · repeat rw [up2_f (by omega)]
      exact aPL i' j' hi' hj'
  · rw [mLi, if_pos (nb_t e hP), nb_t e hP]
    exact ⟨up2_s, h.t⟩
def hun (σ : Nat → Nat → Int32) (nu : Nat) (a b d z x : Int32) (s1 : Nat → Nat → Int32) : Prop := (z = 0 ∧ x = s1 0 2 - 1 ∧ (gwi a 0 99 ∧ gwi b 0 99 ∧ gwi d 0 7) ∧ σ 0 2 < 40 ∧ s1 = up2 (up2 (up2 (up2 σ (80 + nu) 0 a) (80 + nu) 1 b) (80 + nu) 2 d) 0 2 ((up2 (up2 (up2 σ (80 + nu) 0 a) (80 + nu) 1 b) (80 + nu) 2 d) 0 2 + 1)) ∨ (z = 1 ∧ ¬ (gwi a 0 99 ∧ gwi b 0 99 ∧ gwi d 0 7) ∧ s1 = σ) ∨ (z = 2 ∧ (gwi a 0 99 ∧ gwi b 0 99 ∧ gwi d 0 7) ∧ ¬ σ 0 2 < 40 ∧ s1 = σ)
theorem r_unit {σ s1 : Nat → Nat → Int32} {nu : Nat} {a b d z x : Int32} (h : RR σ) (aUN : rUN σ nu) (hp : hun σ nu a b d z x s1) : s1 140 2 = nI nu ∧ mUn s1 a b d nu 140 0 = z ∧ RR (mUn s1 a b d nu) ∧ (z = 0 → x = if (bdU a b d || decide (nI nu = 40)) = true then 0 else nI nu) := by
  have e : bdU a b d = false ↔ (gwi a 0 99 ∧ gwi b 0 99 ∧ gwi d 0 7) := by
    simp only [bdU, Bool.or_eq_false_iff, Bool.not_eq_false', inB_gwi, and_assoc]
  have hn4 := aUN.2.2.1
  have e40 : (40 : Int32) = nI 40 := rfl
  rcases hp with ⟨rfl, rfl, hP, h4, rfl⟩ | ⟨rfl, hP, rfl⟩ | ⟨rfl, hP, h4, rfl⟩
  · have hlt : nu < 40 := lt_nI aUN.1 e40 (by omega) (by omega) h4
    have e0 : decide (nI nu = 40) = false := decide_eq_false (by rw [e40, nI_eq (by omega) (by omega)]; omega)
    have eb := e.mpr hP
    have ex : (up2 (up2 (up2 σ (80 + nu) 0 a) (80 + nu) 1 b) (80 + nu) 2 d) 0 2 + 1 = nI (nu + 1) := by
      rw [up2_f (by omega), up2_f (by omega), up2_f (by omega), aUN.1, nI_1]
    rw [ex]
    refine ⟨by rw [up2_f (by omega), up2_f (by omega), up2_f (by omega), up2_f (by omega)]; exact aUN.2.1, ?_, ?_, ?_⟩
    · rw [mUn, if_neg (by rw [eb, e0]; decide), eb, e0]
      unfold lyS
      repeat (first | rw [up2_t (by omega)] | rw [up2_f (by omega)])
      rfl
    · rw [mUn, if_neg (by rw [eb, e0]; decide), eb, e0]
      unfold lyS
      obtain ⟨aPL, ⟨_, _⟩, ⟨n, nc, aRU⟩, ⟨ne, aEX⟩, aOW, ⟨nt, aTO⟩, ⟨N, aTX⟩, aNM⟩ := h
      refine ⟨aPL.f (((((((((((((((((FR.r.u (by unfold dPL; omega)).u (by unfold dPL; omega)).u (by unfold dPL; omega)).u (by unfold dPL; omega)).u (by unfold dPL; omega)).u (by unfold dPL; omega)).u (by unfold dPL; omega)).u (by unfold dPL; omega)).u (by unfold dPL; omega)).u (by unfold dPL; omega)).u (by unfold dPL; omega)).u (by unfold dPL; omega)).u (by unfold dPL; omega)).u (by unfold dPL; omega)).u (by unfold dPL; omega)).u (by unfold dPL; omega)).u (by unfold dPL; omega)), ?_, ⟨n, nc, aRU.f (((((((((((((((((FR.r.u (by unfold dRU; omega)).u (by unfold dRU; omega)).u (by unfold dRU; omega)).u (by unfold dRU; omega)).u (by unfold dRU; omega)).u (by unfold dRU; omega)).u (by unfold dRU; omega)).u (by unfold dRU; omega)).u (by unfold dRU; omega)).u (by unfold dRU; omega)).u (by unfold dRU; omega)).u (by unfold dRU; omega)).u (by unfold dRU; omega)).u (by unfold dRU; omega)).u (by unfold dRU; omega)).u (by unfold dRU; omega)).u (by unfold dRU; omega))⟩, ⟨ne, aEX.f (((((((((((((((((FR.r.u (by unfold dEX; omega)).u (by unfold dEX; omega)).u (by unfold dEX; omega)).u (by unfold dEX; omega)).u (by unfold dEX; omega)).u (by unfold dEX; omega)).u (by unfold dEX; omega)).u (by unfold dEX; omega)).u (by unfold dEX; omega)).u (by unfold dEX; omega)).u (by unfold dEX; omega)).u (by unfold dEX; omega)).u (by unfold dEX; omega)).u (by unfold dEX; omega)).u (by unfold dEX; omega)).u (by unfold dEX; omega)).u (by unfold dEX; omega))⟩, aOW.f (((((((((((((((((FR.r.u (by unfold dOW; omega)).u (by unfold dOW; omega)).u (by unfold dOW; omega)).u (by unfold dOW; omega)).u (by unfold dOW; omega)).u (by unfold dOW; omega)).u (by unfold dOW; omega)).u (by unfold dOW; omega)).u (by unfold dOW; omega)).u (by unfold dOW; omega)).u (by unfold dOW; omega)).u (by unfold dOW; omega)).u (by unfold dOW; omega)).u (by unfold dOW; omega)).u (by unfold dOW; omega)).u (by unfold dOW; omega)).u (by unfold dOW; omega)), ⟨nt, aTO.f (((((((((((((((((FR.r.u (by unfold dTO; omega)).u (by unfold dTO; omega)).u (by unfold dTO; omega)).u (by unfold dTO; omega)).u (by unfold dTO; omega)).u (by unfold dTO; omega)).u (by unfold dTO; omega)).u (by unfold dTO; omega)).u (by unfold dTO; omega)).u (by unfold dTO; omega)).u (by unfold dTO; omega)).u (by unfold dTO; omega)).u (by unfold dTO; omega)).u (by unfold dTO; omega)).u (by unfold dTO; omega)).u (by unfold dTO; omega)).u (by unfold dTO; omega))⟩, ⟨N, aTX.f (((((((((((((((((FR.r.u (by unfold dTX; omega)).u (by unfold dTX; omega)).u (by unfold dTX; omega)).u (by unfold dTX; omega)).u (by unfold dTX; omega)).u (by unfold dTX; omega)).u (by unfold dTX; omega)).u (by unfold dTX; omega)).u (by unfold dTX; omega)).u (by unfold dTX; omega)).u (by unfold dTX; omega)).u (by unfold dTX; omega)).u (by unfold dTX; omega)).u (by unfold dTX; omega)).u (by unfold dTX; omega)).u (by unfold dTX; omega)).u (by unfold dTX; omega))⟩, aNM.f (((((((((((((((((FR.r.u (by unfold dNM; omega)).u (by unfold dNM; omega)).u (by unfold dNM; omega)).u (by unfold dNM; omega)).u (by unfold dNM; omega)).u (by unfold dNM; omega)).u (by unfold dNM; omega)).u (by unfold dNM; omega)).u (by unfold dNM; omega)).u (by unfold dNM; omega)).u (by unfold dNM; omega)).u (by unfold dNM; omega)).u (by unfold dNM; omega)).u (by unfold dNM; omega)).u (by unfold dNM; omega)).u (by unfold dNM; omega)).u (by unfold dNM; omega))⟩
      obtain ⟨a1, a2, a3, a4, a5, a6, a7, a8⟩ := aUN
      refine ⟨nu + 1, ?_, ?_, by omega, ?_, ?_, ?_, ?_, ?_⟩
      · repeat (first | rw [up2_t (by omega)] | rw [up2_f (by omega)])
      · repeat (first | rw [up2_t (by omega)] | rw [up2_f (by omega)])
      · intro u' j' hu' hj'
        have hj : j' = 0 ∨ j' = 1 ∨ j' = 2 ∨ j' = 3 ∨ j' = 4 ∨ j' = 5 ∨ j' = 6 ∨ j' = 7 ∨ j' = 8 ∨ j' = 9 := by omega
        by_cases hii : u' = nu
        · subst hii
          obtain ⟨b3, b4, b5, b6, b7, b8, b9, b10⟩ := a8 u' (by omega) hlt
          rcases hj with rfl | rfl | rfl | rfl | rfl | rfl | rfl | rfl | rfl | rfl <;> (repeat (first | rw [up2_t (by omega)] | rw [up2_f (by omega)])) <;> assumption
        · repeat rw [up2_f (by omega)]
          exact a4 u' j' (by omega) hj'
      · intro u' hu'
        by_cases hii : u' = nu
        · subst hii
          repeat (first | rw [up2_t (by omega)] | rw [up2_f (by omega)])
          exact (a8 u' (by omega) hlt).2.2.2.2.2.2.2
        · repeat rw [up2_f (by omega)]
          exact a5 u' (by omega)
      · intro u' hu'
        by_cases hii : u' = nu
        · subst hii
          repeat (first | rw [up2_t (by omega)] | rw [up2_f (by omega)])
          decide
        · repeat rw [up2_f (by omega)]
          exact a6 u' (by omega)
      · intro u' hu'
        unfold rUR
        by_cases hii : u' = nu
        · subst hii
          refine ⟨?_, ?_, ?_, ?_⟩ <;> (repeat (first | rw [up2_t (by omega)] | rw [up2_f (by omega)]))
          · exact inB_gwi.mpr hP.1
          · exact inB_gwi.mpr hP.2.1
          · exact inB_gwi.mpr hP.2.2
          · decide
        · have := a7 u' (by omega)
          unfold rUR at this
          refine ⟨?_, ?_, ?_, ?_⟩ <;> (repeat rw [up2_f (by omega)])
          · exact this.1
          · exact this.2.1
          · exact this.2.2.1
          · exact this.2.2.2
      · intro u' hu' h40
        have := a8 u' (by omega) h40
        unfold rFU at *
        refine ⟨?_, ?_, ?_, ?_, ?_, ?_, ?_, ?_⟩ <;> (repeat rw [up2_f (by omega)])
        · exact this.1
        · exact this.2.1
        · exact this.2.2.1
        · exact this.2.2.2.1
        · exact this.2.2.2.2.1
        · exact this.2.2.2.2.2.1
        · exact this.2.2.2.2.2.2.1
        · exact this.2.2.2.2.2.2.2
    · intro _
      rw [up2_s, eb, e0, if_neg (by decide)]
      exact nI_pred nu
  · have eb := nb_t e hP
    refine ⟨aUN.2.1, ?_, ?_, fun h => absurd h (by decide)⟩
    · rw [mUn, if_pos (by rw [eb]; rfl), up2_s, eb]
      rfl
    · rw [mUn, if_pos (by rw [eb]; rfl)]
      exact h.t
  · have eb := e.mpr hP
    have hnu : nu = 40 := by
      have : ¬ nu < 40 := fun hh => h4 (by rw [aUN.1, e40]; exact nI_lt hh (by omega))
      omega
    have e0 : decide (nI nu = 40) = true := decide_eq_true (by rw [hnu, e40])
    refine ⟨aUN.2.1, ?_, ?_, fun h => absurd h (by decide)⟩
    · rw [mUn, if_pos (by rw [e0, Bool.or_true]), up2_s, eb, e0]
      rfl
    · rw [mUn, if_pos (by rw [e0, Bool.or_true])]
      exact h.t
theorem st_m {x : Int32} (h : inB x (-1) 11 = true) : x < 0 ↔ x = (-1) := by
  have h1 := (inB_gwi.mp h).1
  constructor
  · intro h2
    apply Int32.toInt_inj.mp
    rw [Int32.lt_iff_toInt_lt] at h1 h2
    have e1 : (-1 : Int32).toInt = -1 := by decide
    have e0 : (0 : Int32).toInt = 0 := by decide
    omega
  · rintro rfl
    decide
def hsz (σ : Nat → Nat → Int32) (a b d f g z : Int32) (s1 : Nat → Nat → Int32) : Prop := (z = 0 ∧ (¬ a < 0 ∧ a < σ 0 2) ∧ (gwi b 1 9999 ∧ gwi d 1 9999 ∧ gwi f 1 9999 ∧ gwi g 1 1000000) ∧ σ (80 + a.toNatClampNeg) 10 = (-1) ∧ s1 = up2 (up2 (up2 (up2 σ (80 + a.toNatClampNeg) 3 b) (80 + a.toNatClampNeg) 4 d) (80 + a.toNatClampNeg) 5 f) (80 + a.toNatClampNeg) 6 g) ∨ (z = 1 ∧ ¬ (¬ a < 0 ∧ a < σ 0 2) ∧ s1 = σ) ∨ (z = 2 ∧ (¬ a < 0 ∧ a < σ 0 2) ∧ ¬ (gwi b 1 9999 ∧ gwi d 1 9999 ∧ gwi f 1 9999 ∧ gwi g 1 1000000) ∧ s1 = σ) ∨ (z = 3 ∧ (¬ a < 0 ∧ a < σ 0 2) ∧ (gwi b 1 9999 ∧ gwi d 1 9999 ∧ gwi f 1 9999 ∧ gwi g 1 1000000) ∧ ¬ σ (80 + a.toNatClampNeg) 10 = (-1) ∧ s1 = σ)
theorem r_size {σ s1 : Nat → Nat → Int32} {nu : Nat} {a b d f g z : Int32} (h : RR σ) (aUN : rUN σ nu) (hp : hsz σ a b d f g z s1) : s1 140 2 = nI nu ∧ mSz s1 nu a b d f g 140 0 = z ∧ RR (mSz s1 nu a b d f g) := by
  have e : bdS b d f g = false ↔ (gwi b 1 9999 ∧ gwi d 1 9999 ∧ gwi f 1 9999 ∧ gwi g 1 1000000) := by
    simp only [bdS, szB, Bool.or_eq_false_iff, Bool.not_eq_false', Bool.and_eq_true, inB_gwi, and_assoc]
  have hn4 := aUN.2.2.1
  have eu : (¬ a < 0 ∧ a < σ 0 2) ↔ unB nu a = true := un_e aUN.1 hn4
  rcases hp with ⟨rfl, hU, hP, h10, rfl⟩ | ⟨rfl, hU, rfl⟩ | ⟨rfl, hU, hP, rfl⟩ | ⟨rfl, hU, hP, h10, rfl⟩
  · have eub := eu.mp hU
    have eb := e.mpr hP
    obtain ⟨u, hu, rfl⟩ := unB_n (by omega) eub
    rw [nI_clamp (by omega)] at *
    have es : sdB (up2 (up2 (up2 (up2 σ (80 + u) 3 b) (80 + u) 4 d) (80 + u) 5 f) (80 + u) 6 g) nu (nI u) = false := by
      unfold sdB
      rw [nI_clamp (by omega)]
      repeat rw [up2_f (by omega)]
      have h6 := aUN.2.2.2.2.2.1 u hu
      have h5 := aUN.2.2.2.2.1 u hu
      rw [h10] at h5
      rw [eub, ← h5]
      decide
    refine ⟨by repeat rw [up2_f (by omega)]
               exact aUN.2.1, ?_, ?_⟩
    · rw [mSz, if_neg (by rw [eub, eb, es]; decide), eub, eb, es, nI_clamp (by omega)]
      unfold lyS
      repeat (first | rw [up2_t (by omega)] | rw [up2_f (by omega)])
      rfl
    · rw [mSz, if_neg (by rw [eub, eb, es]; decide), eub, eb, es, nI_clamp (by omega)]
      unfold lyS
      obtain ⟨aPL, ⟨_, _⟩, ⟨n, nc, aRU⟩, ⟨ne, aEX⟩, aOW, ⟨nt, aTO⟩, ⟨N, aTX⟩, aNM⟩ := h
      refine ⟨aPL.f (((((((((FR.r.u (by unfold dPL; omega)).u (by unfold dPL; omega)).u (by unfold dPL; omega)).u (by unfold dPL; omega)).u (by unfold dPL; omega)).u (by unfold dPL; omega)).u (by unfold dPL; omega)).u (by unfold dPL; omega)).u (by unfold dPL; omega)), ?_, ⟨n, nc, aRU.f (((((((((FR.r.u (by unfold dRU; omega)).u (by unfold dRU; omega)).u (by unfold dRU; omega)).u (by unfold dRU; omega)).u (by unfold dRU; omega)).u (by unfold dRU; omega)).u (by unfold dRU; omega)).u (by unfold dRU; omega)).u (by unfold dRU; omega))⟩, ⟨ne, aEX.f (((((((((FR.r.u (by unfold dEX; omega)).u (by unfold dEX; omega)).u (by unfold dEX; omega)).u (by unfold dEX; omega)).u (by unfold dEX; omega)).u (by unfold dEX; omega)).u (by unfold dEX; omega)).u (by unfold dEX; omega)).u (by unfold dEX; omega))⟩, aOW.f (((((((((FR.r.u (by unfold dOW; omega)).u (by unfold dOW; omega)).u (by unfold dOW; omega)).u (by unfold dOW; omega)).u (by unfold dOW; omega)).u (by unfold dOW; omega)).u (by unfold dOW; omega)).u (by unfold dOW; omega)).u (by unfold dOW; omega)), ⟨nt, aTO.f (((((((((FR.r.u (by unfold dTO; omega)).u (by unfold dTO; omega)).u (by unfold dTO; omega)).u (by unfold dTO; omega)).u (by unfold dTO; omega)).u (by unfold dTO; omega)).u (by unfold dTO; omega)).u (by unfold dTO; omega)).u (by unfold dTO; omega))⟩, ⟨N, aTX.f (((((((((FR.r.u (by unfold dTX; omega)).u (by unfold dTX; omega)).u (by unfold dTX; omega)).u (by unfold dTX; omega)).u (by unfold dTX; omega)).u (by unfold dTX; omega)).u (by unfold dTX; omega)).u (by unfold dTX; omega)).u (by unfold dTX; omega))⟩, aNM.f (((((((((FR.r.u (by unfold dNM; omega)).u (by unfold dNM; omega)).u (by unfold dNM; omega)).u (by unfold dNM; omega)).u (by unfold dNM; omega)).u (by unfold dNM; omega)).u (by unfold dNM; omega)).u (by unfold dNM; omega)).u (by unfold dNM; omega))⟩
      obtain ⟨a1, a2, a3, a4, a5, a6, a7, a8⟩ := aUN
      refine ⟨nu, ?_, ?_, a3, ?_, ?_, ?_, ?_, ?_⟩
      · repeat (first | rw [up2_t (by omega)] | rw [up2_f (by omega)])
        exact a1
      · repeat (first | rw [up2_t (by omega)] | rw [up2_f (by omega)])
        exact a2
      · intro u' j' hu' hj'
        have hj : j' = 0 ∨ j' = 1 ∨ j' = 2 ∨ j' = 3 ∨ j' = 4 ∨ j' = 5 ∨ j' = 6 ∨ j' = 7 ∨ j' = 8 ∨ j' = 9 := by omega
        by_cases hii : u' = u
        · subst hii
          rcases hj with rfl | rfl | rfl | rfl | rfl | rfl | rfl | rfl | rfl | rfl <;> (repeat (first | rw [up2_t (by omega)] | rw [up2_f (by omega)])) <;> exact a4 u' _ hu' (by omega)
        · repeat rw [up2_f (by omega)]
          exact a4 u' j' (by omega) hj'
      · intro u' hu'
        repeat rw [up2_f (by omega)]
        exact a5 u' (by omega)
      · intro u' hu'
        repeat rw [up2_f (by omega)]
        exact a6 u' (by omega)
      · intro u' hu'
        have := a7 u' (by omega)
        unfold rUR at *
        refine ⟨?_, ?_, ?_, ?_⟩
        · repeat rw [up2_f (by omega)]
          exact this.1
        · repeat rw [up2_f (by omega)]
          exact this.2.1
        · repeat rw [up2_f (by omega)]
          exact this.2.2.1
        · repeat rw [up2_f (by omega)]
          exact this.2.2.2
      · intro u' hu' h40
        have := a8 u' (by omega) h40
        unfold rFU at *
        refine ⟨?_, ?_, ?_, ?_, ?_, ?_, ?_, ?_⟩ <;> (repeat rw [up2_f (by omega)])
        · exact this.1
        · exact this.2.1
        · exact this.2.2.1
        · exact this.2.2.2.1
        · exact this.2.2.2.2.1
        · exact this.2.2.2.2.2.1
        · exact this.2.2.2.2.2.2.1
        · exact this.2.2.2.2.2.2.2
  · have eub : unB nu a = false := b_n.mp (fun hh => hU (eu.mpr hh))
    refine ⟨aUN.2.1, ?_, ?_⟩
    · rw [mSz, if_pos (by rw [eub]; rfl), up2_s, eub]
      rfl
    · rw [mSz, if_pos (by rw [eub]; rfl)]
      exact h.t
  · have eub := eu.mp hU
    have eb := nb_t e hP
    refine ⟨aUN.2.1, ?_, ?_⟩
    · rw [mSz, if_pos (by rw [eub, eb]; rfl), up2_s, eub, eb]
      rfl
    · rw [mSz, if_pos (by rw [eub, eb]; rfl)]
      exact h.t
  · have eub := eu.mp hU
    have eb := e.mpr hP
    have es : sdB s1 nu a = true := by
      unfold sdB
      rw [eub]
      obtain ⟨u, hu, rfl⟩ := unB_n (by omega) eub
      rw [nI_clamp (by omega)] at *
      have h6 := st_m (aUN.2.2.2.2.2.1 u hu)
      have h5 := aUN.2.2.2.2.1 u hu
      rw [h5] at h10
      rw [decide_eq_false (fun hh => h10 (h6.mp hh))]
      rfl
    refine ⟨aUN.2.1, ?_, ?_⟩
    · rw [mSz, if_pos (by rw [eub, eb, es]; rfl), up2_s, eub, eb, es]
      rfl
    · rw [mSz, if_pos (by rw [eub, eb, es]; rfl)]
      exact h.t
def hnt (σ : Nat → Nat → Int32) (a b d f z : Int32) (s1 : Nat → Nat → Int32) : Prop := (z = 0 ∧ (¬ a < 0 ∧ a < σ 0 2) ∧ (gwi b 0 7 ∧ gwi d 0 7 ∧ gwi f 0 1000) ∧ σ (80 + a.toNatClampNeg) 10 = (-1) ∧ s1 = up2 (up2 (up2 σ (80 + a.toNatClampNeg) 7 b) (80 + a.toNatClampNeg) 8 d) (80 + a.toNatClampNeg) 9 f) ∨ (z = 1 ∧ ¬ (¬ a < 0 ∧ a < σ 0 2) ∧ s1 = σ) ∨ (z = 2 ∧ (¬ a < 0 ∧ a < σ 0 2) ∧ ¬ (gwi b 0 7 ∧ gwi d 0 7 ∧ gwi f 0 1000) ∧ s1 = σ) ∨ (z = 3 ∧ (¬ a < 0 ∧ a < σ 0 2) ∧ (gwi b 0 7 ∧ gwi d 0 7 ∧ gwi f 0 1000) ∧ ¬ σ (80 + a.toNatClampNeg) 10 = (-1) ∧ s1 = σ)
theorem r_nature {σ s1 : Nat → Nat → Int32} {nu : Nat} {a b d f z : Int32} (h : RR σ) (aUN : rUN σ nu) (hp : hnt σ a b d f z s1) : s1 140 2 = nI nu ∧ mNt s1 nu a b d f 140 0 = z ∧ RR (mNt s1 nu a b d f) := by
  have e : bdN b d f = false ↔ (gwi b 0 7 ∧ gwi d 0 7 ∧ gwi f 0 1000) := by
    simp only [bdN, Bool.or_eq_false_iff, Bool.not_eq_false', Bool.and_eq_true, inB_gwi, and_assoc]
  have hn4 := aUN.2.2.1
  have eu : (¬ a < 0 ∧ a < σ 0 2) ↔ unB nu a = true := un_e aUN.1 hn4
  rcases hp with ⟨rfl, hU, hP, h10, rfl⟩ | ⟨rfl, hU, rfl⟩ | ⟨rfl, hU, hP, rfl⟩ | ⟨rfl, hU, hP, h10, rfl⟩
  · have eub := eu.mp hU
    have eb := e.mpr hP
    obtain ⟨u, hu, rfl⟩ := unB_n (by omega) eub
    rw [nI_clamp (by omega)] at *
    have es : sdB (up2 (up2 (up2 σ (80 + u) 7 b) (80 + u) 8 d) (80 + u) 9 f) nu (nI u) = false := by
      unfold sdB
      rw [nI_clamp (by omega)]
      repeat rw [up2_f (by omega)]
      have h6 := aUN.2.2.2.2.2.1 u hu
      have h5 := aUN.2.2.2.2.1 u hu
      rw [h10] at h5
      rw [eub, ← h5]
      decide
    refine ⟨by repeat rw [up2_f (by omega)]
               exact aUN.2.1, ?_, ?_⟩
    · rw [mNt, if_neg (by rw [eub, eb, es]; decide), eub, eb, es, nI_clamp (by omega)]
      unfold lyS
      repeat (first | rw [up2_t (by omega)] | rw [up2_f (by omega)])
      rfl
    · rw [mNt, if_neg (by rw [eub, eb, es]; decide), eub, eb, es, nI_clamp (by omega)]
      unfold lyS
      obtain ⟨aPL, ⟨_, _⟩, ⟨n, nc, aRU⟩, ⟨ne, aEX⟩, aOW, ⟨nt, aTO⟩, ⟨N, aTX⟩, aNM⟩ := h
      refine ⟨aPL.f (((((((FR.r.u (by unfold dPL; omega)).u (by unfold dPL; omega)).u (by unfold dPL; omega)).u (by unfold dPL; omega)).u (by unfold dPL; omega)).u (by unfold dPL; omega)).u (by unfold dPL; omega)), ?_, ⟨n, nc, aRU.f (((((((FR.r.u (by unfold dRU; omega)).u (by unfold dRU; omega)).u (by unfold dRU; omega)).u (by unfold dRU; omega)).u (by unfold dRU; omega)).u (by unfold dRU; omega)).u (by unfold dRU; omega))⟩, ⟨ne, aEX.f (((((((FR.r.u (by unfold dEX; omega)).u (by unfold dEX; omega)).u (by unfold dEX; omega)).u (by unfold dEX; omega)).u (by unfold dEX; omega)).u (by unfold dEX; omega)).u (by unfold dEX; omega))⟩, aOW.f (((((((FR.r.u (by unfold dOW; omega)).u (by unfold dOW; omega)).u (by unfold dOW; omega)).u (by unfold dOW; omega)).u (by unfold dOW; omega)).u (by unfold dOW; omega)).u (by unfold dOW; omega)), ⟨nt, aTO.f (((((((FR.r.u (by unfold dTO; omega)).u (by unfold dTO; omega)).u (by unfold dTO; omega)).u (by unfold dTO; omega)).u (by unfold dTO; omega)).u (by unfold dTO; omega)).u (by unfold dTO; omega))⟩, ⟨N, aTX.f (((((((FR.r.u (by unfold dTX; omega)).u (by unfold dTX; omega)).u (by unfold dTX; omega)).u (by unfold dTX; omega)).u (by unfold dTX; omega)).u (by unfold dTX; omega)).u (by unfold dTX; omega))⟩, aNM.f (((((((FR.r.u (by unfold dNM; omega)).u (by unfold dNM; omega)).u (by unfold dNM; omega)).u (by unfold dNM; omega)).u (by unfold dNM; omega)).u (by unfold dNM; omega)).u (by unfold dNM; omega))⟩
      obtain ⟨a1, a2, a3, a4, a5, a6, a7, a8⟩ := aUN
      refine ⟨nu, ?_, ?_, a3, ?_, ?_, ?_, ?_, ?_⟩
      · repeat (first | rw [up2_t (by omega)] | rw [up2_f (by omega)])
        exact a1
      · repeat (first | rw [up2_t (by omega)] | rw [up2_f (by omega)])
        exact a2
      · intro u' j' hu' hj'
        have hj : j' = 0 ∨ j' = 1 ∨ j' = 2 ∨ j' = 3 ∨ j' = 4 ∨ j' = 5 ∨ j' = 6 ∨ j' = 7 ∨ j' = 8 ∨ j' = 9 := by omega
        by_cases hii : u' = u
        · subst hii
          rcases hj with rfl | rfl | rfl | rfl | rfl | rfl | rfl | rfl | rfl | rfl <;> (repeat (first | rw [up2_t (by omega)] | rw [up2_f (by omega)])) <;> exact a4 u' _ hu' (by omega)
        · repeat rw [up2_f (by omega)]
          exact a4 u' j' (by omega) hj'
      · intro u' hu'
        repeat rw [up2_f (by omega)]
        exact a5 u' (by omega)
      · intro u' hu'
        repeat rw [up2_f (by omega)]
        exact a6 u' (by omega)
      · intro u' hu'
        have := a7 u' (by omega)
        unfold rUR at *
        refine ⟨?_, ?_, ?_, ?_⟩
        · repeat rw [up2_f (by omega)]
          exact this.1
        · repeat rw [up2_f (by omega)]
          exact this.2.1
        · repeat rw [up2_f (by omega)]
          exact this.2.2.1
        · by_cases hii : u' = u
          · subst hii
            repeat (first | rw [up2_t (by omega)] | rw [up2_f (by omega)])
            exact inB_gwi.mpr hP.1
          · repeat rw [up2_f (by omega)]
            exact this.2.2.2
      · intro u' hu' h40
        have := a8 u' (by omega) h40
        unfold rFU at *
        refine ⟨?_, ?_, ?_, ?_, ?_, ?_, ?_, ?_⟩ <;> (repeat rw [up2_f (by omega)])
        · exact this.1
        · exact this.2.1
        · exact this.2.2.1
        · exact this.2.2.2.1
        · exact this.2.2.2.2.1
        · exact this.2.2.2.2.2.1
        · exact this.2.2.2.2.2.2.1
        · exact this.2.2.2.2.2.2.2
  · have eub : unB nu a = false := b_n.mp (fun hh => hU (eu.mpr hh))
    refine ⟨aUN.2.1, ?_, ?_⟩
    · rw [mNt, if_pos (by rw [eub]; rfl), up2_s, eub]
      rfl
    · rw [mNt, if_pos (by rw [eub]; rfl)]
      exact h.t
  · have eub := eu.mp hU
    have eb := nb_t e hP
    refine ⟨aUN.2.1, ?_, ?_⟩
    · rw [mNt, if_pos (by rw [eub, eb]; rfl), up2_s, eub, eb]
      rfl
    · rw [mNt, if_pos (by rw [eub, eb]; rfl)]
      exact h.t
  · have eub := eu.mp hU
    have eb := e.mpr hP
    have es : sdB s1 nu a = true := by
      unfold sdB
      rw [eub]
      obtain ⟨u, hu, rfl⟩ := unB_n (by omega) eub
      rw [nI_clamp (by omega)] at *
      have h6 := st_m (aUN.2.2.2.2.2.1 u hu)
      have h5 := aUN.2.2.2.2.1 u hu
      rw [h5] at h10
      rw [decide_eq_false (fun hh => h10 (h6.mp hh))]
      rfl
    refine ⟨aUN.2.1, ?_, ?_⟩
    · rw [mNt, if_pos (by rw [eub, eb, es]; rfl), up2_s, eub, eb, es]
      rfl
    · rw [mNt, if_pos (by rw [eub, eb, es]; rfl)]
      exact h.t
def how (σ : Nat → Nat → Int32) (a b z : Int32) (s1 : Nat → Nat → Int32) : Prop := (z = 0 ∧ (gwi a 0 3 ∧ gwi b 0 3) ∧ s1 = up2 σ 34 a.toNatClampNeg b) ∨ (z = 1 ∧ ¬ (gwi a 0 3 ∧ gwi b 0 3) ∧ s1 = σ)
theorem r_own {σ s1 : Nat → Nat → Int32} {a b z : Int32} (h : RR σ) (hp : how σ a b z s1) : mOw s1 a b 140 0 = z ∧ RR (mOw s1 a b) := by
  have e : bdO a b = false ↔ (gwi a 0 3 ∧ gwi b 0 3) := by
    simp only [bdO, Bool.or_eq_false_iff, Bool.not_eq_false', inB_gwi, and_assoc]
  rcases hp with ⟨rfl, hP, rfl⟩ | ⟨rfl, hP, rfl⟩
  · rw [mOw, if_neg (by rw [e.mpr hP]; decide), e.mpr hP]
    obtain ⟨i, hi, rfl⟩ := gwi_n (M := 3) (n := 3) rfl hP.1
    rw [nI_clamp (by omega)]
    refine ⟨by rw [up2_k (by decide), up2_s]; rfl, ?_⟩
    obtain ⟨aPL, ⟨nu, aUN⟩, ⟨n, nc, aRU⟩, ⟨ne, aEX⟩, aOW, ⟨nt, aTO⟩, ⟨N, aTX⟩, aNM⟩ := h
    refine ⟨aPL.f (((FR.r.u (by unfold dPL; omega)).u (by unfold dPL; omega)).u (by unfold dPL; omega)), ⟨nu, aUN.f (((FR.r.u (by unfold dUN; omega)).u (by unfold dUN; omega)).u (by unfold dUN; omega))⟩, ⟨n, nc, aRU.f (((FR.r.u (by unfold dRU; omega)).u (by unfold dRU; omega)).u (by unfold dRU; omega))⟩, ⟨ne, aEX.f (((FR.r.u (by unfold dEX; omega)).u (by unfold dEX; omega)).u (by unfold dEX; omega))⟩, ?_, ⟨nt, aTO.f (((FR.r.u (by unfold dTO; omega)).u (by unfold dTO; omega)).u (by unfold dTO; omega))⟩, ⟨N, aTX.f (((FR.r.u (by unfold dTX; omega)).u (by unfold dTX; omega)).u (by unfold dTX; omega))⟩, aNM.f (((FR.r.u (by unfold dNM; omega)).u (by unfold dNM; omega)).u (by unfold dNM; omega))⟩
    refine ⟨fun q hq => ?_, ?_⟩
    · by_cases hii : q = i
      · subst hii
        repeat (first | rw [up2_t (by omega)] | rw [up2_f (by omega)])
      · repeat rw [up2_f (by omega)]
        exact aOW.1 q hq
    · repeat rw [up2_f (by omega)]
      exact aOW.2
  · rw [mOw, if_pos (nb_t e hP), nb_t e hP]
    exact ⟨up2_s, h.t⟩
def htk (σ : Nat → Nat → Int32) (a z : Int32) (s1 : Nat → Nat → Int32) : Prop := (z = 0 ∧ (¬ a < 0 ∧ a < σ 0 2) ∧ ¬ σ (80 + a.toNatClampNeg) 10 = (-1) ∧ s1 = up2 σ (80 + a.toNatClampNeg) 10 (-1)) ∨ (z = 1 ∧ ¬ (¬ a < 0 ∧ a < σ 0 2) ∧ s1 = σ) ∨ (z = 2 ∧ (¬ a < 0 ∧ a < σ 0 2) ∧ σ (80 + a.toNatClampNeg) 10 = (-1) ∧ s1 = σ)
theorem r_take {σ s1 : Nat → Nat → Int32} {nu : Nat} {a z : Int32} (h : RR σ) (aUN : rUN σ nu) (hp : htk σ a z s1) : s1 140 2 = nI nu ∧ mTk s1 nu a 140 0 = z ∧ RR (mTk s1 nu a) := by
  have hn4 := aUN.2.2.1
  have eu : (¬ a < 0 ∧ a < σ 0 2) ↔ unB nu a = true := un_e aUN.1 hn4
  rcases hp with ⟨rfl, hU, h10, rfl⟩ | ⟨rfl, hU, rfl⟩ | ⟨rfl, hU, h10, rfl⟩
  · have eub := eu.mp hU
    obtain ⟨u, hu, rfl⟩ := unB_n (by omega) eub
    rw [nI_clamp (by omega)] at *
    have es : tkB (up2 σ (80 + u) 10 (-1)) nu (nI u) = false := by
      unfold tkB
      rw [nI_clamp (by omega), up2_f (by omega), eub]
      have h6 := st_m (aUN.2.2.2.2.2.1 u hu)
      have h5 := aUN.2.2.2.2.1 u hu
      rw [h5] at h10
      rw [decide_eq_true (Int32.not_lt.mp (fun hh => h10 (h6.mp hh)))]
      rfl
    refine ⟨by rw [up2_f (by omega)]; exact aUN.2.1, ?_, ?_⟩
    · rw [mTk, if_neg (by rw [eub, es]; decide), eub, es]
      repeat (first | rw [up2_t (by omega)] | rw [up2_f (by omega)])
      rfl
    · rw [mTk, if_neg (by rw [eub, es]; decide), eub, es, nI_clamp (by omega)]
      obtain ⟨aPL, ⟨_, _⟩, ⟨n, nc, aRU⟩, ⟨ne, aEX⟩, aOW, ⟨nt, aTO⟩, ⟨N, aTX⟩, aNM⟩ := h
      refine ⟨aPL.f (((FR.r.u (by unfold dPL; omega)).u (by unfold dPL; omega)).u (by unfold dPL; omega)), ?_, ⟨n, nc, aRU.f (((FR.r.u (by unfold dRU; omega)).u (by unfold dRU; omega)).u (by unfold dRU; omega))⟩, ⟨ne, aEX.f (((FR.r.u (by unfold dEX; omega)).u (by unfold dEX; omega)).u (by unfold dEX; omega))⟩, aOW.f (((FR.r.u (by unfold dOW; omega)).u (by unfold dOW; omega)).u (by unfold dOW; omega)), ⟨nt, aTO.f (((FR.r.u (by unfold dTO; omega)).u (by unfold dTO; omega)).u (by unfold dTO; omega))⟩, ⟨N, aTX.f (((FR.r.u (by unfold dTX; omega)).u (by unfold dTX; omega)).u (by unfold dTX; omega))⟩, aNM.f (((FR.r.u (by unfold dNM; omega)).u (by unfold dNM; omega)).u (by unfold dNM; omega))⟩
      obtain ⟨a1, a2, a3, a4, a5, a6, a7, a8⟩ := aUN
      refine ⟨nu, ?_, ?_, a3, ?_, ?_, ?_, ?_, ?_⟩
      · repeat (first | rw [up2_t (by omega)] | rw [up2_f (by omega)])
        exact a1
      · repeat (first | rw [up2_t (by omega)] | rw [up2_f (by omega)])
        exact a2
      · intro u' j' hu' hj'
        repeat rw [up2_f (by omega)]
        exact a4 u' j' hu' hj'
      · intro u' hu'
        by_cases hii : u' = u
        · subst hii
          repeat (first | rw [up2_t (by omega)] | rw [up2_f (by omega)])
        · repeat rw [up2_f (by omega)]
          exact a5 u' hu'
      · intro u' hu'
        by_cases hii : u' = u
        · subst hii
          repeat (first | rw [up2_t (by omega)] | rw [up2_f (by omega)])
          decide
        · repeat rw [up2_f (by omega)]
          exact a6 u' hu'
      · intro u' hu'
        have := a7 u' (by omega)
        unfold rUR at *
        refine ⟨?_, ?_, ?_, ?_⟩ <;> (repeat rw [up2_f (by omega)])
        · exact this.1
        · exact this.2.1
        · exact this.2.2.1
        · exact this.2.2.2
      · intro u' hu' h40
        have := a8 u' (by omega) h40
        unfold rFU at *
        refine ⟨?_, ?_, ?_, ?_, ?_, ?_, ?_, ?_⟩ <;> (repeat rw [up2_f (by omega)])
        · exact this.1
        · exact this.2.1
        · exact this.2.2.1
        · exact this.2.2.2.1
        · exact this.2.2.2.2.1
        · exact this.2.2.2.2.2.1
        · exact this.2.2.2.2.2.2.1
        · exact this.2.2.2.2.2.2.2
  · have eub : unB nu a = false := b_n.mp (fun hh => hU (eu.mpr hh))
    refine ⟨aUN.2.1, ?_, ?_⟩
    · rw [mTk, if_pos (by rw [eub]; rfl), up2_s, eub]
      rfl
    · rw [mTk, if_pos (by rw [eub]; rfl)]
      exact h.t
  · have eub := eu.mp hU
    have es : tkB s1 nu a = true := by
      unfold tkB
      rw [eub]
      obtain ⟨u, hu, rfl⟩ := unB_n (by omega) eub
      rw [nI_clamp (by omega)] at *
      have h5 := aUN.2.2.2.2.1 u hu
      rw [h5] at h10
      rw [h10]
      decide
    refine ⟨aUN.2.1, ?_, ?_⟩
    · rw [mTk, if_pos (by rw [es, Bool.or_true]), up2_s, eub, es]
      rfl
    · rw [mTk, if_pos (by rw [es, Bool.or_true])]
      exact h.t
theorem r_sign {σ s1 : Nat → Nat → Int32} {N : Nat} {a : Int32} (h : RR σ) (aTX : rTX σ N) (hp : s1 = clS σ (a &&& 255) N) : s1 140 22 = nI N ∧ RR (mSg s1 a N) ∧ (if σ 35 1 < 400 then clS σ (a &&& 255) N 35 1 else (-1)) = (if nI N = 400 then (-1) else nI (N + 1)) := by
  have e40 : (400 : Int32) = nI 400 := rfl
  have hN := aTX.2.2.1
  by_cases hlt : N < 400
  · have hl : σ 35 1 < 400 := by
      rw [aTX.1, e40]
      exact nI_lt hlt (by omega)
    have hne : ¬ nI N = 400 := by
      rw [e40, nI_eq (by omega) (by omega)]
      omega
    have ex : up2 σ 36 N (a &&& 255) 35 1 + 1 = nI (N + 1) := by
      rw [up2_f (by omega), aTX.1, nI_1]
    have ec : clS σ (a &&& 255) N = up2 (up2 σ 36 N (a &&& 255)) 35 1 (nI (N + 1)) := by
      rw [clS, if_pos hl, ex]
    rw [ec] at hp
    subst hp
    rw [if_pos hl, if_neg hne, ec, mSg, if_neg hne]
    refine ⟨by repeat rw [up2_f (by omega)]
               exact aTX.2.1, ?_, up2_s⟩
    obtain ⟨aPL, ⟨nu, aUN⟩, ⟨n, nc, aRU⟩, ⟨ne, aEX⟩, aOW, ⟨nt, aTO⟩, ⟨_, _⟩, aNM⟩ := h
    refine ⟨aPL.f (((((FR.r.u (by unfold dPL; omega)).u (by unfold dPL; omega)).u (by unfold dPL; omega)).u (by unfold dPL; omega)).u (by unfold dPL; omega)), ⟨nu, aUN.f (((((FR.r.u (by unfold dUN; omega)).u (by unfold dUN; omega)).u (by unfold dUN; omega)).u (by unfold dUN; omega)).u (by unfold dUN; omega))⟩, ⟨n, nc, aRU.f (((((FR.r.u (by unfold dRU; omega)).u (by unfold dRU; omega)).u (by unfold dRU; omega)).u (by unfold dRU; omega)).u (by unfold dRU; omega))⟩, ⟨ne, aEX.f (((((FR.r.u (by unfold dEX; omega)).u (by unfold dEX; omega)).u (by unfold dEX; omega)).u (by unfold dEX; omega)).u (by unfold dEX; omega))⟩, aOW.f (((((FR.r.u (by unfold dOW; omega)).u (by unfold dOW; omega)).u (by unfold dOW; omega)).u (by unfold dOW; omega)).u (by unfold dOW; omega)), ⟨nt, aTO.f (((((FR.r.u (by unfold dTO; omega)).u (by unfold dTO; omega)).u (by unfold dTO; omega)).u (by unfold dTO; omega)).u (by unfold dTO; omega))⟩, ?_, aNM.f (((((FR.r.u (by unfold dNM; omega)).u (by unfold dNM; omega)).u (by unfold dNM; omega)).u (by unfold dNM; omega)).u (by unfold dNM; omega))⟩
    obtain ⟨a1, a2, a3, a4, ⟨k1, k2⟩⟩ := aTX
    refine ⟨N + 1, ?_, ?_, by omega, ?_, ?_, ?_⟩
    · repeat (first | rw [up2_t (by omega)] | rw [up2_f (by omega)])
    · repeat (first | rw [up2_t (by omega)] | rw [up2_f (by omega)])
    · intro i
      by_cases hii : i = N
      · subst hii
        repeat (first | rw [up2_t (by omega)] | rw [up2_f (by omega)])
      · repeat rw [up2_f (by omega)]
        exact a4 i
    · repeat rw [up2_f (by omega)]
      exact k1
    · intro i hi
      repeat rw [up2_f (by omega)]
      exact k2 i hi
  · have hN4 : N = 400 := by omega
    subst hN4
    have hl : ¬ σ 35 1 < 400 := by
      rw [aTX.1]
      decide
    have ec : clS σ (a &&& 255) 400 = σ := by
      rw [clS, if_neg hl]
    rw [ec] at hp
    subst hp
    rw [if_neg hl, if_pos e40.symm, mSg, if_pos e40.symm]
    exact ⟨aTX.2.1, h.t, rfl⟩
theorem ng_e {a : Int32} : (!decide (0 ≤ a)) = false ↔ ¬ a < 0 := by
  rw [Bool.not_eq_false', decide_eq_true_iff, Int32.not_lt]
def hex (σ : Nat → Nat → Int32) (a z x : Int32) (s1 : Nat → Nat → Int32) : Prop := (z = 0 ∧ ¬ a < 0 ∧ x = (if a < σ 0 10 then σ 67 a.toNatClampNeg else (-1)) ∧ s1 = σ) ∨ (z = 1 ∧ a < 0 ∧ s1 = σ)
theorem r_explain {σ s1 : Nat → Nat → Int32} {nt : Nat} {a z x : Int32} (h : RR σ) (aTO : rTO σ nt) (hp : hex σ a z x s1) : s1 140 20 = nI nt ∧ up2 s1 140 0 (fcd (!decide (0 ≤ a)) false false) 140 0 = z ∧ RR (up2 s1 140 0 (fcd (!decide (0 ≤ a)) false false)) ∧ (z = 0 → x = mEx s1 a) := by
  obtain ⟨a1, a2, a3, a4⟩ := aTO
  rcases hp with ⟨rfl, hP, rfl, rfl⟩ | ⟨rfl, hP, rfl⟩
  · refine ⟨a2, by rw [up2_s, ng_e.mpr hP]; rfl, h.t, fun _ => ?_⟩
    have eM : mEx s1 a = if a < s1 140 20 then s1 155 a.toNatClampNeg else (-1) := by
      rw [mEx, if_neg (by rw [ng_e.mpr hP]; decide)]
    rw [eM, a1, a2]
    by_cases hlt : a < nI nt
    · obtain ⟨i, hi, rfl⟩ := uni_n rfl (by omega) ⟨hP, hlt⟩
      rw [if_pos hlt, if_pos hlt, nI_clamp (by omega), a4 i hi]
    · rw [if_neg hlt, if_neg hlt]
  · have eb : (!decide (0 ≤ a)) = true := nb_t ng_e (fun hh => hh hP)
    exact ⟨a2, by rw [up2_s, eb]; rfl, h.t, fun hh => absurd hh (by decide)⟩
def hcl (σ : Nat → Nat → Int32) (a b z x : Int32) (s1 : Nat → Nat → Int32) : Prop := (z = 0 ∧ (¬ a < 0 ∧ gwi b 0 1) ∧ x = (if a < σ 4 5 then (if b = 0 then σ 7 a.toNatClampNeg else σ 8 a.toNatClampNeg) else (-1)) ∧ s1 = σ) ∨ (z = 1 ∧ ¬ (¬ a < 0 ∧ gwi b 0 1) ∧ s1 = σ)
theorem r_clash {σ s1 : Nat → Nat → Int32} {n nc : Nat} {a b z x : Int32} (h : RR σ) (aRU : rRU σ n nc) (hp : hcl σ a b z x s1) : s1 140 18 = nI nc ∧ up2 s1 140 0 (fcd (clB a b) false false) 140 0 = z ∧ RR (up2 s1 140 0 (fcd (clB a b) false false)) ∧ (z = 0 → x = mCl s1 a b) := by
  have e : clB a b = false ↔ (¬ a < 0 ∧ gwi b 0 1) := by
    simp only [clB, Bool.or_eq_false_iff, Bool.not_eq_false', decide_eq_false_iff_not, inB_gwi]
  have hn := aRU.1.1.2.1
  have h2 := aRU.1.2.2.2
  have hc : nc ≤ 276 := by
    have h3 : n * (n - 1) ≤ 24 * 23 := Nat.mul_le_mul hn (by omega)
    omega
  have a5 := aRU.1.2.2.1
  have a18 := aRU.2.2.1
  have a7 := aRU.2.2.2.2.2.2
  rcases hp with ⟨rfl, hP, rfl, rfl⟩ | ⟨rfl, hP, rfl⟩
  · have eb := e.mpr hP
    refine ⟨a18, by rw [up2_s, eb]; rfl, h.t, fun _ => ?_⟩
    have eM : mCl s1 a b = if a < s1 140 18 then s1 154 (2 * a.toNatClampNeg + b.toNatClampNeg) else (-1) := by
      rw [mCl, if_neg (by rw [eb]; decide)]
    rw [eM, a5, a18]
    by_cases hlt : a < nI nc
    · obtain ⟨i, hi, rfl⟩ := uni_n rfl (by omega) ⟨hP.1, hlt⟩
      obtain ⟨j, hj, rfl⟩ := gwi_n (M := 1) (n := 1) rfl hP.2
      rw [if_pos hlt, if_pos hlt, nI_clamp (by omega), nI_clamp (by omega)]
      have hj2 : j = 0 ∨ j = 1 := by omega
      rcases hj2 with rfl | rfl
      · rw [if_pos nI_0]
        exact (a7 i hi).1
      · rw [if_neg (by decide)]
        exact (a7 i hi).2
    · rw [if_neg hlt, if_neg hlt]
  · have eb := nb_t e hP
    exact ⟨a18, by rw [up2_s, eb]; rfl, h.t, fun hh => absurd hh (by decide)⟩
theorem r_count {σ : Nat → Nat → Int32} {a : Int32} (h : RR σ) : cnV σ a = cnM σ a ∧ RR (up2 σ 140 0 0) := by
  refine ⟨?_, h.t⟩
  obtain ⟨aPL, ⟨nu, aUN⟩, ⟨n, nc, aRU⟩, ⟨ne, aEX⟩, aOW, ⟨nt, aTO⟩, ⟨N, aTX⟩, aNM⟩ := h
  unfold cnV cnM
  rw [aRU.1.1.1, aRU.2.1, aUN.1, aUN.2.1, aEX.1, aEX.2.1, aRU.1.2.2.1, aRU.2.2.1, aTX.1, aTX.2.1, aOW.2]
theorem nthx_c {b b2 : Nat → Bool} : ∀ (f j k : Nat), (∀ i, j ≤ i → i < j + f → b i = b2 i) → nthx b f j k = nthx b2 f j k
  | 0, _, _, _ => rfl
  | f + 1, j, k, h => by
    cases k with
    | zero =>
      simp only [nthx, h j (by omega) (by omega)]
      rw [nthx_c f (j + 1) 0 (fun i h1 h2 => h i (by omega) (by omega))]
    | succ k =>
      simp only [nthx, h j (by omega) (by omega)]
      rw [nthx_c f (j + 1) (k + 1) (fun i h1 h2 => h i (by omega) (by omega)), nthx_c f (j + 1) k (fun i h1 h2 => h i (by omega) (by omega))]
theorem lpf_c {b b2 : Nat → Bool} : ∀ (f j : Nat), (∀ i, j ≤ i → i < j + f → b i = b2 i) → lpf b f j = lpf b2 f j
  | 0, _, _ => rfl
  | f + 1, j, h => by
    rw [lpf, lpf, h j (by omega) (by omega), lpf_c f (j + 1) (fun i h1 h2 => h i (by omega) (by omega))]
def hnv (σ : Nat → Nat → Int32) (n : Nat) (a z x : Int32) (s1 : Nat → Nat → Int32) : Prop := (z = 0 ∧ ¬ a < 0 ∧ x = oI (nthx (nvB σ) n 0 a.toNatClampNeg) ∧ s1 = σ) ∨ (z = 1 ∧ a < 0 ∧ s1 = σ)
theorem r_never {σ s1 : Nat → Nat → Int32} {n nc : Nat} {a z x : Int32} (h : RR σ) (aRU : rRU σ n nc) (hp : hnv σ n a z x s1) : s1 140 5 = nI n ∧ mN0 s1 a 140 0 = z ∧ RR (mN0 s1 a) ∧ (z = 0 → x = mNv s1 n a) := by
  rcases hp with ⟨rfl, hP, rfl, rfl⟩ | ⟨rfl, hP, rfl⟩
  · refine ⟨aRU.2.1, by rw [mN0, up2_s, ng_e.mpr hP]; rfl, h.t, fun _ => ?_⟩
    rw [mNv, if_neg (by rw [ng_e.mpr hP]; decide)]
    congr 1
    apply nthx_c
    intro i _ hi
    have := aRU.2.2.2.1 i 4 (by omega) (by omega)
    show decide (s1 (9 + i) 4 = 0) = decide (mN0 s1 a 148 i = 0)
    rw [mN0, up2_f (by omega), this]
  · have eb : (!decide (0 ≤ a)) = true := nb_t ng_e (fun hh => hh hP)
    exact ⟨aRU.2.1, by rw [mN0, up2_s, eb]; rfl, h.t, fun hh => absurd hh (by decide)⟩
def hat (σ : Nat → Nat → Int32) (nu : Nat) (a b z x : Int32) (s1 : Nat → Nat → Int32) : Prop := (z = 0 ∧ (gwi a 0 11 ∧ ¬ b < 0) ∧ x = oI (nthx (atB σ a) nu 0 b.toNatClampNeg) ∧ s1 = σ) ∨ (z = 1 ∧ ¬ (gwi a 0 11 ∧ ¬ b < 0) ∧ s1 = σ)
theorem r_at {σ s1 : Nat → Nat → Int32} {nu : Nat} {a b z x : Int32} (h : RR σ) (aUN : rUN σ nu) (hp : hat σ nu a b z x s1) : s1 140 2 = nI nu ∧ mA0 s1 a b 140 0 = z ∧ RR (mA0 s1 a b) ∧ (z = 0 → x = mAv s1 nu a b) := by
  have e : abB a b = false ↔ (gwi a 0 11 ∧ ¬ b < 0) := by
    simp only [abB, Bool.or_eq_false_iff, Bool.not_eq_false', decide_eq_true_iff, inB_gwi, Int32.not_lt]
  rcases hp with ⟨rfl, hP, rfl, rfl⟩ | ⟨rfl, hP, rfl⟩
  · refine ⟨aUN.2.1, by rw [mA0, up2_s, e.mpr hP]; rfl, h.t, fun _ => ?_⟩
    rw [mAv, if_neg (by rw [e.mpr hP]; decide)]
    congr 1
    apply nthx_c
    intro i _ hi
    have := aUN.2.2.2.2.1 i (by omega)
    show decide (s1 (80 + i) 10 = a) = decide (mA0 s1 a b 143 i = a)
    rw [mA0, up2_f (by omega), this]
  · have eb := nb_t e hP
    exact ⟨aUN.2.1, by rw [mA0, up2_s, eb]; rfl, h.t, fun hh => absurd hh (by decide)⟩
theorem i3_a (x y z : Int32) : x + y + z - x - y = z := by grind
theorem i3_b (x y z : Int32) : x + y + z - x - z = y := by grind
theorem i3_c (x y z : Int32) : x + y + z - y - x = z := by grind
theorem i3_d (x y z : Int32) : x + y + z - y - z = x := by grind
theorem i3_e (x y z : Int32) : x + y + z - z - x = y := by grind
theorem i3_g (x y : Int32) : x + y - x = y := by grind
theorem i3_f (x y z : Int32) : x + y + z - z - y = x := by grind
theorem fit_w {σ : Nat → Nat → Int32} {u i w : Nat} (hw : w < 6) (h0 : σ (68 + i) 0 = σ 141 (5 * i)) (h1 : σ (68 + i) 1 = σ 141 (5 * i + 1)) (h2 : σ (68 + i) 2 = σ 141 (5 * i + 2)) (h3 : σ (80 + u) 3 = σ 142 (10 * u + 3)) (h4 : σ (80 + u) 4 = σ 142 (10 * u + 4)) (h5 : σ (80 + u) 5 = σ 142 (10 * u + 5)) : decide (fit6 σ (68 + i) (80 + u) (nI w)) = ftB σ u i (nI w) := by
  unfold fit6 hld ftB fwX fwY
  rw [h0, h1, h2, h3, h4, h5]
  generalize σ 142 (10 * u + 3) = x
  generalize σ 142 (10 * u + 4) = y
  generalize σ 142 (10 * u + 5) = z
  have e0 : nI 0 = 0 := rfl
  have e1 : nI 1 = 1 := rfl
  have e2 : nI 2 = 2 := rfl
  have e3 : nI 3 = 3 := rfl
  have e4 : nI 4 = 4 := rfl
  have e5 : nI 5 = 5 := rfl
  have hj : w = 0 ∨ w = 1 ∨ w = 2 ∨ w = 3 ∨ w = 4 ∨ w = 5 := by omega
  rcases hj with rfl | rfl | rfl | rfl | rfl | rfl
  · rw [e0]; simp [i3_a, and_assoc, Bool.and_assoc]
  · rw [e1]; simp [i3_b, and_assoc, Bool.and_assoc]
  · rw [e2]; simp [i3_c, and_assoc, Bool.and_assoc]
  · rw [e3]; simp [i3_d, and_assoc, Bool.and_assoc]
  · rw [e4]; simp [i3_e, i3_g, and_assoc, Bool.and_assoc]
  · rw [e5]; simp [i3_f, and_assoc, Bool.and_assoc]
theorem ftB_t {σ : Nat → Nat → Int32} {v w : Int32} {u i : Nat} : ftB (up2 σ 140 0 v) u i w = ftB σ u i w := by
  unfold ftB fwX fwY
  rw [up2_c (by decide), up2_c (by decide)]
def htu (σ : Nat → Nat → Int32) (a b z x : Int32) (s1 : Nat → Nat → Int32) : Prop := (z = 0 ∧ ((¬ a < 0 ∧ a < σ 0 2) ∧ gwi b 0 11) ∧ x = oI (lpf (fwB σ (68 + b.toNatClampNeg) (80 + a.toNatClampNeg)) 6 0) ∧ s1 = σ) ∨ (z = 1 ∧ ¬ (¬ a < 0 ∧ a < σ 0 2) ∧ s1 = σ) ∨ (z = 2 ∧ (¬ a < 0 ∧ a < σ 0 2) ∧ ¬ gwi b 0 11 ∧ s1 = σ)
theorem r_turned {σ s1 : Nat → Nat → Int32} {nu : Nat} {a b z x : Int32} (h : RR σ) (aUN : rUN σ nu) (hp : htu σ a b z x s1) : s1 140 2 = nI nu ∧ mT0 s1 nu a b 140 0 = z ∧ RR (mT0 s1 nu a b) ∧ (z = 0 → x = mTv s1 nu a b) := by
  have hn4 := aUN.2.2.1
  have eu : (¬ a < 0 ∧ a < σ 0 2) ↔ unB nu a = true := un_e aUN.1 hn4
  have eg : (!inB b 0 11) = false ↔ gwi b 0 11 := by simp only [Bool.not_eq_false', inB_gwi]
  rcases hp with ⟨rfl, hP, rfl, rfl⟩ | ⟨rfl, hP, rfl⟩ | ⟨rfl, hP, hQ, rfl⟩
  · have eub := eu.mp hP.1
    have egb := eg.mpr hP.2
    refine ⟨aUN.2.1, by rw [mT0, up2_s, eub, egb]; rfl, h.t, fun _ => ?_⟩
    rw [mTv, if_neg (by rw [eub, egb]; decide)]
    congr 1
    apply lpf_c
    intro w _ hw
    obtain ⟨u, hu, rfl⟩ := unB_n (by omega) eub
    obtain ⟨i, hi, rfl⟩ := gwi_n (M := 11) (n := 11) rfl hP.2
    rw [nI_clamp (by omega), nI_clamp (by omega)]
    have hU := aUN.2.2.2.1 u
    have hL := h.1 i
    show decide (fit6 s1 (68 + i) (80 + u) (nI w)) = mfB (mT0 s1 nu (nI u) (nI i)) u i w
    rw [mfB, mT0, ftB_t]
    exact fit_w (by omega) (hL 0 (by omega) (by omega)) (hL 1 (by omega) (by omega)) (hL 2 (by omega) (by omega)) (hU 3 hu (by omega)) (hU 4 hu (by omega)) (hU 5 hu (by omega))
  · have eub : unB nu a = false := b_n.mp (fun hh => hP (eu.mpr hh))
    exact ⟨aUN.2.1, by rw [mT0, up2_s, eub]; rfl, h.t, fun hh => absurd hh (by decide)⟩
  · have eub := eu.mp hP
    exact ⟨aUN.2.1, by rw [mT0, up2_s, eub, nb_t eg hQ]; rfl, h.t, fun hh => absurd hh (by decide)⟩
