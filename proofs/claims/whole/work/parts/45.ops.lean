/-! The operations keep the relation and answer alike: those without a question. -/
theorem un_e {nu : Nat} {a x : Int32} (hx : x = nI nu) (hn : nu ≤ 40) : (¬ a < 0 ∧ a < x) ↔ unB nu a = true := by
  constructor
  · intro h
    obtain ⟨u, hu, rfl⟩ := uni_n hx (by omega) h
    exact unB_of (by omega) hu
  · intro h
    obtain ⟨u, hu, rfl⟩ := unB_n (by omega) h
    rw [hx]
    exact ⟨nI_pos (by omega), nI_lt hu (by omega)⟩
theorem b_n {b : Bool} : ¬ b = true ↔ b = false := by cases b <;> simp
theorem nb_t {b : Bool} {P : Prop} (e : b = false ↔ P) (h : ¬ P) : b = true := by
  cases b with
  | false => exact absurd (e.mp rfl) h
  | true => rfl
theorem up2_f {σ : Nat → Nat → Int32} {k j q i : Nat} {v : Int32} (h : ¬ (q = k ∧ i = j)) : up2 σ k j v q i = σ q i := by rw [up2_at, if_neg h]
theorem up2_t {σ : Nat → Nat → Int32} {k j q i : Nat} {v : Int32} (h : q = k ∧ i = j) : up2 σ k j v q i = v := by rw [up2_at, if_pos h]
def hpl (σ : Nat → Nat → Int32) (a b d f z : Int32) (s1 : Nat → Nat → Int32) : Prop := (z = 0 ∧ (gwi a 0 11 ∧ gwi b 1 9999 ∧ gwi d 1 9999 ∧ gwi f 1 9999) ∧ s1 = up2 (up2 (up2 σ (68 + a.toNatClampNeg) 0 b) (68 + a.toNatClampNeg) 1 d) (68 + a.toNatClampNeg) 2 f) ∨ (z = 1 ∧ ¬ (gwi a 0 11 ∧ gwi b 1 9999 ∧ gwi d 1 9999 ∧ gwi f 1 9999) ∧ s1 = σ)
theorem r_place {σ s1 : Nat → Nat → Int32} {a b d f z : Int32} (h : RR σ) (hp : hpl σ a b d f z s1) : mPl s1 a b d f 140 0 = z ∧ RR (mPl s1 a b d f) := by
  have e : bdP a b d f = false ↔ (gwi a 0 11 ∧ gwi b 1 9999 ∧ gwi d 1 9999 ∧ gwi f 1 9999) := by
    simp only [bdP, szB, Bool.or_eq_false_iff, Bool.not_eq_false', Bool.and_eq_true, inB_gwi, and_assoc]
  rcases hp with ⟨rfl, hP, rfl⟩ | ⟨rfl, hP, rfl⟩
  · rw [mPl, if_neg (by rw [e.mpr hP]; decide)]
    obtain ⟨i, hi, rfl⟩ := gwi_n (M := 11) (n := 11) rfl hP.1
    rw [nI_clamp (by omega)]
    refine ⟨by rw [up2_k (by decide), up2_k (by decide), up2_k (by decide), up2_s], ?_⟩
    obtain ⟨aPL, ⟨nu, aUN⟩, ⟨n, nc, aRU⟩, ⟨ne, aEX⟩, aOW, ⟨nt, aTO⟩, ⟨N, aTX⟩, aNM⟩ := h
    refine ⟨?_, ⟨nu, aUN.f (((((((FR.r.u (by unfold dUN; omega)).u (by unfold dUN; omega)).u (by unfold dUN; omega)).u (by unfold dUN; omega)).u (by unfold dUN; omega)).u (by unfold dUN; omega)).u (by unfold dUN; omega))⟩, ⟨n, nc, aRU.f (((((((FR.r.u (by unfold dRU; omega)).u (by unfold dRU; omega)).u (by unfold dRU; omega)).u (by unfold dRU; omega)).u (by unfold dRU; omega)).u (by unfold dRU; omega)).u (by unfold dRU; omega))⟩, ⟨ne, aEX.f (((((((FR.r.u (by unfold dEX; omega)).u (by unfold dEX; omega)).u (by unfold dEX; omega)).u (by unfold dEX; omega)).u (by unfold dEX; omega)).u (by unfold dEX; omega)).u (by unfold dEX; omega))⟩, aOW.f (((((((FR.r.u (by unfold dOW; omega)).u (by unfold dOW; omega)).u (by unfold dOW; omega)).u (by unfold dOW; omega)).u (by unfold dOW; omega)).u (by unfold dOW; omega)).u (by unfold dOW; omega)), ⟨nt, aTO.f (((((((FR.r.u (by unfold dTO; omega)).u (by unfold dTO; omega)).u (by unfold dTO; omega)).u (by unfold dTO; omega)).u (by unfold dTO; omega)).u (by unfold dTO; omega)).u (by unfold dTO; omega))⟩, ⟨N, aTX.f (((((((FR.r.u (by unfold dTX; omega)).u (by unfold dTX; omega)).u (by unfold dTX; omega)).u (by unfold dTX; omega)).u (by unfold dTX; omega)).u (by unfold dTX; omega)).u (by unfold dTX; omega))⟩, aNM.f (((((((FR.r.u (by unfold dNM; omega)).u (by unfold dNM; omega)).u (by unfold dNM; omega)).u (by unfold dNM; omega)).u (by unfold dNM; omega)).u (by unfold dNM; omega)).u (by unfold dNM; omega))⟩
    intro i' j' hi' hj'
    have hj : j' = 0 ∨ j' = 1 ∨ j' = 2 ∨ j' = 3 ∨ j' = 4 := by omega
    by_cases hii : i' = i
    · subst hii
      rcases hj with rfl | rfl | rfl | rfl | rfl <;> (repeat (first | rw [up2_t (by omega)] | rw [up2_f (by omega)]))
      · exact aPL i' 3 hi' (by omega)
      · exact aPL i' 4 hi' (by omega)
    · repeat rw [up2_f (by omega)]
      exact aPL i' j' hi' hj'
  · rw [mPl, if_pos (nb_t e hP)]
    exact ⟨up2_s, h.t⟩
def hli (σ : Nat → Nat → Int32) (a b d z : Int32) (s1 : Nat → Nat → Int32) : Prop := (z = 0 ∧ (gwi a 0 11 ∧ gwi b 0 10000000 ∧ gwi d 0 7) ∧ s1 = up2 (up2 σ (68 + a.toNatClampNeg) 3 b) (68 + a.toNatClampNeg) 4 d) ∨ (z = 1 ∧ ¬ (gwi a 0 11 ∧ gwi b 0 10000000 ∧ gwi d 0 7) ∧ s1 = σ)
theorem r_limit {σ s1 : Nat → Nat → Int32} {a b d z : Int32} (h : RR σ) (hp : hli σ a b d z s1) : mLi s1 a b d 140 0 = z ∧ RR (mLi s1 a b d) := by
  have e : bdL a b d = false ↔ (gwi a 0 11 ∧ gwi b 0 10000000 ∧ gwi d 0 7) := by
    simp only [bdL, Bool.or_eq_false_iff, Bool.not_eq_false', inB_gwi, and_assoc]
  rcases hp with ⟨rfl, hP, rfl⟩ | ⟨rfl, hP, rfl⟩
  · rw [mLi, if_neg (by rw [e.mpr hP]; decide), e.mpr hP]
    obtain ⟨i, hi, rfl⟩ := gwi_n (M := 11) (n := 11) rfl hP.1
    rw [nI_clamp (by omega)]
    refine ⟨by rw [up2_k (by decide), up2_k (by decide), up2_s]; rfl, ?_⟩
    obtain ⟨aPL, ⟨nu, aUN⟩, ⟨n, nc, aRU⟩, ⟨ne, aEX⟩, aOW, ⟨nt, aTO⟩, ⟨N, aTX⟩, aNM⟩ := h
    refine ⟨?_, ⟨nu, aUN.f (((((FR.r.u (by unfold dUN; omega)).u (by unfold dUN; omega)).u (by unfold dUN; omega)).u (by unfold dUN; omega)).u (by unfold dUN; omega))⟩, ⟨n, nc, aRU.f (((((FR.r.u (by unfold dRU; omega)).u (by unfold dRU; omega)).u (by unfold dRU; omega)).u (by unfold dRU; omega)).u (by unfold dRU; omega))⟩, ⟨ne, aEX.f (((((FR.r.u (by unfold dEX; omega)).u (by unfold dEX; omega)).u (by unfold dEX; omega)).u (by unfold dEX; omega)).u (by unfold dEX; omega))⟩, aOW.f (((((FR.r.u (by unfold dOW; omega)).u (by unfold dOW; omega)).u (by unfold dOW; omega)).u (by unfold dOW; omega)).u (by unfold dOW; omega)), ⟨nt, aTO.f (((((FR.r.u (by unfold dTO; omega)).u (by unfold dTO; omega)).u (by unfold dTO; omega)).u (by unfold dTO; omega)).u (by unfold dTO; omega))⟩, ⟨N, aTX.f (((((FR.r.u (by unfold dTX; omega)).u (by unfold dTX; omega)).u (by unfold dTX; omega)).u (by unfold dTX; omega)).u (by unfold dTX; omega))⟩, aNM.f (((((FR.r.u (by unfold dNM; omega)).u (by unfold dNM; omega)).u (by unfold dNM; omega)).u (by unfold dNM; omega)).u (by unfold dNM; omega))⟩
    intro i' j' hi' hj'
    have hj : j' = 0 ∨ j' = 1 ∨ j' = 2 ∨ j' = 3 ∨ j' = 4 := by omega
    by_cases hii : i' = i
    · subst hii
      rcases hj with rfl | rfl | rfl | rfl | rfl <;> (repeat (first | rw [up2_t (by omega)] | rw [up2_f (by omega)]))
      · exact aPL i' 0 hi' (by omega)
      · exact aPL i' 1 hi' (by omega)
      · exact aPL i' 2 hi' (by omega)
    · repeat rw [up2_f (by omega)]
      exact aPL i' j' hi' hj'
  · rw [mLi, if_pos (nb_t e hP), nb_t e hP]
    exact ⟨up2_s, h.t⟩
def hun (σ : Nat → Nat → Int32) (nu : Nat) (a b d z x : Int32) (s1 : Nat → Nat → Int32) : Prop := (z = 0 ∧ x = s1 0 2 - 1 ∧ (gwi a 0 99 ∧ gwi b 0 99 ∧ gwi d 0 7) ∧ σ 0 2 < 40 ∧ s1 = up2 (up2 (up2 (up2 σ (80 + nu) 0 a) (80 + nu) 1 b) (80 + nu) 2 d) 0 2 ((up2 (up2 (up2 σ (80 + nu) 0 a) (80 + nu) 1 b) (80 + nu) 2 d) 0 2 + 1)) ∨ (z = 1 ∧ ¬ (gwi a 0 99 ∧ gwi b 0 99 ∧ gwi d 0 7) ∧ s1 = σ) ∨ (z = 2 ∧ (gwi a 0 99 ∧ gwi b 0 99 ∧ gwi d 0 7) ∧ ¬ σ 0 2 < 40 ∧ s1 = σ)
theorem r_unit {σ s1 : Nat → Nat → Int32} {nu : Nat} {a b d z x : Int32} (h : RR σ) (aUN : rUN σ nu) (hp : hun σ nu a b d z x s1) : s1 140 2 = nI nu ∧ mUn s1 a b d nu 140 0 = z ∧ RR (mUn s1 a b d nu) ∧ (z = 0 → x = if (bdU a b d || decide (nI nu = 40)) = true then 0 else nI nu) := by
  have e : bdU a b d = false ↔ (gwi a 0 99 ∧ gwi b 0 99 ∧ gwi d 0 7) := by
    simp only [bdU, Bool.or_eq_false_iff, Bool.not_eq_false', inB_gwi, and_assoc]
  have hn4 := aUN.2.2.1
  have e40 : (40 : Int32) = nI 40 := rfl
  rcases hp with ⟨rfl, rfl, hP, h4, rfl⟩ | ⟨rfl, hP, rfl⟩ | ⟨rfl, hP, h4, rfl⟩
  · have hlt : nu < 40 := lt_nI aUN.1 e40 (by omega) (by omega) h4
    have e0 : decide (nI nu = 40) = false := decide_eq_false (by rw [e40, nI_eq (by omega) (by omega)]; omega)
    have eb := e.mpr hP
    have ex : (up2 (up2 (up2 σ (80 + nu) 0 a) (80 + nu) 1 b) (80 + nu) 2 d) 0 2 + 1 = nI (nu + 1) := by
      rw [up2_f (by omega), up2_f (by omega), up2_f (by omega), aUN.1, nI_1]
    rw [ex]
    refine ⟨by rw [up2_f (by omega), up2_f (by omega), up2_f (by omega), up2_f (by omega)]; exact aUN.2.1, ?_, ?_, ?_⟩
    · rw [mUn, if_neg (by rw [eb, e0]; decide), eb, e0]
      unfold lyS
      repeat (first | rw [up2_t (by omega)] | rw [up2_f (by omega)])
      rfl
    · rw [mUn, if_neg (by rw [eb, e0]; decide), eb, e0]
      unfold lyS
      obtain ⟨aPL, ⟨_, _⟩, ⟨n, nc, aRU⟩, ⟨ne, aEX⟩, aOW, ⟨nt, aTO⟩, ⟨N, aTX⟩, aNM⟩ := h
      refine ⟨aPL.f (((((((((((((((((FR.r.u (by unfold dPL; omega)).u (by unfold dPL; omega)).u (by unfold dPL; omega)).u (by unfold dPL; omega)).u (by unfold dPL; omega)).u (by unfold dPL; omega)).u (by unfold dPL; omega)).u (by unfold dPL; omega)).u (by unfold dPL; omega)).u (by unfold dPL; omega)).u (by unfold dPL; omega)).u (by unfold dPL; omega)).u (by unfold dPL; omega)).u (by unfold dPL; omega)).u (by unfold dPL; omega)).u (by unfold dPL; omega)).u (by unfold dPL; omega)), ?_, ⟨n, nc, aRU.f (((((((((((((((((FR.r.u (by unfold dRU; omega)).u (by unfold dRU; omega)).u (by unfold dRU; omega)).u (by unfold dRU; omega)).u (by unfold dRU; omega)).u (by unfold dRU; omega)).u (by unfold dRU; omega)).u (by unfold dRU; omega)).u (by unfold dRU; omega)).u (by unfold dRU; omega)).u (by unfold dRU; omega)).u (by unfold dRU; omega)).u (by unfold dRU; omega)).u (by unfold dRU; omega)).u (by unfold dRU; omega)).u (by unfold dRU; omega)).u (by unfold dRU; omega))⟩, ⟨ne, aEX.f (((((((((((((((((FR.r.u (by unfold dEX; omega)).u (by unfold dEX; omega)).u (by unfold dEX; omega)).u (by unfold dEX; omega)).u (by unfold dEX; omega)).u (by unfold dEX; omega)).u (by unfold dEX; omega)).u (by unfold dEX; omega)).u (by unfold dEX; omega)).u (by unfold dEX; omega)).u (by unfold dEX; omega)).u (by unfold dEX; omega)).u (by unfold dEX; omega)).u (by unfold dEX; omega)).u (by unfold dEX; omega)).u (by unfold dEX; omega)).u (by unfold dEX; omega))⟩, aOW.f (((((((((((((((((FR.r.u (by unfold dOW; omega)).u (by unfold dOW; omega)).u (by unfold dOW; omega)).u (by unfold dOW; omega)).u (by unfold dOW; omega)).u (by unfold dOW; omega)).u (by unfold dOW; omega)).u (by unfold dOW; omega)).u (by unfold dOW; omega)).u (by unfold dOW; omega)).u (by unfold dOW; omega)).u (by unfold dOW; omega)).u (by unfold dOW; omega)).u (by unfold dOW; omega)).u (by unfold dOW; omega)).u (by unfold dOW; omega)).u (by unfold dOW; omega)), ⟨nt, aTO.f (((((((((((((((((FR.r.u (by unfold dTO; omega)).u (by unfold dTO; omega)).u (by unfold dTO; omega)).u (by unfold dTO; omega)).u (by unfold dTO; omega)).u (by unfold dTO; omega)).u (by unfold dTO; omega)).u (by unfold dTO; omega)).u (by unfold dTO; omega)).u (by unfold dTO; omega)).u (by unfold dTO; omega)).u (by unfold dTO; omega)).u (by unfold dTO; omega)).u (by unfold dTO; omega)).u (by unfold dTO; omega)).u (by unfold dTO; omega)).u (by unfold dTO; omega))⟩, ⟨N, aTX.f (((((((((((((((((FR.r.u (by unfold dTX; omega)).u (by unfold dTX; omega)).u (by unfold dTX; omega)).u (by unfold dTX; omega)).u (by unfold dTX; omega)).u (by unfold dTX; omega)).u (by unfold dTX; omega)).u (by unfold dTX; omega)).u (by unfold dTX; omega)).u (by unfold dTX; omega)).u (by unfold dTX; omega)).u (by unfold dTX; omega)).u (by unfold dTX; omega)).u (by unfold dTX; omega)).u (by unfold dTX; omega)).u (by unfold dTX; omega)).u (by unfold dTX; omega))⟩, aNM.f (((((((((((((((((FR.r.u (by unfold dNM; omega)).u (by unfold dNM; omega)).u (by unfold dNM; omega)).u (by unfold dNM; omega)).u (by unfold dNM; omega)).u (by unfold dNM; omega)).u (by unfold dNM; omega)).u (by unfold dNM; omega)).u (by unfold dNM; omega)).u (by unfold dNM; omega)).u (by unfold dNM; omega)).u (by unfold dNM; omega)).u (by unfold dNM; omega)).u (by unfold dNM; omega)).u (by unfold dNM; omega)).u (by unfold dNM; omega)).u (by unfold dNM; omega))⟩
      obtain ⟨a1, a2, a3, a4, a5, a6, a7, a8⟩ := aUN
      refine ⟨nu + 1, ?_, ?_, by omega, ?_, ?_, ?_, ?_, ?_⟩
      · repeat (first | rw [up2_t (by omega)] | rw [up2_f (by omega)])
      · repeat (first | rw [up2_t (by omega)] | rw [up2_f (by omega)])
      · intro u' j' hu' hj'
        have hj : j' = 0 ∨ j' = 1 ∨ j' = 2 ∨ j' = 3 ∨ j' = 4 ∨ j' = 5 ∨ j' = 6 ∨ j' = 7 ∨ j' = 8 ∨ j' = 9 := by omega
        by_cases hii : u' = nu
        · subst hii
          obtain ⟨b3, b4, b5, b6, b7, b8, b9, b10⟩ := a8 u' (by omega) hlt
          rcases hj with rfl | rfl | rfl | rfl | rfl | rfl | rfl | rfl | rfl | rfl <;> (repeat (first | rw [up2_t (by omega)] | rw [up2_f (by omega)])) <;> assumption
        · repeat rw [up2_f (by omega)]
          exact a4 u' j' (by omega) hj'
      · intro u' hu'
        by_cases hii : u' = nu
        · subst hii
          repeat (first | rw [up2_t (by omega)] | rw [up2_f (by omega)])
          exact (a8 u' (by omega) hlt).2.2.2.2.2.2.2
        · repeat rw [up2_f (by omega)]
          exact a5 u' (by omega)
      · intro u' hu'
        by_cases hii : u' = nu
        · subst hii
          repeat (first | rw [up2_t (by omega)] | rw [up2_f (by omega)])
          decide
        · repeat rw [up2_f (by omega)]
          exact a6 u' (by omega)
      · intro u' hu'
        unfold rUR
        by_cases hii : u' = nu
        · subst hii
          refine ⟨?_, ?_, ?_, ?_⟩ <;> (repeat (first | rw [up2_t (by omega)] | rw [up2_f (by omega)]))
          · exact inB_gwi.mpr hP.1
          · exact inB_gwi.mpr hP.2.1
          · exact inB_gwi.mpr hP.2.2
          · decide
        · have := a7 u' (by omega)
          unfold rUR at this
          refine ⟨?_, ?_, ?_, ?_⟩ <;> (repeat rw [up2_f (by omega)])
          · exact this.1
          · exact this.2.1
          · exact this.2.2.1
          · exact this.2.2.2
      · intro u' hu' h40
        have := a8 u' (by omega) h40
        unfold rFU at *
        refine ⟨?_, ?_, ?_, ?_, ?_, ?_, ?_, ?_⟩ <;> (repeat rw [up2_f (by omega)])
        · exact this.1
        · exact this.2.1
        · exact this.2.2.1
        · exact this.2.2.2.1
        · exact this.2.2.2.2.1
        · exact this.2.2.2.2.2.1
        · exact this.2.2.2.2.2.2.1
        · exact this.2.2.2.2.2.2.2
    · intro _
      rw [up2_s, eb, e0, if_neg (by decide)]
      exact nI_pred nu
  · have eb := nb_t e hP
    refine ⟨aUN.2.1, ?_, ?_, fun h => absurd h (by decide)⟩
    · rw [mUn, if_pos (by rw [eb]; rfl), up2_s, eb]
      rfl
    · rw [mUn, if_pos (by rw [eb]; rfl)]
      exact h.t
  · have eb := e.mpr hP
    have hnu : nu = 40 := by
      have : ¬ nu < 40 := fun hh => h4 (by rw [aUN.1, e40]; exact nI_lt hh (by omega))
      omega
    have e0 : decide (nI nu = 40) = true := decide_eq_true (by rw [hnu, e40])
    refine ⟨aUN.2.1, ?_, ?_, fun h => absurd h (by decide)⟩
    · rw [mUn, if_pos (by rw [e0, Bool.or_true]), up2_s, eb, e0]
      rfl
    · rw [mUn, if_pos (by rw [e0, Bool.or_true])]
      exact h.t
theorem st_m {x : Int32} (h : inB x (-1) 11 = true) : x < 0 ↔ x = (-1) := by
  have h1 := (inB_gwi.mp h).1
  constructor
  · intro h2
    apply Int32.toInt_inj.mp
    rw [Int32.lt_iff_toInt_lt] at h1 h2
    have e1 : (-1 : Int32).toInt = -1 := by decide
    have e0 : (0 : Int32).toInt = 0 := by decide
    omega
  · rintro rfl
    decide
def hsz (σ : Nat → Nat → Int32) (a b d f g z : Int32) (s1 : Nat → Nat → Int32) : Prop := (z = 0 ∧ (¬ a < 0 ∧ a < σ 0 2) ∧ (gwi b 1 9999 ∧ gwi d 1 9999 ∧ gwi f 1 9999 ∧ gwi g 1 1000000) ∧ σ (80 + a.toNatClampNeg) 10 = (-1) ∧ s1 = up2 (up2 (up2 (up2 σ (80 + a.toNatClampNeg) 3 b) (80 + a.toNatClampNeg) 4 d) (80 + a.toNatClampNeg) 5 f) (80 + a.toNatClampNeg) 6 g) ∨ (z = 1 ∧ ¬ (¬ a < 0 ∧ a < σ 0 2) ∧ s1 = σ) ∨ (z = 2 ∧ (¬ a < 0 ∧ a < σ 0 2) ∧ ¬ (gwi b 1 9999 ∧ gwi d 1 9999 ∧ gwi f 1 9999 ∧ gwi g 1 1000000) ∧ s1 = σ) ∨ (z = 3 ∧ (¬ a < 0 ∧ a < σ 0 2) ∧ (gwi b 1 9999 ∧ gwi d 1 9999 ∧ gwi f 1 9999 ∧ gwi g 1 1000000) ∧ ¬ σ (80 + a.toNatClampNeg) 10 = (-1) ∧ s1 = σ)
theorem r_size {σ s1 : Nat → Nat → Int32} {nu : Nat} {a b d f g z : Int32} (h : RR σ) (aUN : rUN σ nu) (hp : hsz σ a b d f g z s1) : s1 140 2 = nI nu ∧ mSz s1 nu a b d f g 140 0 = z ∧ RR (mSz s1 nu a b d f g) := by
  have e : bdS b d f g = false ↔ (gwi b 1 9999 ∧ gwi d 1 9999 ∧ gwi f 1 9999 ∧ gwi g 1 1000000) := by
    simp only [bdS, szB, Bool.or_eq_false_iff, Bool.not_eq_false', Bool.and_eq_true, inB_gwi, and_assoc]
  have hn4 := aUN.2.2.1
  have eu : (¬ a < 0 ∧ a < σ 0 2) ↔ unB nu a = true := un_e aUN.1 hn4
  rcases hp with ⟨rfl, hU, hP, h10, rfl⟩ | ⟨rfl, hU, rfl⟩ | ⟨rfl, hU, hP, rfl⟩ | ⟨rfl, hU, hP, h10, rfl⟩
  · have eub := eu.mp hU
    have eb := e.mpr hP
    obtain ⟨u, hu, rfl⟩ := unB_n (by omega) eub
    rw [nI_clamp (by omega)] at *
    have es : sdB (up2 (up2 (up2 (up2 σ (80 + u) 3 b) (80 + u) 4 d) (80 + u) 5 f) (80 + u) 6 g) nu (nI u) = false := by
      unfold sdB
      rw [nI_clamp (by omega)]
      repeat rw [up2_f (by omega)]
      have h6 := aUN.2.2.2.2.2.1 u hu
      have h5 := aUN.2.2.2.2.1 u hu
      rw [h10] at h5
      rw [eub, ← h5]
      decide
    refine ⟨by repeat rw [up2_f (by omega)]
               exact aUN.2.1, ?_, ?_⟩
    · rw [mSz, if_neg (by rw [eub, eb, es]; decide), eub, eb, es, nI_clamp (by omega)]
      unfold lyS
      repeat (first | rw [up2_t (by omega)] | rw [up2_f (by omega)])
      rfl
    · rw [mSz, if_neg (by rw [eub, eb, es]; decide), eub, eb, es, nI_clamp (by omega)]
      unfold lyS
      obtain ⟨aPL, ⟨_, _⟩, ⟨n, nc, aRU⟩, ⟨ne, aEX⟩, aOW, ⟨nt, aTO⟩, ⟨N, aTX⟩, aNM⟩ := h
      refine ⟨aPL.f (((((((((FR.r.u (by unfold dPL; omega)).u (by unfold dPL; omega)).u (by unfold dPL; omega)).u (by unfold dPL; omega)).u (by unfold dPL; omega)).u (by unfold dPL; omega)).u (by unfold dPL; omega)).u (by unfold dPL; omega)).u (by unfold dPL; omega)), ?_, ⟨n, nc, aRU.f (((((((((FR.r.u (by unfold dRU; omega)).u (by unfold dRU; omega)).u (by unfold dRU; omega)).u (by unfold dRU; omega)).u (by unfold dRU; omega)).u (by unfold dRU; omega)).u (by unfold dRU; omega)).u (by unfold dRU; omega)).u (by unfold dRU; omega))⟩, ⟨ne, aEX.f (((((((((FR.r.u (by unfold dEX; omega)).u (by unfold dEX; omega)).u (by unfold dEX; omega)).u (by unfold dEX; omega)).u (by unfold dEX; omega)).u (by unfold dEX; omega)).u (by unfold dEX; omega)).u (by unfold dEX; omega)).u (by unfold dEX; omega))⟩, aOW.f (((((((((FR.r.u (by unfold dOW; omega)).u (by unfold dOW; omega)).u (by unfold dOW; omega)).u (by unfold dOW; omega)).u (by unfold dOW; omega)).u (by unfold dOW; omega)).u (by unfold dOW; omega)).u (by unfold dOW; omega)).u (by unfold dOW; omega)), ⟨nt, aTO.f (((((((((FR.r.u (by unfold dTO; omega)).u (by unfold dTO; omega)).u (by unfold dTO; omega)).u (by unfold dTO; omega)).u (by unfold dTO; omega)).u (by unfold dTO; omega)).u (by unfold dTO; omega)).u (by unfold dTO; omega)).u (by unfold dTO; omega))⟩, ⟨N, aTX.f (((((((((FR.r.u (by unfold dTX; omega)).u (by unfold dTX; omega)).u (by unfold dTX; omega)).u (by unfold dTX; omega)).u (by unfold dTX; omega)).u (by unfold dTX; omega)).u (by unfold dTX; omega)).u (by unfold dTX; omega)).u (by unfold dTX; omega))⟩, aNM.f (((((((((FR.r.u (by unfold dNM; omega)).u (by unfold dNM; omega)).u (by unfold dNM; omega)).u (by unfold dNM; omega)).u (by unfold dNM; omega)).u (by unfold dNM; omega)).u (by unfold dNM; omega)).u (by unfold dNM; omega)).u (by unfold dNM; omega))⟩
      obtain ⟨a1, a2, a3, a4, a5, a6, a7, a8⟩ := aUN
      refine ⟨nu, ?_, ?_, a3, ?_, ?_, ?_, ?_, ?_⟩
      · repeat (first | rw [up2_t (by omega)] | rw [up2_f (by omega)])
        exact a1
      · repeat (first | rw [up2_t (by omega)] | rw [up2_f (by omega)])
        exact a2
      · intro u' j' hu' hj'
        have hj : j' = 0 ∨ j' = 1 ∨ j' = 2 ∨ j' = 3 ∨ j' = 4 ∨ j' = 5 ∨ j' = 6 ∨ j' = 7 ∨ j' = 8 ∨ j' = 9 := by omega
        by_cases hii : u' = u
        · subst hii
          rcases hj with rfl | rfl | rfl | rfl | rfl | rfl | rfl | rfl | rfl | rfl <;> (repeat (first | rw [up2_t (by omega)] | rw [up2_f (by omega)])) <;> exact a4 u' _ hu' (by omega)
        · repeat rw [up2_f (by omega)]
          exact a4 u' j' (by omega) hj'
      · intro u' hu'
        repeat rw [up2_f (by omega)]
        exact a5 u' (by omega)
      · intro u' hu'
        repeat rw [up2_f (by omega)]
        exact a6 u' (by omega)
      · intro u' hu'
        have := a7 u' (by omega)
        unfold rUR at *
        refine ⟨?_, ?_, ?_, ?_⟩
        · repeat rw [up2_f (by omega)]
          exact this.1
        · repeat rw [up2_f (by omega)]
          exact this.2.1
        · repeat rw [up2_f (by omega)]
          exact this.2.2.1
        · repeat rw [up2_f (by omega)]
          exact this.2.2.2
      · intro u' hu' h40
        have := a8 u' (by omega) h40
        unfold rFU at *
        refine ⟨?_, ?_, ?_, ?_, ?_, ?_, ?_, ?_⟩ <;> (repeat rw [up2_f (by omega)])
        · exact this.1
        · exact this.2.1
        · exact this.2.2.1
        · exact this.2.2.2.1
        · exact this.2.2.2.2.1
        · exact this.2.2.2.2.2.1
        · exact this.2.2.2.2.2.2.1
        · exact this.2.2.2.2.2.2.2
  · have eub : unB nu a = false := b_n.mp (fun hh => hU (eu.mpr hh))
    refine ⟨aUN.2.1, ?_, ?_⟩
    · rw [mSz, if_pos (by rw [eub]; rfl), up2_s, eub]
      rfl
    · rw [mSz, if_pos (by rw [eub]; rfl)]
      exact h.t
  · have eub := eu.mp hU
    have eb := nb_t e hP
    refine ⟨aUN.2.1, ?_, ?_⟩
    · rw [mSz, if_pos (by rw [eub, eb]; rfl), up2_s, eub, eb]
      rfl
    · rw [mSz, if_pos (by rw [eub, eb]; rfl)]
      exact h.t
  · have eub := eu.mp hU
    have eb := e.mpr hP
    have es : sdB s1 nu a = true := by
      unfold sdB
      rw [eub]
      obtain ⟨u, hu, rfl⟩ := unB_n (by omega) eub
      rw [nI_clamp (by omega)] at *
      have h6 := st_m (aUN.2.2.2.2.2.1 u hu)
      have h5 := aUN.2.2.2.2.1 u hu
      rw [h5] at h10
      rw [decide_eq_false (fun hh => h10 (h6.mp hh))]
      rfl
    refine ⟨aUN.2.1, ?_, ?_⟩
    · rw [mSz, if_pos (by rw [eub, eb, es]; rfl), up2_s, eub, eb, es]
      rfl
    · rw [mSz, if_pos (by rw [eub, eb, es]; rfl)]
      exact h.t
def hnt (σ : Nat → Nat → Int32) (a b d f z : Int32) (s1 : Nat → Nat → Int32) : Prop := (z = 0 ∧ (¬ a < 0 ∧ a < σ 0 2) ∧ (gwi b 0 7 ∧ gwi d 0 7 ∧ gwi f 0 1000) ∧ σ (80 + a.toNatClampNeg) 10 = (-1) ∧ s1 = up2 (up2 (up2 σ (80 + a.toNatClampNeg) 7 b) (80 + a.toNatClampNeg) 8 d) (80 + a.toNatClampNeg) 9 f) ∨ (z = 1 ∧ ¬ (¬ a < 0 ∧ a < σ 0 2) ∧ s1 = σ) ∨ (z = 2 ∧ (¬ a < 0 ∧ a < σ 0 2) ∧ ¬ (gwi b 0 7 ∧ gwi d 0 7 ∧ gwi f 0 1000) ∧ s1 = σ) ∨ (z = 3 ∧ (¬ a < 0 ∧ a < σ 0 2) ∧ (gwi b 0 7 ∧ gwi d 0 7 ∧ gwi f 0 1000) ∧ ¬ σ (80 + a.toNatClampNeg) 10 = (-1) ∧ s1 = σ)
theorem r_nature {σ s1 : Nat → Nat → Int32} {nu : Nat} {a b d f z : Int32} (h : RR σ) (aUN : rUN σ nu) (hp : hnt σ a b d f z s1) : s1 140 2 = nI nu ∧ mNt s1 nu a b d f 140 0 = z ∧ RR (mNt s1 nu a b d f) := by
  have e : bdN b d f = false ↔ (gwi b 0 7 ∧ gwi d 0 7 ∧ gwi f 0 1000) := by
    simp only [bdN, Bool.or_eq_false_iff, Bool.not_eq_false', Bool.and_eq_true, inB_gwi, and_assoc]
  have hn4 := aUN.2.2.1
  have eu : (¬ a < 0 ∧ a < σ 0 2) ↔ unB nu a = true := un_e aUN.1 hn4
  rcases hp with ⟨rfl, hU, hP, h10, rfl⟩ | ⟨rfl, hU, rfl⟩ | ⟨rfl, hU, hP, rfl⟩ | ⟨rfl, hU, hP, h10, rfl⟩
  · have eub := eu.mp hU
    have eb := e.mpr hP
    obtain ⟨u, hu, rfl⟩ := unB_n (by omega) eub
    rw [nI_clamp (by omega)] at *
    have es : sdB (up2 (up2 (up2 σ (80 + u) 7 b) (80 + u) 8 d) (80 + u) 9 f) nu (nI u) = false := by
      unfold sdB
      rw [nI_clamp (by omega)]
      repeat rw [up2_f (by omega)]
      have h6 := aUN.2.2.2.2.2.1 u hu
      have h5 := aUN.2.2.2.2.1 u hu
      rw [h10] at h5
      rw [eub, ← h5]
      decide
    refine ⟨by repeat rw [up2_f (by omega)]
               exact aUN.2.1, ?_, ?_⟩
    · rw [mNt, if_neg (by rw [eub, eb, es]; decide), eub, eb, es, nI_clamp (by omega)]
      unfold lyS
      repeat (first | rw [up2_t (by omega)] | rw [up2_f (by omega)])
      rfl
    · rw [mNt, if_neg (by rw [eub, eb, es]; decide), eub, eb, es, nI_clamp (by omega)]
      unfold lyS
      obtain ⟨aPL, ⟨_, _⟩, ⟨n, nc, aRU⟩, ⟨ne, aEX⟩, aOW, ⟨nt, aTO⟩, ⟨N, aTX⟩, aNM⟩ := h
      refine ⟨aPL.f (((((((FR.r.u (by unfold dPL; omega)).u (by unfold dPL; omega)).u (by unfold dPL; omega)).u (by unfold dPL; omega)).u (by unfold dPL; omega)).u (by unfold dPL; omega)).u (by unfold dPL; omega)), ?_, ⟨n, nc, aRU.f (((((((FR.r.u (by unfold dRU; omega)).u (by unfold dRU; omega)).u (by unfold dRU; omega)).u (by unfold dRU; omega)).u (by unfold dRU; omega)).u (by unfold dRU; omega)).u (by unfold dRU; omega))⟩, ⟨ne, aEX.f (((((((FR.r.u (by unfold dEX; omega)).u (by unfold dEX; omega)).u (by unfold dEX; omega)).u (by unfold dEX; omega)).u (by unfold dEX; omega)).u (by unfold dEX; omega)).u (by unfold dEX; omega))⟩, aOW.f (((((((FR.r.u (by unfold dOW; omega)).u (by unfold dOW; omega)).u (by unfold dOW; omega)).u (by unfold dOW; omega)).u (by unfold dOW; omega)).u (by unfold dOW; omega)).u (by unfold dOW; omega)), ⟨nt, aTO.f (((((((FR.r.u (by unfold dTO; omega)).u (by unfold dTO; omega)).u (by unfold dTO; omega)).u (by unfold dTO; omega)).u (by unfold dTO; omega)).u (by unfold dTO; omega)).u (by unfold dTO; omega))⟩, ⟨N, aTX.f (((((((FR.r.u (by unfold dTX; omega)).u (by unfold dTX; omega)).u (by unfold dTX; omega)).u (by unfold dTX; omega)).u (by unfold dTX; omega)).u (by unfold dTX; omega)).u (by unfold dTX; omega))⟩, aNM.f (((((((FR.r.u (by unfold dNM; omega)).u (by unfold dNM; omega)).u (by unfold dNM; omega)).u (by unfold dNM; omega)).u (by unfold dNM; omega)).u (by unfold dNM; omega)).u (by unfold dNM; omega))⟩
      obtain ⟨a1, a2, a3, a4, a5, a6, a7, a8⟩ := aUN
      refine ⟨nu, ?_, ?_, a3, ?_, ?_, ?_, ?_, ?_⟩
      · repeat (first | rw [up2_t (by omega)] | rw [up2_f (by omega)])
        exact a1
      · repeat (first | rw [up2_t (by omega)] | rw [up2_f (by omega)])
        exact a2
      · intro u' j' hu' hj'
        have hj : j' = 0 ∨ j' = 1 ∨ j' = 2 ∨ j' = 3 ∨ j' = 4 ∨ j' = 5 ∨ j' = 6 ∨ j' = 7 ∨ j' = 8 ∨ j' = 9 := by omega
        by_cases hii : u' = u
        · subst hii
          rcases hj with rfl | rfl | rfl | rfl | rfl | rfl | rfl | rfl | rfl | rfl <;> (repeat (first | rw [up2_t (by omega)] | rw [up2_f (by omega)])) <;> exact a4 u' _ hu' (by omega)
        · repeat rw [up2_f (by omega)]
          exact a4 u' j' (by omega) hj'
      · intro u' hu'
        repeat rw [up2_f (by omega)]
        exact a5 u' (by omega)
      · intro u' hu'
        repeat rw [up2_f (by omega)]
        exact a6 u' (by omega)
      · intro u' hu'
        have := a7 u' (by omega)
        unfold rUR at *
        refine ⟨?_, ?_, ?_, ?_⟩
        · repeat rw [up2_f (by omega)]
          exact this.1
        · repeat rw [up2_f (by omega)]
          exact this.2.1
        · repeat rw [up2_f (by omega)]
          exact this.2.2.1
        · by_cases hii : u' = u
          · subst hii
            repeat (first | rw [up2_t (by omega)] | rw [up2_f (by omega)])
            exact inB_gwi.mpr hP.1
          · repeat rw [up2_f (by omega)]
            exact this.2.2.2
      · intro u' hu' h40
        have := a8 u' (by omega) h40
        unfold rFU at *
        refine ⟨?_, ?_, ?_, ?_, ?_, ?_, ?_, ?_⟩ <;> (repeat rw [up2_f (by omega)])
        · exact this.1
        · exact this.2.1
        · exact this.2.2.1
        · exact this.2.2.2.1
        · exact this.2.2.2.2.1
        · exact this.2.2.2.2.2.1
        · exact this.2.2.2.2.2.2.1
        · exact this.2.2.2.2.2.2.2
  · have eub : unB nu a = false := b_n.mp (fun hh => hU (eu.mpr hh))
    refine ⟨aUN.2.1, ?_, ?_⟩
    · rw [mNt, if_pos (by rw [eub]; rfl), up2_s, eub]
      rfl
    · rw [mNt, if_pos (by rw [eub]; rfl)]
      exact h.t
  · have eub := eu.mp hU
    have eb := nb_t e hP
    refine ⟨aUN.2.1, ?_, ?_⟩
    · rw [mNt, if_pos (by rw [eub, eb]; rfl), up2_s, eub, eb]
      rfl
    · rw [mNt, if_pos (by rw [eub, eb]; rfl)]
      exact h.t
  · have eub := eu.mp hU
    have eb := e.mpr hP
    have es : sdB s1 nu a = true := by
      unfold sdB
      rw [eub]
      obtain ⟨u, hu, rfl⟩ := unB_n (by omega) eub
      rw [nI_clamp (by omega)] at *
      have h6 := st_m (aUN.2.2.2.2.2.1 u hu)
      have h5 := aUN.2.2.2.2.1 u hu
      rw [h5] at h10
      rw [decide_eq_false (fun hh => h10 (h6.mp hh))]
      rfl
    refine ⟨aUN.2.1, ?_, ?_⟩
    · rw [mNt, if_pos (by rw [eub, eb, es]; rfl), up2_s, eub, eb, es]
      rfl
    · rw [mNt, if_pos (by rw [eub, eb, es]; rfl)]
      exact h.t
