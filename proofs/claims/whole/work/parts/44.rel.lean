/-! The relation between the class's cells and the reference's, and what keeps it. -/
def rPL (σ : Nat → Nat → Int32) : Prop := ∀ i j, i < 12 → j < 5 → σ (68 + i) j = σ 141 (5 * i + j)
def rFU (σ : Nat → Nat → Int32) (u : Nat) : Prop := σ (80 + u) 3 = 100 ∧ σ (80 + u) 4 = 100 ∧ σ (80 + u) 5 = 100 ∧ σ (80 + u) 6 = 1000 ∧ σ (80 + u) 7 = 0 ∧ σ (80 + u) 8 = 0 ∧ σ (80 + u) 9 = 1000 ∧ σ (80 + u) 10 = (-1)
def rUR (σ : Nat → Nat → Int32) (u : Nat) : Prop := inB (σ 142 (10 * u)) 0 99 = true ∧ inB (σ 142 (10 * u + 1)) 0 99 = true ∧ inB (σ 142 (10 * u + 2)) 0 7 = true ∧ inB (σ 142 (10 * u + 7)) 0 7 = true
def rUN (σ : Nat → Nat → Int32) (nu : Nat) : Prop := σ 0 2 = nI nu ∧ σ 140 2 = nI nu ∧ nu ≤ 40 ∧ (∀ u j, u < nu → j < 10 → σ (80 + u) j = σ 142 (10 * u + j)) ∧ (∀ u, u < nu → σ (80 + u) 10 = σ 143 u) ∧ (∀ u, u < nu → inB (σ 143 u) (-1) 11 = true) ∧ (∀ u, u < nu → rUR σ u) ∧ ∀ u, nu ≤ u → u < 40 → rFU σ u
def rRU (σ : Nat → Nat → Int32) (n nc : Nat) : Prop := CB σ n nc ∧ σ 140 5 = nI n ∧ σ 140 18 = nI nc ∧ (∀ r j, r < n → j < 5 → σ (9 + r) j = σ (144 + j) r) ∧ (∀ r, n ≤ r → r < 24 → σ (9 + r) 4 = 0) ∧ (∀ r, r < n → ∃ k, σ 145 r = nI k ∧ rkeep (σ 144 r, k, σ 146 r, σ 147 r)) ∧ ∀ z, z < nc → σ 7 z = σ 154 (2 * z) ∧ σ 8 z = σ 154 (2 * z + 1)
def rEX (σ : Nat → Nat → Int32) (ne : Nat) : Prop := σ 0 4 = nI ne ∧ σ 140 11 = nI ne ∧ ne ≤ 20 ∧ (∀ j q, j < ne → q < 4 → σ (120 + j) q = σ (149 + q) j) ∧ (∀ j, j < ne → inB (σ 150 j) (-1) 11 = true ∧ inB (σ 151 j) (-1) 7 = true) ∧ ∀ i j, i < j → j < ne → ¬ (σ 149 i = σ 149 j ∧ σ 150 i = σ 150 j ∧ σ 151 i = σ 151 j)
def rOW (σ : Nat → Nat → Int32) : Prop := (∀ q, q < 4 → σ 34 q = σ 153 q) ∧ σ 33 1 = σ 140 17
def rTO (σ : Nat → Nat → Int32) (nt : Nat) : Prop := σ 0 10 = nI nt ∧ σ 140 20 = nI nt ∧ nt ≤ 24 ∧ ∀ i, i < nt → σ 67 i = σ 155 i
def rTX (σ : Nat → Nat → Int32) (N : Nat) : Prop := σ 35 1 = nI N ∧ σ 140 22 = nI N ∧ N ≤ 400 ∧ (∀ i, σ 36 i = σ 156 i) ∧ KDV σ
def RR (σ : Nat → Nat → Int32) : Prop := rPL σ ∧ (∃ nu, rUN σ nu) ∧ (∃ n nc, rRU σ n nc) ∧ (∃ ne, rEX σ ne) ∧ rOW σ ∧ (∃ nt, rTO σ nt) ∧ (∃ N, rTX σ N) ∧ NMH σ
def dPL (k j : Nat) : Prop := (68 ≤ k ∧ k < 80) ∨ k = 141
def dUN (k j : Nat) : Prop := (k = 0 ∧ j = 2) ∨ (k = 140 ∧ j = 2) ∨ (80 ≤ k ∧ k < 120) ∨ k = 142 ∨ k = 143
def dRU (k j : Nat) : Prop := (k = 4 ∧ (j = 2 ∨ j = 5)) ∨ k = 6 ∨ k = 7 ∨ k = 8 ∨ (9 ≤ k ∧ k < 33) ∨ (k = 140 ∧ (j = 5 ∨ j = 18)) ∨ (144 ≤ k ∧ k < 149) ∨ k = 154
def dEX (k j : Nat) : Prop := (k = 0 ∧ j = 4) ∨ (k = 140 ∧ j = 11) ∨ (120 ≤ k ∧ k < 140) ∨ (149 ≤ k ∧ k < 153)
def dOW (k j : Nat) : Prop := k = 34 ∨ k = 153 ∨ (k = 33 ∧ j = 1) ∨ (k = 140 ∧ j = 17)
def dTO (k j : Nat) : Prop := (k = 0 ∧ j = 10) ∨ (k = 140 ∧ j = 20) ∨ k = 67 ∨ k = 155
def dTX (k j : Nat) : Prop := (k = 35 ∧ (j = 1 ∨ j = 6)) ∨ k = 36 ∨ (38 ≤ k ∧ k < 62) ∨ (k = 140 ∧ j = 22) ∨ k = 156
def dNM (k j : Nat) : Prop := k = 157
def FR (D : Nat → Nat → Prop) (s σ : Nat → Nat → Int32) : Prop := ∀ k j, D k j → s k j = σ k j
theorem FR.t {D : Nat → Nat → Prop} {s t σ : Nat → Nat → Int32} (h1 : FR D s t) (h2 : FR D t σ) : FR D s σ := fun k j hD => (h1 k j hD).trans (h2 k j hD)
theorem FR.r {D : Nat → Nat → Prop} {σ : Nat → Nat → Int32} : FR D σ σ := fun _ _ _ => rfl
theorem FR.u {D : Nat → Nat → Prop} {s σ : Nat → Nat → Int32} {k j : Nat} {v : Int32} (h : FR D s σ) (hn : ¬ D k j) : FR D (up2 s k j v) σ := fun q i hD => by
  rw [up2_at, if_neg (fun hh => hn (by rw [← hh.1, ← hh.2]; exact hD))]
  exact h q i hD
section FRS
variable {s σ : Nat → Nat → Int32}
theorem rPL.f (h : rPL σ) (hf : FR dPL s σ) : rPL s := fun i j hi hj => by
  rw [hf _ _ (show dPL (68 + i) j from by unfold dPL; omega), hf _ _ (show dPL 141 (5 * i + j) from by unfold dPL; omega)]
  exact h i j hi hj
theorem rUN.f {nu : Nat} (h : rUN σ nu) (hf : FR dUN s σ) : rUN s nu := by
  obtain ⟨a1, a2, a3, a4, a5, a6, a7, a8⟩ := h
  have h42 : s 142 = σ 142 := funext fun j => hf _ _ (by unfold dUN; omega)
  have h43 : s 143 = σ 143 := funext fun j => hf _ _ (by unfold dUN; omega)
  have h80 : ∀ u, u < 40 → s (80 + u) = σ (80 + u) := fun u hu => funext fun j => hf _ _ (by unfold dUN; omega)
  refine ⟨(hf _ _ (by unfold dUN; omega)).trans a1, (hf _ _ (by unfold dUN; omega)).trans a2, a3, ?_, ?_, ?_, ?_, ?_⟩
  · intro u j hu hj
    rw [h80 u (by omega), h42]
    exact a4 u j hu hj
  · intro u hu
    rw [h80 u (by omega), h43]
    exact a5 u hu
  · intro u hu
    rw [h43]
    exact a6 u hu
  · intro u hu
    unfold rUR
    rw [h42]
    exact a7 u hu
  · intro u hu h4
    unfold rFU
    rw [h80 u h4]
    exact a8 u hu h4
theorem CB.f {n nc : Nat} (h : CB σ n nc) (hf : FR dRU s σ) : CB s n nc := by
  have h6 : s 6 = σ 6 := funext fun j => hf _ _ (by unfold dRU; omega)
  have h9 : ∀ r, r < 24 → s (9 + r) = σ (9 + r) := fun r hr => funext fun j => hf _ _ (by unfold dRU; omega)
  have h4 : s 4 2 = σ 4 2 := hf _ _ (by unfold dRU; omega)
  have h5 : s 4 5 = σ 4 5 := hf _ _ (by unfold dRU; omega)
  obtain ⟨i1, i2, i3, i4⟩ := h
  refine ⟨i1.mono h4 h6 (fun r hr => by rw [h9 r hr]; exact ⟨rfl, rfl⟩), ?_, h5.trans i3, i4⟩
  have hn := i1.2.1
  obtain ⟨o1, o2, o3⟩ := i2
  rw [h6]
  refine ⟨o1, o2, ?_⟩
  intro i j a b hij hj ha hb ha2 hb2
  have := o3 i j a b hij hj ha hb ha2 hb2
  show s (9 + a) 0 < s (9 + b) 0 ∨ (s (9 + a) 0 = s (9 + b) 0 ∧ a < b)
  rw [h9 a (by omega), h9 b (by omega)]
  exact this
theorem rRU.f {n nc : Nat} (h : rRU σ n nc) (hf : FR dRU s σ) : rRU s n nc := by
  obtain ⟨a1, a2, a3, a4, a5, a6, a7⟩ := h
  have hn := a1.1.2.1
  refine ⟨a1.f hf, (hf _ _ (by unfold dRU; omega)).trans a2, (hf _ _ (by unfold dRU; omega)).trans a3, ?_, ?_, ?_, ?_⟩
  · intro r j hr hj
    rw [hf (9 + r) j (by unfold dRU; omega), hf (144 + j) r (by unfold dRU; omega)]
    exact a4 r j hr hj
  · intro r h1 h2
    rw [hf (9 + r) 4 (by unfold dRU; omega)]
    exact a5 r h1 h2
  · intro r hr
    rw [hf 144 r (by unfold dRU; omega), hf 145 r (by unfold dRU; omega), hf 146 r (by unfold dRU; omega), hf 147 r (by unfold dRU; omega)]
    exact a6 r hr
  · intro z hz
    rw [hf 7 z (by unfold dRU; omega), hf 8 z (by unfold dRU; omega), hf 154 (2 * z) (by unfold dRU; omega), hf 154 (2 * z + 1) (by unfold dRU; omega)]
    exact a7 z hz
theorem rEX.f {ne : Nat} (h : rEX σ ne) (hf : FR dEX s σ) : rEX s ne := by
  obtain ⟨a1, a2, a3, a4, a5, a6⟩ := h
  refine ⟨(hf _ _ (by unfold dEX; omega)).trans a1, (hf _ _ (by unfold dEX; omega)).trans a2, a3, ?_, ?_, ?_⟩
  · intro j q hj hq
    rw [hf (120 + j) q (by unfold dEX; omega), hf (149 + q) j (by unfold dEX; omega)]
    exact a4 j q hj hq
  · intro j hj
    rw [hf 150 j (by unfold dEX; omega), hf 151 j (by unfold dEX; omega)]
    exact a5 j hj
  · intro i j hi hj
    rw [hf 149 i (by unfold dEX; omega), hf 150 i (by unfold dEX; omega), hf 151 i (by unfold dEX; omega), hf 149 j (by unfold dEX; omega), hf 150 j (by unfold dEX; omega), hf 151 j (by unfold dEX; omega)]
    exact a6 i j hi hj
theorem rOW.f (h : rOW σ) (hf : FR dOW s σ) : rOW s := by
  refine ⟨fun q hq => ?_, ?_⟩
  · rw [hf 34 q (by unfold dOW; omega), hf 153 q (by unfold dOW; omega)]
    exact h.1 q hq
  · rw [hf 33 1 (by unfold dOW; omega), hf 140 17 (by unfold dOW; omega)]
    exact h.2
theorem rTO.f {nt : Nat} (h : rTO σ nt) (hf : FR dTO s σ) : rTO s nt := by
  obtain ⟨a1, a2, a3, a4⟩ := h
  refine ⟨(hf _ _ (by unfold dTO; omega)).trans a1, (hf _ _ (by unfold dTO; omega)).trans a2, a3, fun i hi => ?_⟩
  rw [hf 67 i (by unfold dTO; omega), hf 155 i (by unfold dTO; omega)]
  exact a4 i hi
theorem rTX.f {N : Nat} (h : rTX σ N) (hf : FR dTX s σ) : rTX s N := by
  obtain ⟨a1, a2, a3, a4, ⟨b1, b2⟩⟩ := h
  refine ⟨(hf _ _ (by unfold dTX; omega)).trans a1, (hf _ _ (by unfold dTX; omega)).trans a2, a3, fun i => ?_, ?_, fun i hi => ?_⟩
  · rw [hf 36 i (by unfold dTX; omega), hf 156 i (by unfold dTX; omega)]
    exact a4 i
  · rw [hf 35 6 (by unfold dTX; omega)]
    exact b1
  · rw [hf (38 + i) 1 (by unfold dTX; omega)]
    exact b2 i hi
theorem NMH.f (h : NMH σ) (hf : FR dNM s σ) : NMH s := fun k j hk hj => by
  rw [hf 157 _ (show dNM 157 _ from rfl)]
  exact h k j hk hj
def dAL (k j : Nat) : Prop := ¬ (k = 140 ∧ j = 0)
theorem FR.al {D : Nat → Nat → Prop} (h : FR dAL s σ) (hD : ∀ k j, D k j → dAL k j) : FR D s σ := fun k j hd => h k j (hD k j hd)
theorem RR.f (h : RR σ) (hf : FR dAL s σ) : RR s := by
  obtain ⟨a1, ⟨nu, a2⟩, ⟨n, nc, a3⟩, ⟨ne, a4⟩, a5, ⟨nt, a6⟩, ⟨N, a7⟩, a8⟩ := h
  exact ⟨a1.f (hf.al (by intro k j; unfold dPL dAL; omega)), ⟨nu, a2.f (hf.al (by intro k j; unfold dUN dAL; omega))⟩, ⟨n, nc, a3.f (hf.al (by intro k j; unfold dRU dAL; omega))⟩, ⟨ne, a4.f (hf.al (by intro k j; unfold dEX dAL; omega))⟩, a5.f (hf.al (by intro k j; unfold dOW dAL; omega)), ⟨nt, a6.f (hf.al (by intro k j; unfold dTO dAL; omega))⟩, ⟨N, a7.f (hf.al (by intro k j; unfold dTX dAL; omega))⟩, a8.f (hf.al (by intro k j; unfold dNM dAL; omega))⟩
theorem RR.t {v : Int32} (h : RR σ) : RR (up2 σ 140 0 v) := h.f (FR.r.u (by unfold dAL; omega))
end FRS
