/-! All rules asked: the class in its order, the reference rank by rank. Written by wip/tools/m48.py. -/
theorem pr_as {f : Nat → Int32} {a b : Nat} (h1 : f a < f b ∨ (f a = f b ∧ a < b)) (h2 : f b < f a ∨ (f b = f a ∧ b < a)) : False := by
  rcases h1 with h1 | h1 <;> rcases h2 with h2 | h2
  · exact Int32.lt_irrefl (Int32.lt_trans h1 h2)
  · rw [h2.1] at h1
    exact Int32.lt_irrefl h1
  · rw [h1.1] at h2
    exact Int32.lt_irrefl h2
  · omega
theorem crk_z {f : Nat → Int32} {K : Int32} {j : Nat} : ∀ m, (∀ q, q < m → ¬ (f q < K ∨ (f q = K ∧ q < j))) → crk f K j m = 0
  | 0, _ => rfl
  | m + 1, h => by rw [crk, crk_z m (fun q hq => h q (by omega)), if_neg (h m (by omega))]
theorem crk_a {f : Nat → Int32} {K : Int32} {j : Nat} : ∀ m, (∀ q, q < m → (f q < K ∨ (f q = K ∧ q < j))) → crk f K j m = m
  | 0, _ => rfl
  | m + 1, h => by rw [crk, crk_a m (fun q hq => h q (by omega)), if_pos (h m (by omega))]
theorem crk_q {f : Nat → Int32} {K K2 : Int32} {j j2 : Nat} : ∀ m, (∀ q, q < m → ((f q < K2 ∨ (f q = K2 ∧ q < j2)) ↔ (f q < K ∨ (f q = K ∧ q < j)))) → crk f K2 j2 m = crk f K j m
  | 0, _ => rfl
  | m + 1, h => by
    rw [crk, crk, crk_q m (fun q hq => h q (by omega))]
    simp only [h m (by omega)]
theorem crk_s {f : Nat → Int32} {K K2 : Int32} {j j2 x : Nat} (hx : ¬ (f x < K ∨ (f x = K ∧ x < j))) : ∀ m, (∀ q, q < m → ((f q < K2 ∨ (f q = K2 ∧ q < j2)) ↔ ((f q < K ∨ (f q = K ∧ q < j)) ∨ q = x))) → crk f K2 j2 m = crk f K j m + if x < m then 1 else 0
  | 0, _ => rfl
  | m + 1, h => by
    rw [crk, crk, crk_s hx m (fun q hq => h q (by omega))]
    simp only [h m (by omega)]
    by_cases hm : m = x
    · subst hm
      rw [if_neg (by omega), if_pos (.inr rfl), if_neg hx, if_pos (by omega)]
    · have e : ((f m < K ∨ (f m = K ∧ m < j)) ∨ m = x) ↔ (f m < K ∨ (f m = K ∧ m < j)) := ⟨fun h => h.resolve_right hm, .inl⟩
      simp only [e]
      have e2 : (if x < m + 1 then 1 else 0) = if x < m then 1 else 0 := by
        by_cases hl : x < m
        · rw [if_pos hl, if_pos (by omega)]
        · rw [if_neg hl, if_neg (by omega)]
      rw [e2]
      omega
theorem ord_p {o f : Nat → Int32} {n : Nat} (hn : n ≤ 24) (h : ORD o f n) : ∀ i j, i < n → j < n → o i = nI j → crk f (f j) j n = i := by
  obtain ⟨h1, h2, h3⟩ := h
  have inj : ∀ a b, a < n → b < n → nI a = nI b → a = b := fun a b ha hb hh => (nI_eq (by omega) (by omega)).mp hh
  intro i
  induction i with
  | zero =>
    intro j hi hj ho
    apply crk_z
    intro q hq hp
    obtain ⟨iq, hiq, hoq⟩ := h2 q hq
    by_cases h0 : iq = 0
    · subst h0
      have := inj q j hq hj (hoq.symm.trans ho)
      subst this
      rcases hp with hp | hp
      · exact Int32.lt_irrefl hp
      · omega
    · exact pr_as hp (h3 0 iq j q (by omega) hiq ho hoq hj hq)
  | succ i ih =>
    intro j hi hj ho
    obtain ⟨j', hj', ho'⟩ := h1 i (by omega)
    have ihj := ih j' (by omega) hj' ho'
    have hir : ¬ (f j' < f j' ∨ (f j' = f j' ∧ j' < j')) := by
      rintro (hh | hh)
      · exact Int32.lt_irrefl hh
      · omega
    rw [crk_s hir n (K2 := f j) (j2 := j) (fun q hq => ?_), ihj, if_pos hj']
    obtain ⟨iq, hiq, hoq⟩ := h2 q hq
    constructor
    · intro hp
      by_cases hc : iq = i + 1
      · subst hc
        have := inj q j hq hj (hoq.symm.trans ho)
        subst this
        exact absurd hp (by rintro (hh | hh); exact Int32.lt_irrefl hh; omega)
      · by_cases hc2 : i + 1 < iq
        · exact (pr_as hp (h3 (i + 1) iq j q hc2 hiq ho hoq hj hq)).elim
        · by_cases hc3 : iq = i
          · subst hc3
            exact .inr (inj q j' hq hj' (hoq.symm.trans ho'))
          · exact .inl (h3 iq i q j' (by omega) (by omega) hoq ho' hq hj')
    · rintro (hp | rfl)
      · by_cases hc : iq < i
        · exact h3 iq (i + 1) q j (by omega) hi hoq ho hq hj
        · by_cases hc2 : iq = i
          · subst hc2
            have := inj q j' hq hj' (hoq.symm.trans ho')
            subst this
            exact absurd hp hir
          · exact (pr_as hp (h3 i iq j' q (by omega) hiq ho' hoq hj' hq)).elim
      · exact h3 i (i + 1) q j (by omega) hi ho' ho hq hj
section ASK
variable {μ : Nat → Nat → Int32} {nu ne u i n : Nat} {d : Int32}
/-- the reference asks one rule -/
def rst (μ : Nat → Nat → Int32) (nu ne u i : Nat) (d : Int32) (s : Nat → Nat → Int32) (r : Nat) : Nat → Nat → Int32 :=
  if ixA μ (nI r) u (nI i) d ne = false then
    (if mrB μ nu r u i d = true then up2 (up2 (up2 (mrS s r) 148 r 1) 155 (s 140 20).toNatClampNeg (nI r)) 140 20 (nI ((s 140 20).toNatClampNeg + 1)) else mrS s r)
  else s
def rfx (μ : Nat → Nat → Int32) (nu ne u i : Nat) (d : Int32) (o : Nat → Int32) : Nat → Nat → Nat → Int32
  | 0 => up2 μ 140 20 0
  | t + 1 => rst μ nu ne u i d (rfx μ nu ne u i d o t) (o t).toNatClampNeg
theorem maN_r {rk : Int32} {s : Nat → Nat → Int32} {r : Nat} : maN μ nu ne u i d rk s r = if μ 144 r = rk then rst μ nu ne u i d s r else s := by
  unfold maN rst
  by_cases h1 : μ 144 r = rk
  · by_cases h2 : ixA μ (nI r) u (nI i) d ne = false
    · rw [if_pos ⟨h1, h2⟩, if_pos h1, if_pos h2]
    · rw [if_neg (fun h => h2 h.2), if_pos h1, if_neg h2]
  · rw [if_neg (fun h => h1 h.1), if_neg h1]
theorem maR_x {o : Nat → Int32} (hn : n ≤ 24) (h : ORD o (μ 144) n) (K : Int32) : ∀ j, j ≤ n → maR μ nu ne u i d K (rfx μ nu ne u i d o (crk (μ 144) K 0 n)) j = rfx μ nu ne u i d o (crk (μ 144) K j n)
  | 0, _ => rfl
  | j + 1, hj => by
    rw [maR, maR_x hn h K j (by omega), maN_r]
    by_cases hk : μ 144 j = K
    · rw [if_pos hk]
      obtain ⟨ij, hij, hoj⟩ := h.2.1 j (by omega)
      have hp := ord_p hn h ij j hij (by omega) hoj
      rw [hk] at hp
      have hx : ¬ (μ 144 j < K ∨ (μ 144 j = K ∧ j < j)) := by
        rintro (hh | hh)
        · rw [hk] at hh
          exact Int32.lt_irrefl hh
        · omega
      rw [crk_s hx n (K2 := K) (j2 := j + 1) (fun q hq => ?_), if_pos (by omega), rfx, hp, hoj, nI_clamp (by omega)]
      constructor
      · rintro (hh | ⟨hh, hh2⟩)
        · exact .inl (.inl hh)
        · by_cases hqj : q = j
          · exact .inr hqj
          · exact .inl (.inr ⟨hh, by omega⟩)
      · rintro ((hh | ⟨hh, hh2⟩) | rfl)
        · exact .inl hh
        · exact .inr ⟨hh, by omega⟩
        · exact .inr ⟨hk, by omega⟩
    · rw [if_neg hk, crk_q n (K2 := K) (j2 := j + 1) (K := K) (j := j) (fun q hq => ?_)]
      constructor
      · rintro (hh | ⟨hh, hh2⟩)
        · exact .inl hh
        · refine .inr ⟨hh, ?_⟩
          have : q ≠ j := fun h => hk (h ▸ hh)
          omega
      · rintro (hh | ⟨hh, hh2⟩)
        · exact .inl hh
        · exact .inr ⟨hh, by omega⟩
theorem maO_x {o : Nat → Int32} (hn : n ≤ 24) (h : ORD o (μ 144) n) (hr : ∀ q, q < n → ∃ m, 1 ≤ m ∧ m ≤ 100 ∧ μ 144 q = nI m) : ∀ k, k ≤ 100 → maO μ nu ne u i d n k = rfx μ nu ne u i d o (crk (μ 144) (nI (k + 1)) 0 n)
  | 0, _ => by
    rw [crk_z n (fun q hq => ?_)]
    · rfl
    · obtain ⟨m, m1, m2, m3⟩ := hr q hq
      rw [m3, nI_ltI (by omega) (by omega)]
      omega
  | k + 1, hk => by
    rw [maO, maO_x hn h hr k (by omega), maR_x hn h (nI (k + 1)) n (Nat.le_refl _)]
    congr 1
    apply crk_q
    intro q hq
    obtain ⟨m, m1, m2, m3⟩ := hr q hq
    rw [m3, nI_ltI (by omega) (by omega), nI_ltI (by omega) (by omega), nI_eq (by omega) (by omega), nI_eq (by omega) (by omega)]
    omega
theorem maA_x {o : Nat → Int32} (hn : n ≤ 24) (h : ORD o (μ 144) n) (hr : ∀ q, q < n → ∃ m, 1 ≤ m ∧ m ≤ 100 ∧ μ 144 q = nI m) : maA μ nu ne n u i d = rfx μ nu ne u i d o n := by
  rw [maA, maO_x hn h hr 100 (Nat.le_refl _), crk_a n (fun q hq => ?_)]
  obtain ⟨m, m1, m2, m3⟩ := hr q hq
  rw [m3, nI_ltI (by omega) (by omega)]
  omega
theorem rst_F {s : Nat → Nat → Int32} {r : Nat} (h : MFr s μ) : MFr (rst μ nu ne u i d s r) μ := by
  unfold rst
  split
  · split
    · exact ((h.mr.uc (.inl rfl)).uc (.inr rfl)).u20
    · exact h.mr
  · exact h
theorem rfx_F {o : Nat → Int32} : ∀ t, MFr (rfx μ nu ne u i d o t) μ
  | 0 => (MFr.refl μ).u20
  | t + 1 => rst_F (rfx_F t)
end ASK
theorem lpf_an {b : Nat → Bool} (n : Nat) : (lpf b n 0).isSome = anB b n := by
  have e : anB b n = true ↔ ∃ j, j < n ∧ b j = true := by
    induction n with
    | zero => simp [anB]
    | succ n ih =>
      rw [anB, Bool.or_eq_true, ih]
      constructor
      · rintro (⟨j, h1, h2⟩ | h)
        · exact ⟨j, by omega, h2⟩
        · exact ⟨n, by omega, h⟩
      · rintro ⟨j, h1, h2⟩
        by_cases hj : j = n
        · subst hj
          exact .inr h2
        · exact .inl ⟨j, by omega, h2⟩
  cases h : lpf b n 0 with
  | some j =>
    have := lpf_s n 0 j h
    rw [e.mpr ⟨j, by omega, this.2.2⟩]
    rfl
  | none =>
    have h2 := lpf_nn n 0 h
    cases hc : anB b n with
    | false => rfl
    | true =>
      obtain ⟨j, h3, h4⟩ := e.mp hc
      rw [h2 j (by omega) (by omega)] at h4
      exact absurd h4 (by decide)
theorem st_m7 {x M : Int32} (h : inB x (-1) M = true) : x < 0 ↔ x = (-1) := by
  have h1 := (inB_gwi.mp h).1
  constructor
  · intro h2
    apply Int32.toInt_inj.mp
    rw [Int32.lt_iff_toInt_lt] at h1 h2
    have e1 : (-1 : Int32).toInt = -1 := by decide
    have e0 : (0 : Int32).toInt = 0 := by decide
    omega
  · rintro rfl
    decide
theorem wv_ix {s σ : Nat → Nat → Int32} {ne nu u : Nat} {r p d : Int32} (hE : rEX σ ne) (hU : rUN σ nu) (hu : u < nu) (hs : ∀ j, j < ne → s (120 + j) = σ (120 + j)) : (lpf (wvB s r p (σ (80 + u) 2) d) ne 0).isSome = ixA σ r u p d ne := by
  rw [lpf_an, ixA]
  apply anB_c
  intro j hj
  show decide (cov s (120 + j) r p (σ (80 + u) 2) d) = ixB σ r u p d j
  unfold cov ixB xpB xoB
  obtain ⟨a1, a2, a3, a4, a5, a6⟩ := hE
  rw [hs j hj, a4 j 0 hj (by omega), a4 j 1 hj (by omega), a4 j 2 hj (by omega), a4 j 3 hj (by omega), hU.2.2.2.1 u 2 hu (by omega)]
  have e1 := st_m7 (a5 j hj).1
  have e2 := st_m7 (a5 j hj).2
  show decide (σ 149 j = r ∧ (σ 150 j = -1 ∨ σ 150 j = p) ∧ (σ 151 j = -1 ∨ σ 151 j = σ 142 (10 * u + 2)) ∧ d ≤ σ 152 j) = _
  simp only [← e1, ← e2]
  simp only [Bool.decide_and, Bool.decide_or, Bool.and_assoc]
  congr 3
  rw [← decide_not]
  exact decide_eq_decide.mpr Int32.not_lt.symm
theorem szO_i {σ : Nat → Nat → Int32} {u i : Nat} : ∀ m, szO σ u i m = true ↔ ((ftB σ u i 0 = true ∨ ftB σ u i 2 = true) ∨ ∃ w, w < m ∧ ftB σ u i (nI w) = true)
  | 0 => by simp [szO]
  | m + 1 => by
    rw [szO, Bool.or_eq_true, szO_i m]
    constructor
    · rintro ((h | ⟨w, h1, h2⟩) | h)
      · exact .inl h
      · exact .inr ⟨w, by omega, h2⟩
      · exact .inr ⟨m, by omega, h⟩
    · rintro (h | ⟨w, h1, h2⟩)
      · exact .inl (.inl h)
      · by_cases hw : w = m
        · subst hw
          exact .inr h2
        · exact .inl (.inr ⟨w, by omega, h2⟩)
theorem mrB_w {s σ : Nat → Nat → Int32} (h1 : s 141 = σ 141) (h2 : s 142 = σ 142) (h3 : s 143 = σ 143) (h5 : s 145 = σ 145) (h6 : s 146 = σ 146) (h7 : s 147 = σ 147) (h13 : s 153 = σ 153) {nu r u i : Nat} {d : Int32} : mrB s nu r u i d = mrB σ nu r u i d := by
  unfold mrB
  rw [szV_e h1 h2, otI_e h2 h3, ukI_e h2 h3, ukI_e h2 h3, ukI_e h2 h3, mtA_e h2 h3, mtA_e h2 h3, mnI_e h3, spM_e h2 h3, spL_e h2 h3, owB_e h2 h3 h13, h1, h2, h5, h6, h7]
section QST
variable {σ s : Nat → Nat → Int32} {τ : Nat → Nat → Int64} {u i nu q k : Nat} {d : Int32}
theorem i_nl {a b : Int32} : a < b ↔ (!decide (b ≤ a)) = true := by
  rw [Bool.not_eq_true', decide_eq_false_iff_not, Int32.not_le]
/-- a rule refuses in the class where it refuses in the reference -/
theorem rf_mr (hP : rPL σ) (hU : rUN σ nu) (hO : rOW σ) (hu : u < nu) (hi : i < 12) (h62 : s 62 = (gv σ τ u i d nu).1 62) (h34 : s 34 = σ 34) (ha : s (9 + q) 2 = σ 146 q) (hb : s (9 + q) 3 = σ 147 q) (hk : σ 145 q = nI k) (hkp : rkeep (σ 144 q, k, σ 146 q, σ 147 q)) : rfP s (gv σ τ u i d nu).2 q k ↔ mrB σ nu q u i d = true := by
  have h40 := hU.2.2.1
  obtain ⟨kp1, kp2, kp3, kp4, kp5⟩ := hkp
  have hk11 : k < 11 := kp2
  have q0 : s 62 0 = if fit6 σ (68 + i) (80 + u) 0 ∨ fit6 σ (68 + i) (80 + u) 2 then 1 else 0 := by rw [h62, gv_lo (by omega)]; rfl
  have q1 : s 62 1 = if oI (lpf (fwB σ (68 + i) (80 + u)) 6 0) = (-1) then 0 else 1 := by rw [h62, gv_lo (by omega)]; rfl
  have q2 : s 62 2 = d := by rw [h62, gv_lo (by omega)]; rfl
  have q3 : s 62 3 = σ 141 (5 * i + 3) := by rw [h62, gv_lo (by omega)]; exact hP i 3 hi (by omega)
  have q4 : s 62 4 = σ 141 (5 * i + 4) := by rw [h62, gv_lo (by omega)]; exact hP i 4 hi (by omega)
  have q6 : s 62 6 = σ 142 (10 * u + 6) := by rw [h62, gv_lo (by omega)]; exact hU.2.2.2.1 u 6 hu (by omega)
  have q7 : s 62 7 = σ 142 (10 * u + 7) := by rw [h62, gv_lo (by omega)]; exact hU.2.2.2.1 u 7 hu (by omega)
  have q8 : s 62 8 = σ 142 (10 * u + 8) := by rw [h62, gv_lo (by omega)]; exact hU.2.2.2.1 u 8 hu (by omega)
  have q9 : s 62 9 = σ 142 (10 * u + 9) := by rw [h62, gv_lo (by omega)]; exact hU.2.2.2.1 u 9 hu (by omega)
  obtain ⟨g10, g11, g12, g13, -, -⟩ := gv_hi (τ := τ) (i := i) (d := d) hU hu nu (Nat.le_refl _)
  rw [if_pos hu, Int32.add_zero] at g10
  rw [← h62] at g10 g11 g12 g13
  obtain ⟨u0, u1, u2⟩ := gv_uk (τ := τ) (i := i) (d := d) hU hu
  have fw : ∀ w, w < 6 → decide (fit6 σ (68 + i) (80 + u) (nI w)) = ftB σ u i (nI w) := fun w hw =>
    fit_w hw (hP i 0 hi (by omega)) (hP i 1 hi (by omega)) (hP i 2 hi (by omega)) (hU.2.2.2.1 u 3 hu (by omega)) (hU.2.2.2.1 u 4 hu (by omega)) (hU.2.2.2.1 u 5 hu (by omega))
  have f0 : fit6 σ (68 + i) (80 + u) 0 ↔ ftB σ u i 0 = true := by
    have hh := fw 0 (by omega)
    change decide (fit6 σ (68 + i) (80 + u) 0) = ftB σ u i 0 at hh
    rw [← hh, decide_eq_true_iff]
  have f2 : fit6 σ (68 + i) (80 + u) 2 ↔ ftB σ u i 2 = true := by
    have hh := fw 2 (by omega)
    change decide (fit6 σ (68 + i) (80 + u) 2) = ftB σ u i 2 at hh
    rw [← hh, decide_eq_true_iff]
  have hkc : k = 0 ∨ k = 1 ∨ k = 2 ∨ k = 3 ∨ k = 4 ∨ k = 5 ∨ k = 6 ∨ k = 7 ∨ k = 8 ∨ k = 9 ∨ k = 10 := by omega
  unfold mrB
  rw [hk]
  rcases hkc with rfl | rfl | rfl | rfl | rfl | rfl | rfl | rfl | rfl | rfl | rfl
  · rw [rfP_0, if_pos (by decide)]
    obtain ⟨z, hz, hz2⟩ := inB_n (M := 1) (n := 1) rfl kp3
    change σ 146 q = nI z at hz2
    unfold rf0
    rw [ha, hz2, q0, q1, szV]
    have hz3 : z = 0 ∨ z = 1 := by omega
    rcases hz3 with rfl | rfl
    · rw [if_neg (show ¬ nI 0 = 1 by decide), Bool.not_eq_true', ← b_n, szO_i]
      constructor
      · rintro (⟨-, h⟩ | ⟨h, -⟩)
        · intro hh
          rw [if_pos ?_] at h
          · exact absurd h (by decide)
          · rcases hh with hh | ⟨w, hw, -⟩
            · exact hh.imp f0.mpr f2.mpr
            · omega
        · exact absurd nI_0 h
      · intro h
        refine .inl ⟨nI_0, ?_⟩
        rw [if_neg (fun hh => h (.inl (hh.imp f0.mp f2.mp)))]
    · rw [if_pos (show nI 1 = 1 by decide), Bool.not_eq_true', ← b_n, szO_i]
      have hno : oI (lpf (fwB σ (68 + i) (80 + u)) 6 0) = (-1) ↔ lpf (fwB σ (68 + i) (80 + u)) 6 0 = none := by
        constructor
        · exact oI_m (fun j hj => by have := lpf_lt 6 0 j hj; omega)
        · intro h
          rw [h]
          rfl
      constructor
      · rintro (⟨h, -⟩ | ⟨-, h⟩)
        · exact absurd h (by decide)
        · intro hh
          have h2 : lpf (fwB σ (68 + i) (80 + u)) 6 0 = none := by
            rw [← hno]
            apply Classical.byContradiction
            intro h3
            rw [if_neg h3] at h
            exact absurd h (by decide)
          have h4 := lpf_nn 6 0 h2
          have h5 : ∀ w, w < 6 → ftB σ u i (nI w) = false := fun w hw => by
            rw [← fw w hw]
            exact h4 w (by omega) (by omega)
          rcases hh with (hh | hh) | ⟨w, hw, hh⟩
          · have := h5 0 (by omega)
            change ftB σ u i 0 = false at this
            rw [this] at hh
            exact absurd hh (by decide)
          · have := h5 2 (by omega)
            change ftB σ u i 2 = false at this
            rw [this] at hh
            exact absurd hh (by decide)
          · rw [h5 w hw] at hh
            exact absurd hh (by decide)
      · intro h
        refine .inr ⟨by decide, ?_⟩
        rw [if_pos]
        rw [hno]
        cases hl : lpf (fwB σ (68 + i) (80 + u)) 6 0 with
        | none => rfl
        | some w =>
          have h2 := lpf_s 6 0 w hl
          exact absurd (.inr ⟨w, by omega, by rw [← fw w (by omega)]; exact h2.2.2⟩) h
  · rw [rfP_1, if_neg (by decide), if_pos (by decide)]
    unfold rf1
    rw [ha, q3, q6, g11]
    exact i_nl
  · rw [rfP_2, if_neg (by decide), if_neg (by decide), if_pos (by decide)]
    unfold rf2
    rw [ha, u0]
    exact i_nl
  · rw [rfP_3, if_neg (by decide), if_neg (by decide), if_neg (by decide), if_pos (by decide)]
    unfold rf3
    rw [ha, u1]
    exact i_nl
  · rw [rfP_4, if_neg (by decide), if_neg (by decide), if_neg (by decide), if_neg (by decide), if_pos (by decide)]
    unfold rf4
    rw [ha, u2]
    exact i_nl
  · rw [rfP_5, if_neg (by decide), if_neg (by decide), if_neg (by decide), if_neg (by decide), if_neg (by decide), if_pos (by decide)]
    obtain ⟨x, hx, hx2⟩ := inB_n (M := 7) (n := 7) rfl kp3
    obtain ⟨y, hy, hy2⟩ := inB_n (M := 7) (n := 7) rfl (kp4 rfl)
    change σ 146 q = nI x at hx2
    change σ 147 q = nI y at hy2
    unfold rf5
    rw [ha, hb, hx2, hy2, q7, gv_hz hU hu (by omega), gv_hz hU hu (by omega)]
    simp only [Bool.or_eq_true, Bool.and_eq_true, decide_eq_true_eq]
  · rw [rfP_6, if_neg (by decide), if_neg (by decide), if_neg (by decide), if_neg (by decide), if_neg (by decide), if_neg (by decide), if_pos (by decide)]
    unfold rf6
    rw [ha, hb, q8, q4]
    simp only [Bool.and_eq_true, decide_eq_true_eq, Bool.not_eq_true', decide_eq_false_iff_not]
  · rw [rfP_7, if_neg (by decide), if_neg (by decide), if_neg (by decide), if_neg (by decide), if_neg (by decide), if_neg (by decide), if_neg (by decide), if_pos (by decide)]
    unfold rf7
    rw [ha, g10]
    exact i_nl
  · rw [rfP_8, if_neg (by decide), if_neg (by decide), if_neg (by decide), if_neg (by decide), if_neg (by decide), if_neg (by decide), if_neg (by decide), if_neg (by decide), if_pos (by decide)]
    unfold rf8
    rw [ha, g13, g12]
    exact i_nl
  · rw [rfP_9, if_neg (by decide), if_neg (by decide), if_neg (by decide), if_neg (by decide), if_neg (by decide), if_neg (by decide), if_neg (by decide), if_neg (by decide), if_neg (by decide), if_pos (by decide)]
    unfold rf9
    rw [ha, q9, q2]
    exact i_nl
  · rw [rfP_10, if_neg (by decide), if_neg (by decide), if_neg (by decide), if_neg (by decide), if_neg (by decide), if_neg (by decide), if_neg (by decide), if_neg (by decide), if_neg (by decide), if_neg (by decide)]
    obtain ⟨x, hx, hx2⟩ := inB_n (M := 3) (n := 3) rfl kp3
    change σ 146 q = nI x at hx2
    unfold rf10 owR owB
    rw [ha, hx2, nI_clamp (by omega), h34, hO.1 x (by omega), g11, q6]
    simp only [Bool.or_eq_true, Bool.and_eq_true, decide_eq_true_eq, Bool.not_eq_true', decide_eq_false_iff_not, Int32.not_le]
    constructor
    · rintro (h | h | h)
      · exact .inl (.inl h)
      · exact .inr h
      · exact .inl (.inr h)
    · rintro ((h | h) | h)
      · exact .inl h
      · exact .inr (.inr h)
      · exact .inr (.inl h)
end QST
