/-! The order of the rules, and what holds of the rule book. Written by wip/tools/m36.py. -/
/-- o lists the rules below n, by their ranks f and then by their numbers -/
def ORD (o f : Nat → Int32) (n : Nat) : Prop := (∀ i, i < n → ∃ q, q < n ∧ o i = nI q) ∧ (∀ r, r < n → ∃ i, i < n ∧ o i = nI r) ∧ ∀ i j a b, i < j → j < n → o i = nI a → o j = nI b → a < n → b < n → (f a < f b ∨ (f a = f b ∧ a < b))
theorem ORD_in {o f o1 f1 : Nat → Int32} {n t : Nat} (hn : n < 2 ^ 30) (h : ORD o f n) (hf : ∀ r, r < n → f1 r = f r) (ho : ∀ j, j ≤ n → o1 j = if j < t then o j else if j = t then nI n else o (j - 1)) (ht : t ≤ n)
    (h1 : t = 0 ∨ ∃ q, q < n ∧ o (t - 1) = nI q ∧ ¬ f1 n < f q) (h2 : ∀ i q, t ≤ i → i < n → o i = nI q → q < n → f1 n < f q) : ORD o1 f1 (n + 1) := by
  obtain ⟨ha, hb, hc⟩ := h
  refine ⟨fun i hi => ?_, fun r hr => ?_, fun i j a b hij hj hia hjb han hbn => ?_⟩
  · rw [ho i (by omega)]
    split
    · obtain ⟨q, h3, h4⟩ := ha i (by omega)
      exact ⟨q, by omega, h4⟩
    · split
      · exact ⟨n, by omega, rfl⟩
      · obtain ⟨q, h3, h4⟩ := ha (i - 1) (by omega)
        exact ⟨q, by omega, h4⟩
  · rcases Nat.lt_or_ge r n with h3 | h3
    · obtain ⟨i, h4, h5⟩ := hb r h3
      by_cases h6 : i < t
      · exact ⟨i, by omega, by rw [ho i (by omega), if_pos h6]; exact h5⟩
      · exact ⟨i + 1, by omega, by rw [ho (i + 1) (by omega), if_neg (by omega), if_neg (by omega)]; exact h5⟩
    · have e : r = n := by omega
      subst e
      exact ⟨t, by omega, by rw [ho t ht, if_neg (by omega), if_pos rfl]⟩
  · -- the old place of a new one
    have hold : ∀ k c, k ≤ n → o1 k = nI c → c < n + 1 → k ≠ t → c < n ∧ o (if k < t then k else k - 1) = nI c ∧ (if k < t then k else k - 1) < n := by
      intro k c hk hkc hcn hkt
      rw [ho k hk] at hkc
      by_cases h6 : k < t
      · rw [if_pos h6] at hkc ⊢
        obtain ⟨q, h7, h8⟩ := ha k (by omega)
        have e := (nI_eq (by omega) (by omega)).mp (hkc.symm.trans h8)
        exact ⟨by omega, hkc, by omega⟩
      · rw [if_neg h6, if_neg hkt] at hkc
        rw [if_neg h6]
        obtain ⟨q, h7, h8⟩ := ha (k - 1) (by omega)
        have e := (nI_eq (by omega) (by omega)).mp (hkc.symm.trans h8)
        exact ⟨by omega, hkc, by omega⟩
    by_cases hit : i = t
    · subst hit
      have ea : a = n := by
        rw [ho i (by omega), if_neg (by omega), if_pos rfl] at hia
        exact ((nI_eq (by omega) (by omega)).mp hia).symm
      subst ea
      obtain ⟨h5, h6, h7⟩ := hold j b (by omega) hjb (by omega) (by omega)
      rw [if_neg (by omega)] at h6 h7
      left
      rw [hf b h5]
      exact h2 (j - 1) b (by omega) h7 h6 h5
    · obtain ⟨h5, h6, h7⟩ := hold i a (by omega) hia (by omega) hit
      by_cases hjt : j = t
      · subst hjt
        have eb : b = n := by
          rw [ho j (by omega), if_neg (by omega), if_pos rfl] at hjb
          exact ((nI_eq (by omega) (by omega)).mp hjb).symm
        subst eb
        rw [if_pos hij] at h6 h7
        rw [hf a h5]
        obtain ⟨q, hq1, hq2, hq3⟩ := h1.resolve_left (by omega)
        have hle : f a < f1 b ∨ f a = f1 b := by
          have h9 : f a < f q ∨ f a = f q := by
            by_cases e : i = j - 1
            · right
              rw [e] at h6
              rw [(nI_eq (by omega) (by omega)).mp (h6.symm.trans hq2)]
            · rcases hc i (j - 1) a q (by omega) (by omega) h6 hq2 h5 hq1 with z | z
              · exact Or.inl z
              · exact Or.inr z.1
          have h10 := Int32.not_lt.mp hq3
          rcases h9 with z | z
          · exact Or.inl (Int32.lt_of_lt_of_le z h10)
          · rw [← z] at h10
            rcases Int32.lt_or_eq_of_le h10 with y | y
            · exact Or.inl y
            · exact Or.inr y
        rcases hle with z | z
        · exact Or.inl z
        · exact Or.inr ⟨z, h5⟩
      · obtain ⟨h8, h9, h10⟩ := hold j b (by omega) hjb (by omega) hjt
        rw [hf a h5, hf b h8]
        refine hc _ _ a b ?_ h10 h6 h9 h5 h8
        split <;> split <;> omega
/-- the order when the rule n has come -/
theorem ioS_sp {n : Nat} (s : Nat) {σ : Nat → Nat → Int32} : (∀ k, k ≠ 6 → ioS n σ s k = σ k) ∧ ∃ t, t ≤ s ∧ (∀ j, ioS n σ s 6 j = if j < t then σ 6 j else if j = t then nI n else if j ≤ s then σ 6 (j - 1) else σ 6 j) ∧ (t = 0 ∨ ¬ σ (9 + n) 0 < σ (9 + (σ 6 (t - 1)).toNatClampNeg) 0) ∧ ∀ i, t ≤ i → i < s → σ (9 + n) 0 < σ (9 + (σ 6 i).toNatClampNeg) 0 := by
  induction s generalizing σ with
  | zero =>
    refine ⟨fun k hk => up2_c hk, 0, Nat.le_refl _, fun j => ?_, Or.inl rfl, fun i h1 h2 => absurd h2 (Nat.not_lt_zero _)⟩
    show up2 σ 6 0 (nI n) 6 j = _
    rw [up2_at]
    by_cases hj : j = 0
    · rw [if_pos ⟨rfl, hj⟩, if_neg (by omega), if_pos hj]
    · rw [if_neg (fun z => hj z.2), if_neg (by omega), if_neg hj, if_neg (by omega)]
  | succ s ih =>
    by_cases hc : σ (9 + n) 0 < σ (9 + (σ 6 s).toNatClampNeg) 0
    · have e : ioS n σ (s + 1) = ioS n (up2 σ 6 (s + 1) (σ 6 s)) s := by rw [ioS, if_pos hc]
      obtain ⟨h1, t, h2, h3, h4, h5⟩ := ih (σ := up2 σ 6 (s + 1) (σ 6 s))
      have e6 : ∀ i, i ≤ s → up2 σ 6 (s + 1) (σ 6 s) 6 i = σ 6 i := fun i hi => up2_j (by omega)
      have e9 : ∀ q, up2 σ 6 (s + 1) (σ 6 s) (9 + q) = σ (9 + q) := fun q => up2_c (by omega)
      rw [e]
      refine ⟨fun k hk => (h1 k hk).trans (up2_c hk), t, by omega, fun j => ?_, ?_, fun i hi1 hi2 => ?_⟩
      · rw [h3 j]
        by_cases q1 : j < t
        · rw [if_pos q1, if_pos q1, e6 j (by omega)]
        · rw [if_neg q1, if_neg q1]
          by_cases q2 : j = t
          · rw [if_pos q2, if_pos q2]
          · rw [if_neg q2, if_neg q2]
            by_cases q3 : j ≤ s
            · rw [if_pos q3, if_pos (by omega), e6 (j - 1) (by omega)]
            · rw [if_neg q3]
              by_cases q4 : j = s + 1
              · subst q4
                rw [up2_s, if_pos (Nat.le_refl _), Nat.add_sub_cancel]
              · rw [up2_j q4, if_neg (by omega)]
      · rcases h4 with h4 | h4
        · exact Or.inl h4
        · by_cases ht : t = 0
          · exact Or.inl ht
          · right
            rw [e6 (t - 1) (by omega), e9, e9] at h4
            exact h4
      · rcases Nat.lt_or_ge i s with q | q
        · have h6 := h5 i hi1 q
          rw [e6 i (by omega), e9, e9] at h6
          exact h6
        · rw [show i = s by omega]
          exact hc
    · have e : ioS n σ (s + 1) = up2 σ 6 (s + 1) (nI n) := by rw [ioS, if_neg hc]
      rw [e]
      refine ⟨fun k hk => up2_c hk, s + 1, Nat.le_refl _, fun j => ?_, Or.inr (by rw [Nat.add_sub_cancel]; exact hc), fun i h1 h2 => by omega⟩
      rw [up2_at]
      by_cases hj : j = s + 1
      · rw [if_pos ⟨rfl, hj⟩, if_neg (by omega), if_pos hj]
      · rw [if_neg (fun z => hj z.2)]
        by_cases q1 : j < s + 1
        · rw [if_pos q1]
        · rw [if_neg q1, if_neg hj, if_neg (by omega)]
/-- what holds of the rule book -/
def CB (σ : Nat → Nat → Int32) (n nc : Nat) : Prop := InvR σ n ∧ ORD (σ 6) (fun r => σ (9 + r) 0) n ∧ σ 4 5 = nI nc ∧ 2 * nc ≤ n * (n - 1)
theorem CB.hod {σ : Nat → Nat → Int32} {n nc : Nat} (h : CB σ n nc) : ∀ i, i < n → ∃ q : Nat, q < 24 ∧ σ 6 i = nI q := fun i hi => by
  obtain ⟨q, h1, h2⟩ := h.1.2.2.1 i hi
  exact ⟨q, by have := h.1.2.1; omega, h2⟩
theorem CB.hkd {σ : Nat → Nat → Int32} {n nc : Nat} (h : CB σ n nc) : ∀ r, r < 24 → ∃ k : Nat, k < 11 ∧ σ (9 + r) 1 = nI k := fun r hr => by
  obtain ⟨k, h1, h2, -⟩ := h.1.2.2.2 r hr
  exact ⟨k, h1, h2⟩
section ARS
variable {σ : Nat → Nat → Int32} {n nc : Nat} {rk k a b : Int32}
/-- the book with the rule's numbers written and its clashes noted -/
abbrev arX (σ : Nat → Nat → Int32) (n : Nat) (rk k a b : Int32) : Nat → Nat → Int32 := ncx n (awS σ n rk k a b) n
theorem arX_c {q : Nat} (h7 : q ≠ 7) (h8 : q ≠ 8) (h4 : q ≠ 4) (h9 : q ≠ 9 + n) : arX σ n rk k a b q = σ q := by
  rw [arX, ncx_9 q h7 h8 h4, awS_c h9]
theorem arX_n (j : Nat) (hn : n < 24) : arX σ n rk k a b (9 + n) j = awS σ n rk k a b (9 + n) j := by rw [arX, ncx_9 (9 + n) (by omega) (by omega) (by omega)]
theorem awS_0 : awS σ n rk k a b (9 + n) 0 = rk := by
  unfold awS; rw [up2_j (by decide), up2_j (by decide), up2_j (by decide), up2_s]
theorem awS_2 : awS σ n rk k a b (9 + n) 2 = a := by
  unfold awS; rw [up2_j (by decide), up2_s]
theorem awS_3 : awS σ n rk k a b (9 + n) 3 = b := by
  unfold awS; rw [up2_s]
theorem awS_j {j : Nat} (h : 4 ≤ j) : awS σ n rk k a b (9 + n) j = σ (9 + n) j := by
  unfold awS; rw [up2_j (by omega), up2_j (by omega), up2_j (by omega), up2_j (by omega)]
theorem arS_c {q : Nat} (h7 : q ≠ 7) (h8 : q ≠ 8) (h4 : q ≠ 4) (h9 : q ≠ 9 + n) (h6 : q ≠ 6) : arS σ n rk k a b q = σ q := by
  unfold arS
  rw [up2_c h4, (ioS_sp n).1 q h6]
  exact arX_c h7 h8 h4 h9
theorem arS_n (j : Nat) (hn : n < 24) : arS σ n rk k a b (9 + n) j = awS σ n rk k a b (9 + n) j := by
  unfold arS
  rw [up2_c (by omega), (ioS_sp n).1 (9 + n) (by omega)]
  exact arX_n j hn
theorem arS_6 (hn : n < 24) : ∃ t, t ≤ n ∧ (∀ j, arS σ n rk k a b 6 j = if j < t then σ 6 j else if j = t then nI n else if j ≤ n then σ 6 (j - 1) else σ 6 j) ∧ (t = 0 ∨ ¬ rk < arX σ n rk k a b (9 + (σ 6 (t - 1)).toNatClampNeg) 0) ∧ ∀ i, t ≤ i → i < n → rk < arX σ n rk k a b (9 + (σ 6 i).toNatClampNeg) 0 := by
  obtain ⟨t, h1, h2, h3, h4⟩ := (ioS_sp n (n := n) (σ := arX σ n rk k a b)).2
  have e6 : arX σ n rk k a b 6 = σ 6 := arX_c (by decide) (by decide) (by decide) (by omega)
  have e0 : arX σ n rk k a b (9 + n) 0 = rk := (arX_n 0 hn).trans awS_0
  rw [e6, e0] at h3
  refine ⟨t, h1, fun j => ?_, h3, fun i z1 z2 => ?_⟩
  · unfold arS
    rw [up2_k (by decide)]
    have h5 := h2 j
    rw [e6] at h5
    exact h5
  · have h5 := h4 i z1 z2
    rw [e6, e0] at h5
    exact h5
theorem CB.ar {k : Nat} (h : CB σ n nc) (hn : n < 24) (hk : k < 11) (hk2 : k = 10 → ∃ j, j < 4 ∧ a = nI j) : ∃ c, c ≤ nc + n ∧ nc ≤ c ∧ ncx n (awS σ n rk (nI k) a b) n 4 5 = nI c ∧ CB (arS σ n rk (nI k) a b) (n + 1) c := by
  have hod := h.hod
  obtain ⟨⟨i1, i2, i3, i4⟩, ho, hc, hn2⟩ := h
  have e45 : awS σ n rk (nI k) a b 4 5 = nI nc := by rw [awS_c (by omega)]; exact hc
  obtain ⟨c, c1, c2, c3⟩ := ncx_c (n := n) e45 n
  refine ⟨c, c1, c2, c3, ⟨?_, by omega, ?_, ?_⟩, ?_, ?_, ?_⟩
  · -- how many
    unfold arS
    rw [up2_s, (ioS_sp n).1 4 (by decide)]
    have e42 : ∀ m, ncx n (awS σ n rk (nI k) a b) m 4 2 = nI n := by
      intro m
      induction m with
      | zero =>
        show awS σ n rk (nI k) a b 4 2 = nI n
        rw [awS_c (by omega)]; exact i1
      | succ m ih =>
        show ncn n (ncx n (awS σ n rk (nI k) a b) m) m 4 2 = nI n
        unfold ncn
        split
        · rw [up2_j (by decide), up2_k (by decide), up2_k (by decide)]; exact ih
        · exact ih
    rw [e42 n]
    exact nI_1 n
  · intro i hi
    obtain ⟨t, t1, t2, -, -⟩ := arS_6 (σ := σ) (rk := rk) (k := nI k) (a := a) (b := b) hn
    rw [t2 i]
    split
    · obtain ⟨q, q1, q2⟩ := i3 i (by omega)
      exact ⟨q, by omega, q2⟩
    · split
      · exact ⟨n, by omega, rfl⟩
      · rw [if_pos (by omega)]
        obtain ⟨q, q1, q2⟩ := i3 (i - 1) (by omega)
        exact ⟨q, by omega, q2⟩
  · intro r hr
    by_cases e : r = n
    · subst e
      refine ⟨k, hk, ?_, fun z => ?_⟩
      · rw [arS_n 1 hn]; exact awS_1
      · rw [arS_n 2 hn, awS_2]; exact hk2 z
    · rw [arS_c (by omega) (by omega) (by omega) (by omega) (by omega)]
      exact i4 r hr
  · obtain ⟨t, t1, t2, t3, t4⟩ := arS_6 (σ := σ) (rk := rk) (k := nI k) (a := a) (b := b) hn
    have ex : ∀ q, q < n → arX σ n rk (nI k) a b (9 + q) 0 = σ (9 + q) 0 := fun q hq => by rw [arX_c (by omega) (by omega) (by omega) (by omega)]
    have en : arS σ n rk (nI k) a b (9 + n) 0 = rk := (arS_n 0 hn).trans awS_0
    refine ORD_in (t := t) (by omega) ho (fun r hr => by show arS σ n rk (nI k) a b (9 + r) 0 = σ (9 + r) 0; rw [arS_c (by omega) (by omega) (by omega) (by omega) (by omega)]) (fun j hj => ?_) t1 ?_ ?_
    · rw [t2 j]
      by_cases q1 : j < t
      · rw [if_pos q1, if_pos q1]
      · rw [if_neg q1, if_neg q1, if_pos hj]
    · rcases t3 with t3 | t3
      · exact Or.inl t3
      · by_cases t0 : t = 0
        · exact Or.inl t0
        · obtain ⟨q, q1, q2⟩ := i3 (t - 1) (by omega)
          refine Or.inr ⟨q, q1, q2, ?_⟩
          rw [q2, nI_clamp (by omega), ex q q1] at t3
          show ¬ arS σ n rk (nI k) a b (9 + n) 0 < σ (9 + q) 0
          rw [en]
          exact t3
    · intro i q z1 z2 z3 z4
      have h5 := t4 i z1 z2
      rw [z3, nI_clamp (by omega), ex q z4] at h5
      show arS σ n rk (nI k) a b (9 + n) 0 < σ (9 + q) 0
      rw [en]
      exact h5
  · unfold arS
    rw [up2_j (by decide), (ioS_sp n).1 4 (by decide)]
    exact c3
  · have e1 : (n + 1) * (n + 1 - 1) = n * (n - 1) + 2 * n := by
      cases n with
      | zero => rfl
      | succ m => simp only [Nat.add_sub_cancel]; rw [Nat.add_mul, Nat.mul_add, Nat.mul_add]; omega
    omega
end ARS
/-- rules come one behind another -/
def adS (σ : Nat → Nat → Int32) (n : Nat) : List RUL → Nat → Nat → Int32
  | [] => σ
  | x :: l => adS (arS σ n x.1 (nI x.2.1) x.2.2.1 x.2.2.2) (n + 1) l
theorem adS_app {σ : Nat → Nat → Int32} {n : Nat} (l : List RUL) (x : RUL) : adS σ n (l ++ [x]) = arS (adS σ n l) (n + l.length) x.1 (nI x.2.1) x.2.2.1 x.2.2.2 := by
  induction l generalizing σ n with
  | nil => rfl
  | cons y l ih =>
    show adS (arS σ n y.1 (nI y.2.1) y.2.2.1 y.2.2.2) (n + 1) (l ++ [x]) = _
    rw [ih]
    show arS (adS (arS σ n y.1 (nI y.2.1) y.2.2.1 y.2.2.2) (n + 1) l) _ _ _ _ _ = arS (adS (arS σ n y.1 (nI y.2.1) y.2.2.1 y.2.2.2) (n + 1) l) _ _ _ _ _
    rw [show n + 1 + l.length = n + (y :: l).length by simp; omega]
theorem rkeep_10 {x : RUL} (h : rkeep x) : x.2.1 = 10 → ∃ j, j < 4 ∧ x.2.2.1 = nI j := by
  intro e
  have h3 := h.2.2.1
  rw [e] at h3
  obtain ⟨u, h1, h2⟩ := inB_n (n := 3) (M := kMo 10) (by decide) h3
  exact ⟨u, by omega, h2⟩
theorem adS_CB {σ : Nat → Nat → Int32} {n nc : Nat} (l : List RUL) (h : CB σ n nc) (hl : n + l.length ≤ 24) (hk : ∀ x, x ∈ l → rkeep x) : ∃ c, CB (adS σ n l) (n + l.length) c := by
  induction l generalizing σ n nc with
  | nil => exact ⟨nc, h⟩
  | cons x l ih =>
    have hx := hk x List.mem_cons_self
    obtain ⟨c, -, -, -, h2⟩ := h.ar (rk := x.1) (k := x.2.1) (a := x.2.2.1) (b := x.2.2.2) (by simp at hl; omega) hx.2.1 (rkeep_10 hx)
    obtain ⟨c2, h3⟩ := ih h2 (by simp at hl; omega) (fun y hy => hk y (List.mem_cons_of_mem _ hy))
    exact ⟨c2, by rw [show n + (x :: l).length = n + 1 + l.length by simp; omega]; exact h3⟩
theorem adS_c {σ : Nat → Nat → Int32} {n q : Nat} (l : List RUL) (h7 : q ≠ 7) (h8 : q ≠ 8) (h4 : q ≠ 4) (h6 : q ≠ 6) (h9 : q < 9 ∨ 33 ≤ q) (hl : n + l.length ≤ 24) : adS σ n l q = σ q := by
  induction l generalizing σ n with
  | nil => rfl
  | cons x l ih =>
    simp only [List.length_cons] at hl
    show adS (arS σ n x.1 (nI x.2.1) x.2.2.1 x.2.2.2) (n + 1) l q = σ q
    rw [ih (by omega), arS_c h7 h8 h4 (by omega) h6]
