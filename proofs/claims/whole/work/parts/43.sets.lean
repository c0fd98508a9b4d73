/-! Sets of numbers in two longs: what they hold and how many; distinct values in a row. -/
theorem tb_n (x i : Nat) : x / 2 ^ i % 2 = (x.testBit i).toNat := by
  rw [Nat.testBit_eq_decide_div_mod_eq]
  rcases Nat.mod_two_eq_zero_or_one (x / 2 ^ i) with h | h <;> simp [h]
def smB (τ : Nat → Nat → Int64) (k a : Nat) : Bool := if a < 64 then (lQ (τ k 0)).testBit a else (lQ (τ k 1)).testBit (a - 64)
theorem nI_a (a b : Nat) : nI (a + b) = nI a + nI b := by simp [nI, Int32.ofNat_add]
abbrev cntS (X : Nat → Bool) : Nat := bsum (fun a => (X a).toNat) 128
theorem sm_n (τ : Nat → Nat → Int64) (k : Nat) : bcF (τ k 0) + bcF (τ k 1) = nI (cntS (smB τ k)) := by
  rw [bcF_e, bcF_e, ← nI_a, cntS, show 128 = 64 + 64 from rfl, bsum_a]
  congr 2
  · exact bsum_c 64 (fun i hi => by rw [tb_n]; simp [smB, hi])
  · exact bsum_c 64 (fun i hi => by rw [tb_n]; simp [smB, show ¬ 64 + i < 64 by omega])
theorem up2L_at (τ : Nat → Nat → Int64) (k j : Nat) (v : Int64) (q i : Nat) : up2L τ k j v q i = if q = k ∧ i = j then v else τ q i := by
  unfold up2L va_up vp_updL
  by_cases h1 : q = k
  · subst h1
    by_cases h2 : i = j
    · simp [h2]
    · simp [h2]
  · simp [h1]
theorem sh_lo : ∀ n, n < 64 → lQ (1 <<< ((nI n).toInt64 &&& 63)) = 2 ^ n := by decide +kernel
theorem sh_hi : ∀ n, n < 64 → lQ (1 <<< ((nI (n + 64) - 64).toInt64 &&& 63)) = 2 ^ n := by decide +kernel
theorem le64 : ∀ n, n < 128 → ((64 : Int32) ≤ nI n ↔ 64 ≤ n) := by decide +kernel
theorem sm_add (τ : Nat → Nat → Int64) (k : Nat) {a : Nat} (ha : a < 128) (q b : Nat) (hb : b < 128) : smB (nsa τ k (nI a)) q b = if q = k then (smB τ k b || decide (b = a)) else smB τ q b := by
  unfold nsa
  by_cases h : 64 ≤ a
  · obtain ⟨n, rfl⟩ : ∃ n, a = n + 64 := ⟨a - 64, by omega⟩
    rw [if_pos ((le64 _ ha).mpr h)]
    unfold smB
    simp only [up2L_at]
    by_cases hq : q = k
    · subst hq
      by_cases h6 : b < 64
      · have : ¬ b = n + 64 := by omega
        simp [h6, this]
      · rw [if_neg h6, if_neg h6]
        simp only [true_and, if_true]
        rw [lQ_or, sh_hi n (by omega), Nat.testBit_or, Nat.testBit_two_pow]
        congr 1
        have : (n = b - 64) = (b = n + 64) := by
          apply propext
          omega
        simp only [this]
    · simp [hq]
  · rw [if_neg (by rw [le64 _ ha]; exact h)]
    unfold smB
    simp only [up2L_at]
    by_cases hq : q = k
    · subst hq
      by_cases h6 : b < 64
      · rw [if_pos h6, if_pos h6]
        simp only [true_and, if_true]
        rw [lQ_or, sh_lo a (by omega), Nat.testBit_or, Nat.testBit_two_pow]
        congr 1
        have : (a = b) = (b = a) := by
          apply propext
          omega
        simp only [this]
      · have : ¬ b = a := by omega
        simp [h6, this]
    · simp [hq]
theorem sm_0 (τ : Nat → Nat → Int64) (k q b : Nat) : smB (ns0 τ k) q b = if q = k then false else smB τ q b := by
  unfold ns0 smB
  simp only [up2L_at]
  by_cases hq : q = k
  · subst hq
    have e0 : (Int64.toUInt64 0).toNat = 0 := by decide
    simp [lQ, e0]
  · simp [hq]
theorem sh_ns : ∀ n, n < 64 → ((nI n).toInt64.toUInt64 &&& Int64.toUInt64 63).toNat % 64 = n := by decide +kernel
theorem nsh_e (τ : Nat → Nat → Int64) (k : Nat) {a : Nat} (ha : a < 64) : nsh τ k (nI a) ↔ smB τ k a = true := by
  unfold nsh
  rw [if_neg (by rw [le64 _ (by omega)]; omega)]
  unfold smB
  rw [if_pos ha, Nat.testBit_eq_decide_div_mod_eq, decide_eq_true_iff]
  have e : lQ ((((τ k 0).toUInt64 >>> ((nI a).toInt64.toUInt64 &&& Int64.toUInt64 63)).toInt64) &&& 1) = lQ (τ k 0) / 2 ^ a % 2 := by
    rw [lQ_and, lQ_sh, sh_ns a ha]
    exact Nat.and_one_is_mod _
  generalize ((((τ k 0).toUInt64 >>> ((nI a).toInt64.toUInt64 &&& Int64.toUInt64 63)).toInt64) &&& 1) = y at *
  have e0 : y = 0 ↔ lQ y = 0 := by
    constructor
    · intro h
      rw [h]
      rfl
    · intro h
      have : y.toUInt64 = (0 : Int64).toUInt64 := UInt64.toNat_inj.mp h
      rw [← Int64.toInt64_toUInt64 y, this]
      rfl
  rw [e0, e]
  omega
theorem bsum_add {X Y : Nat → Bool} {a : Nat} : ∀ n, (∀ b, b < n → Y b = (X b || decide (b = a))) → bsum (fun a => (Y a).toNat) n = bsum (fun a => (X a).toNat) n + if a < n ∧ X a = false then 1 else 0
  | 0, _ => by simp [bsum]
  | n + 1, h => by
    rw [bsum, bsum, bsum_add n (fun b hb => h b (by omega)), h n (by omega)]
    by_cases h1 : n = a
    · subst h1
      cases hX : X n <;> simp
    · by_cases h2 : a < n
      · have : a < n + 1 := by omega
        cases hX : X a <;> simp [h1, h2, this] <;> omega
      · have : ¬ a < n + 1 := by omega
        simp [h1, h2, this]
theorem cnt_add {X Y : Nat → Bool} {a : Nat} (ha : a < 128) (h : ∀ b, b < 128 → Y b = (X b || decide (b = a))) : cntS Y = cntS X + if X a = true then 0 else 1 := by
  rw [cntS, bsum_add 128 h]
  cases hX : X a <;> simp [ha]
theorem cnt_c {X Y : Nat → Bool} (h : ∀ b, b < 128 → Y b = X b) : cntS Y = cntS X := bsum_c 128 (fun i hi => by rw [h i hi])
def sx (cc : Nat → Bool) (vv : Nat → Nat) (u : Nat) : Nat → Nat → Bool
  | 0 => fun b => decide (b = vv u)
  | v + 1 => fun b => sx cc vv u v b || (!decide (v = u) && cc v && decide (b = vv v))
def ukN (cc : Nat → Bool) (vv : Nat → Nat) : Nat → Nat
  | 0 => 0
  | x + 1 => ukN cc vv x + if cc x = true ∧ ∀ j, j < x → ¬ (cc j = true ∧ vv j = vv x) then 1 else 0
theorem sx_mem {cc : Nat → Bool} {vv : Nat → Nat} {u b : Nat} : ∀ v, sx cc vv u v b = true ↔ b = vv u ∨ ∃ j, j < v ∧ j ≠ u ∧ cc j = true ∧ vv j = b
  | 0 => by simp [sx]
  | v + 1 => by
    rw [sx, Bool.or_eq_true, sx_mem v]
    constructor
    · rintro ((h | ⟨j, h1, h2, h3, h4⟩) | h)
      · exact .inl h
      · exact .inr ⟨j, by omega, h2, h3, h4⟩
      · simp only [Bool.and_eq_true, Bool.not_eq_true', decide_eq_false_iff_not, decide_eq_true_eq] at h
        exact .inr ⟨v, by omega, h.1.1, h.1.2, h.2.symm⟩
    · rintro (h | ⟨j, h1, h2, h3, h4⟩)
      · exact .inl (.inl h)
      · by_cases hj : j = v
        · subst hj
          refine .inr ?_
          simp [h2, h3, h4]
        · exact .inl (.inr ⟨j, by omega, h2, h3, h4⟩)
theorem sx_cnt {cc : Nat → Bool} {vv : Nat → Nat} {u : Nat} (hv : ∀ j, vv j < 128) (hcu : cc u = true) : ∀ v, cntS (sx cc vv u v) = ukN cc vv v + if v ≤ u ∧ ∀ j, j < v → ¬ (cc j = true ∧ vv j = vv u) then 1 else 0
  | 0 => by
    have h := cnt_add (X := fun _ => false) (Y := sx cc vv u 0) (hv u) (fun b _ => by simp [sx])
    have h0 : cntS (fun _ => false) = 0 := by decide +kernel
    rw [h, h0]
    simp [ukN]
  | v + 1 => by
    have ih := sx_cnt hv hcu v
    by_cases hvu : v = u
    · subst hvu
      rw [cnt_c (X := sx cc vv v v) (fun b _ => by simp [sx]), ih, ukN]
      rw [if_neg (show ¬ (v + 1 ≤ v ∧ _) from fun h => by omega)]
      simp [hcu]
    · cases hc : cc v with
      | false =>
        rw [cnt_c (X := sx cc vv u v) (fun b _ => by simp [sx, hc]), ih, ukN]
        have e : (v ≤ u ∧ ∀ j, j < v → ¬ (cc j = true ∧ vv j = vv u)) ↔ (v + 1 ≤ u ∧ ∀ j, j < v + 1 → ¬ (cc j = true ∧ vv j = vv u)) := by
          constructor
          · rintro ⟨h1, h2⟩
            refine ⟨by omega, fun j hj => ?_⟩
            by_cases hj2 : j = v
            · subst hj2
              simp [hc]
            · exact h2 j (by omega)
          · rintro ⟨h1, h2⟩
            exact ⟨by omega, fun j hj => h2 j (by omega)⟩
        simp only [e]
        simp [hc]
      | true =>
        rw [cnt_add (X := sx cc vv u v) (hv v) (fun b _ => by simp [sx, hc, hvu]), ih, ukN]
        have hm := sx_mem (cc := cc) (vv := vv) (u := u) (b := vv v) v
        by_cases hlt : u < v
        · rw [if_neg (show ¬ (v ≤ u ∧ _) from fun h => by omega), if_neg (show ¬ (v + 1 ≤ u ∧ _) from fun h => by omega)]
          by_cases hn : ∀ j, j < v → ¬ (cc j = true ∧ vv j = vv v)
          · have : ¬ sx cc vv u v (vv v) = true := by
              rw [hm]
              rintro (h | ⟨j, h1, _, h3, h4⟩)
              · exact hn u hlt ⟨hcu, h.symm⟩
              · exact hn j h1 ⟨h3, h4⟩
            rw [if_neg this, if_pos ⟨hc, hn⟩]
          · have : sx cc vv u v (vv v) = true := by
              rw [hm]
              apply Classical.byContradiction
              intro hno
              apply hn
              intro j hj hh
              by_cases hju : j = u
              · subst hju
                exact hno (.inl hh.2.symm)
              · exact hno (.inr ⟨j, hj, hju, hh.1, hh.2⟩)
            rw [if_pos this, if_neg (fun h => hn h.2)]
        · have hvl : v < u := by omega
          by_cases he : vv v = vv u
          · have : sx cc vv u v (vv v) = true := hm.mpr (.inl he)
            rw [if_pos this, he]
            have e2 : ¬ (v + 1 ≤ u ∧ ∀ j, j < v + 1 → ¬ (cc j = true ∧ vv j = vv u)) := fun h => h.2 v (by omega) ⟨hc, he⟩
            rw [if_neg e2]
            have e3 : (v ≤ u ∧ ∀ j, j < v → ¬ (cc j = true ∧ vv j = vv u)) ↔ (cc v = true ∧ ∀ j, j < v → ¬ (cc j = true ∧ vv j = vv u)) := ⟨fun h => ⟨hc, h.2⟩, fun h => ⟨by omega, h.2⟩⟩
            simp only [e3, hc]
          · have e4 : (v ≤ u ∧ ∀ j, j < v → ¬ (cc j = true ∧ vv j = vv u)) ↔ (v + 1 ≤ u ∧ ∀ j, j < v + 1 → ¬ (cc j = true ∧ vv j = vv u)) := by
              constructor
              · rintro ⟨h1, h2⟩
                refine ⟨by omega, fun j hj => ?_⟩
                by_cases hj2 : j = v
                · subst hj2
                  exact fun h => he h.2
                · exact h2 j (by omega)
              · rintro ⟨h1, h2⟩
                exact ⟨by omega, fun j hj => h2 j (by omega)⟩
            simp only [e4]
            have e5 : (if sx cc vv u v (vv v) = true then 0 else 1) = (if cc v = true ∧ ∀ j, j < v → ¬ (cc j = true ∧ vv j = vv v) then 1 else 0) := by
              by_cases hn : ∀ j, j < v → ¬ (cc j = true ∧ vv j = vv v)
              · have : ¬ sx cc vv u v (vv v) = true := by
                  rw [hm]
                  rintro (h | ⟨j, h1, _, h3, h4⟩)
                  · exact he h
                  · exact hn j h1 ⟨h3, h4⟩
                rw [if_neg this, if_pos ⟨hc, hn⟩]
              · have : sx cc vv u v (vv v) = true := by
                  rw [hm]
                  apply Classical.byContradiction
                  intro hno
                  apply hn
                  intro j hj hh
                  exact hno (.inr ⟨j, hj, by omega, hh.1, hh.2⟩)
                rw [if_pos this, if_neg (fun h => hn h.2)]
            rw [e5]
            omega
theorem sx_uk {cc : Nat → Bool} {vv : Nat → Nat} {u n : Nat} (hv : ∀ j, vv j < 128) (hcu : cc u = true) (hun : u < n) : cntS (sx cc vv u n) = ukN cc vv n := by
  rw [sx_cnt hv hcu n, if_neg (show ¬ (n ≤ u ∧ _) from fun h => by omega)]
  rfl
