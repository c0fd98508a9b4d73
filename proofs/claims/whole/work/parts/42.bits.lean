/-! How many bits a long has: what the JDK's bitCount answers, as a sum over the bits. -/
def bsum (f : Nat → Nat) : Nat → Nat
  | 0 => 0
  | n + 1 => bsum f n + f n
theorem bsum_c {f g : Nat → Nat} : ∀ n, (∀ i, i < n → f i = g i) → bsum f n = bsum g n
  | 0, _ => rfl
  | n + 1, h => by
    rw [bsum, bsum, bsum_c n (fun i hi => h i (by omega)), h n (by omega)]
theorem bsum_a (f : Nat → Nat) (m : Nat) : ∀ n, bsum f (m + n) = bsum f m + bsum (fun i => f (m + i)) n
  | 0 => by simp [bsum]
  | n + 1 => by
    rw [← Nat.add_assoc, bsum, bsum_a f m n, bsum]
    omega
def bF : Nat → (Nat → Nat) → Nat
  | 0, _ => 0
  | m + 1, b => b 0 + 256 * bF m (fun j => b (j + 1))
theorem and_spl {a x cc mm : Nat} (ha : a < 256) (hc : cc < 256) : (a + 256 * x) &&& (cc + 256 * mm) = (a &&& cc) + 256 * (x &&& mm) := by
  have h1 := @Nat.and_div_two_pow (a + 256 * x) (cc + 256 * mm) 8
  have h2 := @Nat.and_mod_two_pow (a + 256 * x) (cc + 256 * mm) 8
  have e1 : (a + 256 * x) / 2 ^ 8 = x := by omega
  have e2 : (cc + 256 * mm) / 2 ^ 8 = mm := by omega
  have e3 : (a + 256 * x) % 2 ^ 8 = a := by omega
  have e4 : (cc + 256 * mm) % 2 ^ 8 = cc := by omega
  rw [e1, e2] at h1
  rw [e3, e4] at h2
  omega
theorem bF_and {cc : Nat} (hc : cc < 256) : ∀ m b, (∀ j, b j < 256) → bF m b &&& bF m (fun _ => cc) = bF m (fun j => b j &&& cc)
  | 0, _, _ => by simp [bF]
  | m + 1, b, h => by
    rw [bF, bF, bF, and_spl (h 0) hc, bF_and hc m _ (fun j => h (j + 1))]
theorem bF_add : ∀ m a b, bF m a + bF m b = bF m (fun j => a j + b j)
  | 0, _, _ => by simp [bF]
  | m + 1, a, b => by
    rw [bF, bF, bF, ← bF_add m]
    omega
theorem bF_sub : ∀ m a b, (∀ j, b j ≤ a j) → bF m a - bF m b = bF m (fun j => a j - b j) ∧ bF m b ≤ bF m a
  | 0, _, _, _ => ⟨rfl, Nat.le_refl _⟩
  | m + 1, a, b, h => by
    rw [bF, bF, bF, ← (bF_sub m _ _ (fun j => h (j + 1))).1]
    have h1 := (bF_sub m (fun j => a (j + 1)) (fun j => b (j + 1)) (fun j => h (j + 1))).2
    have h2 := h 0
    omega
theorem bF_c : ∀ m a b, (∀ j, j < m → a j = b j) → bF m a = bF m b
  | 0, _, _, _ => by simp [bF]
  | m + 1, a, b, h => by
    rw [bF, bF, h 0 (by omega), bF_c m _ _ (fun j hj => h (j + 1) (by omega))]
theorem bF_lt : ∀ m b, (∀ j, b j < 256) → bF m b < 256 ^ m
  | 0, _, _ => by simp [bF]
  | m + 1, b, h => by
    have h1 := bF_lt m (fun j => b (j + 1)) (fun j => h (j + 1))
    have h2 := h 0
    rw [bF, Nat.pow_succ]
    omega
theorem bF_dec : ∀ m x, x < 256 ^ m → x = bF m (fun j => x / 256 ^ j % 256)
  | 0, x, h => by
    simp at h
    simp [bF, h]
  | m + 1, x, h => by
    have h1 := bF_dec m (x / 256) (by rw [Nat.pow_succ] at h; omega)
    rw [bF]
    have e : (fun j => x / 256 ^ (j + 1) % 256) = fun j => x / 256 / 256 ^ j % 256 := by
      funext j
      rw [Nat.div_div_eq_div_mul, Nat.pow_succ, Nat.mul_comm]
    rw [e, ← h1]
    simp
    omega
theorem bF_s1 : ∀ m b, (∀ j, b j < 256) → b m = 0 → bF m b / 2 = bF m (fun j => b j / 2 + 128 * (b (j + 1) % 2))
  | 0, _, _, _ => by simp [bF]
  | m + 1, b, h, h0 => by
    rw [bF, bF, ← bF_s1 m _ (fun j => h (j + 1)) h0]
    cases m with
    | zero =>
      simp [bF] at *
      simp [h0]
    | succ m =>
      simp only [bF, Nat.zero_add]
      omega
theorem bF_s2 : ∀ m b, (∀ j, b j < 256) → b m = 0 → bF m b / 4 = bF m (fun j => b j / 4 + 64 * (b (j + 1) % 4))
  | 0, _, _, _ => by simp [bF]
  | m + 1, b, h, h0 => by
    rw [bF, bF, ← bF_s2 m _ (fun j => h (j + 1)) h0]
    cases m with
    | zero =>
      simp [bF] at *
      simp [h0]
    | succ m =>
      simp only [bF, Nat.zero_add]
      omega
theorem bF_s4 : ∀ m b, (∀ j, b j < 256) → b m = 0 → bF m b / 16 = bF m (fun j => b j / 16 + 16 * (b (j + 1) % 16))
  | 0, _, _, _ => by simp [bF]
  | m + 1, b, h, h0 => by
    rw [bF, bF, ← bF_s4 m _ (fun j => h (j + 1)) h0]
    cases m with
    | zero =>
      simp [bF] at *
      simp [h0]
    | succ m =>
      simp only [bF, Nat.zero_add]
      omega
/-- a byte's steps -/
def by1 (b : Nat) : Nat := b - (b / 2 &&& 85)
def by2 (b : Nat) : Nat := (b &&& 51) + (b / 4 &&& 51)
def by3 (b : Nat) : Nat := (b + b / 16) % 16
theorem by1_m : ∀ b, b < 256 → ∀ t, t < 2 → (b / 2 + 128 * t) &&& 85 = b / 2 &&& 85 := by decide +kernel
theorem by1_l : ∀ b, b < 256 → (b / 2 &&& 85) ≤ b := by decide +kernel
theorem by1_x : ∀ b, b < 256 → by1 b ≤ 170 := by decide +kernel
theorem by2_m : ∀ b, b < 256 → ∀ t, t < 4 → (b / 4 + 64 * t) &&& 51 = b / 4 &&& 51 := by decide +kernel
theorem by2_x : ∀ b, b < 256 → by2 (by1 b) ≤ 68 ∧ by2 (by1 b) % 16 ≤ 4 := by decide +kernel
theorem by3_x : ∀ b, b < 256 → by3 (by2 (by1 b)) = bsum (fun i => b / 2 ^ i % 2) 8 ∧ by3 (by2 (by1 b)) ≤ 8 := by decide +kernel
theorem and15 : ∀ b, b < 256 → b &&& 15 = b % 16 := by decide +kernel
abbrev lQ (x : Int64) : Nat := x.toUInt64.toNat
theorem lQ_lt (x : Int64) : lQ x < 2 ^ 64 := x.toUInt64.toNat_lt
theorem lQ_and (x y : Int64) : lQ (x &&& y) = lQ x &&& lQ y := by simp [lQ]
theorem lQ_or (x y : Int64) : lQ (x ||| y) = lQ x ||| lQ y := by simp [lQ]
theorem lQ_add (x y : Int64) : lQ (x + y) = (lQ x + lQ y) % 2 ^ 64 := by simp [lQ]
theorem lQ_sub (x y : Int64) (h : lQ y ≤ lQ x) : lQ (x - y) = lQ x - lQ y := by
  have h1 := lQ_lt x
  have h2 := lQ_lt y
  simp only [lQ, Int64.toUInt64_sub, UInt64.toNat_sub] at *
  omega
theorem lQ_sh (x : Int64) (cc : UInt64) : lQ (x.toUInt64 >>> cc).toInt64 = lQ x / 2 ^ (cc.toNat % 64) := by
  simp [lQ, UInt64.toNat_shiftRight, Nat.shiftRight_eq_div_pow]
theorem bc1_e (x : Int64) {b : Nat → Nat} (h : ∀ j, b j < 256) (h8 : b 8 = 0) (hx : lQ x = bF 8 b) : lQ (bc1 x) = bF 8 (fun j => by1 (b j)) := by
  have e : lQ ((x.toUInt64 >>> ((1 : Int32).toInt64.toUInt64 &&& Int64.toUInt64 63)).toInt64 &&& 6148914691236517205) = bF 8 (fun j => b j / 2 &&& 85) := by
    rw [lQ_and, lQ_sh]
    have e1 : 2 ^ (((1 : Int32).toInt64.toUInt64 &&& Int64.toUInt64 63).toNat % 64) = 2 := by decide +kernel
    have e2 : lQ 6148914691236517205 = bF 8 (fun _ => 85) := by decide +kernel
    rw [e1, e2, hx, bF_s1 8 b h h8, bF_and (by decide) 8 _ (fun j => by have := h j; omega)]
    apply bF_c
    intro j _
    exact by1_m _ (h j) _ (by omega)
  have hs := bF_sub 8 b (fun j => b j / 2 &&& 85) (fun j => by1_l _ (h j))
  unfold bc1
  rw [lQ_sub _ _ (by rw [e, hx]; exact hs.2), e, hx, hs.1]
  rfl
theorem bc2_e (x : Int64) {b : Nat → Nat} (h : ∀ j, b j < 256) (h8 : b 8 = 0) (hx : lQ x = bF 8 b) (hb : ∀ j, by2 (b j) < 256) : lQ (bc2 x) = bF 8 (fun j => by2 (b j)) := by
  have e : lQ ((x.toUInt64 >>> ((2 : Int32).toInt64.toUInt64 &&& Int64.toUInt64 63)).toInt64 &&& 3689348814741910323) = bF 8 (fun j => b j / 4 &&& 51) := by
    rw [lQ_and, lQ_sh]
    have e1 : 2 ^ (((2 : Int32).toInt64.toUInt64 &&& Int64.toUInt64 63).toNat % 64) = 4 := by decide +kernel
    have e2 : lQ 3689348814741910323 = bF 8 (fun _ => 51) := by decide +kernel
    rw [e1, e2, hx, bF_s2 8 b h h8, bF_and (by decide) 8 _ (fun j => by have := h j; omega)]
    apply bF_c
    intro j _
    exact by2_m _ (h j) _ (by omega)
  have e0 : lQ (x &&& 3689348814741910323) = bF 8 (fun j => b j &&& 51) := by
    have e2 : lQ 3689348814741910323 = bF 8 (fun _ => 51) := by decide +kernel
    rw [lQ_and, e2, hx, bF_and (by decide) 8 _ h]
  unfold bc2
  rw [lQ_add, e, e0, bF_add]
  have hl := bF_lt 8 (fun j => by2 (b j)) hb
  exact Nat.mod_eq_of_lt hl
theorem bc3_e (x : Int64) {b : Nat → Nat} (h : ∀ j, b j ≤ 68) (h2 : ∀ j, b j % 16 ≤ 4) (h8 : b 8 = 0) (hx : lQ x = bF 8 b) : lQ (bc3 x) = bF 8 (fun j => by3 (b j)) := by
  have hb : ∀ j, b j < 256 := fun j => by have := h j; omega
  have e : lQ (x.toUInt64 >>> ((4 : Int32).toInt64.toUInt64 &&& Int64.toUInt64 63)).toInt64 = bF 8 (fun j => b j / 16 + 16 * (b (j + 1) % 16)) := by
    rw [lQ_sh]
    have e1 : 2 ^ (((4 : Int32).toInt64.toUInt64 &&& Int64.toUInt64 63).toNat % 64) = 16 := by decide +kernel
    rw [e1, hx, bF_s4 8 b hb h8]
  have hw : ∀ j, b j + (b j / 16 + 16 * (b (j + 1) % 16)) < 256 := fun j => by
    have := h j
    have := h2 (j + 1)
    omega
  unfold bc3
  rw [lQ_and, lQ_add, e, hx, bF_add]
  have hl := bF_lt 8 _ hw
  rw [Nat.mod_eq_of_lt hl]
  have e2 : lQ 1085102592571150095 = bF 8 (fun _ => 15) := by decide +kernel
  rw [e2, bF_and (by decide) 8 _ hw]
  apply bF_c
  intro j _
  rw [and15 _ (hw j), by3]
  omega
theorem bF8 (b : Nat → Nat) : bF 8 b = b 0 + 256 * b 1 + 65536 * b 2 + 16777216 * b 3 + 4294967296 * b 4 + 1099511627776 * b 5 + 281474976710656 * b 6 + 72057594037927936 * b 7 := by
  simp only [bF, Nat.zero_add, Nat.reduceAdd]
  omega
theorem bc456 (x : Int64) {b : Nat → Nat} (h : ∀ j, b j ≤ 8) (hx : lQ x = bF 8 b) : lQ (bc6 (bc5 (bc4 x))) % 128 = b 0 + b 1 + b 2 + b 3 + b 4 + b 5 + b 6 + b 7 := by
  have e4 : lQ (bc4 x) = lQ x + lQ x / 256 := by
    unfold bc4
    rw [lQ_add, lQ_sh]
    have e1 : 2 ^ (((8 : Int32).toInt64.toUInt64 &&& Int64.toUInt64 63).toNat % 64) = 256 := by decide +kernel
    rw [e1, hx, bF8]
    have h0 := h 0; have h1 := h 1; have h2 := h 2; have h3 := h 3; have h4 := h 4; have h5 := h 5; have h6 := h 6; have h7 := h 7
    omega
  have e5 : lQ (bc5 (bc4 x)) = lQ (bc4 x) + lQ (bc4 x) / 65536 := by
    unfold bc5
    rw [lQ_add, lQ_sh]
    have e1 : 2 ^ (((16 : Int32).toInt64.toUInt64 &&& Int64.toUInt64 63).toNat % 64) = 65536 := by decide +kernel
    rw [e1, e4, hx, bF8]
    have h0 := h 0; have h1 := h 1; have h2 := h 2; have h3 := h 3; have h4 := h 4; have h5 := h 5; have h6 := h 6; have h7 := h 7
    omega
  have e6 : lQ (bc6 (bc5 (bc4 x))) = lQ (bc5 (bc4 x)) + lQ (bc5 (bc4 x)) / 4294967296 := by
    unfold bc6
    rw [lQ_add, lQ_sh]
    have e1 : 2 ^ (((32 : Int32).toInt64.toUInt64 &&& Int64.toUInt64 63).toNat % 64) = 4294967296 := by decide +kernel
    rw [e1, e5, e4, hx, bF8]
    have h0 := h 0; have h1 := h 1; have h2 := h 2; have h3 := h 3; have h4 := h 4; have h5 := h 5; have h6 := h 6; have h7 := h 7
    omega
  rw [e6, e5, e4, hx, bF8]
  have h0 := h 0; have h1 := h 1; have h2 := h 2; have h3 := h 3; have h4 := h 4; have h5 := h 5; have h6 := h 6; have h7 := h 7
  generalize b 0 = q0 at *; generalize b 1 = q1 at *; generalize b 2 = q2 at *; generalize b 3 = q3 at *; generalize b 4 = q4 at *; generalize b 5 = q5 at *; generalize b 6 = q6 at *; generalize b 7 = q7 at *
  have d1 : (q0 + 256 * q1 + 65536 * q2 + 16777216 * q3 + 4294967296 * q4 + 1099511627776 * q5 + 281474976710656 * q6 + 72057594037927936 * q7) / 256 = q1 + 256 * q2 + 65536 * q3 + 16777216 * q4 + 4294967296 * q5 + 1099511627776 * q6 + 281474976710656 * q7 := by omega
  rw [d1]
  have d2 : (q0 + 256 * q1 + 65536 * q2 + 16777216 * q3 + 4294967296 * q4 + 1099511627776 * q5 + 281474976710656 * q6 + 72057594037927936 * q7 + (q1 + 256 * q2 + 65536 * q3 + 16777216 * q4 + 4294967296 * q5 + 1099511627776 * q6 + 281474976710656 * q7)) / 65536 = (q2 + q3) + 256 * (q3 + q4) + 65536 * (q4 + q5) + 16777216 * (q5 + q6) + 4294967296 * (q6 + q7) + 1099511627776 * q7 := by omega
  rw [d2]
  have d3 : (q0 + 256 * q1 + 65536 * q2 + 16777216 * q3 + 4294967296 * q4 + 1099511627776 * q5 + 281474976710656 * q6 + 72057594037927936 * q7 + (q1 + 256 * q2 + 65536 * q3 + 16777216 * q4 + 4294967296 * q5 + 1099511627776 * q6 + 281474976710656 * q7) + ((q2 + q3) + 256 * (q3 + q4) + 65536 * (q4 + q5) + 16777216 * (q5 + q6) + 4294967296 * (q6 + q7) + 1099511627776 * q7)) / 4294967296 = (q4 + q5 + q6 + q7) + 256 * (q5 + q6 + q7) + 65536 * (q6 + q7) + 16777216 * q7 := by omega
  rw [d3]
  omega
theorem by_hi {b j i : Nat} (hi : i < 8) : b / 256 ^ j % 256 / 2 ^ i % 2 = b / 2 ^ (8 * j + i) % 2 := by
  have e : (256 : Nat) ^ j = 2 ^ (8 * j) := by
    rw [Nat.pow_mul]
  rw [e, Nat.pow_add, ← Nat.div_div_eq_div_mul]
  generalize b / 2 ^ (8 * j) = z
  match i, hi with
  | 0, _ => omega
  | 1, _ => omega
  | 2, _ => omega
  | 3, _ => omega
  | 4, _ => omega
  | 5, _ => omega
  | 6, _ => omega
  | 7, _ => omega
theorem bcF_e (x : Int64) : bcF x = nI (bsum (fun i => lQ x / 2 ^ i % 2) 64) := by
  have hx := bF_dec 8 (lQ x) (lQ_lt x)
  have h : ∀ j, lQ x / 256 ^ j % 256 < 256 := fun j => Nat.mod_lt _ (by decide)
  have h8 : lQ x / 256 ^ 8 % 256 = 0 := by
    have := lQ_lt x
    omega
  have a1 := bc1_e x h h8 hx
  have a2 := bc2_e (bc1 x) (b := fun j => by1 (lQ x / 256 ^ j % 256)) (fun j => by have := by1_x _ (h j); show by1 _ < 256; omega) (by show by1 (lQ x / 256 ^ 8 % 256) = 0; rw [h8]; rfl) a1 (fun j => by have := (by2_x _ (h j)).1; show by2 (by1 _) < 256; omega)
  have a3 := bc3_e (bc2 (bc1 x)) (b := fun j => by2 (by1 (lQ x / 256 ^ j % 256))) (fun j => (by2_x _ (h j)).1) (fun j => (by2_x _ (h j)).2) (by show by2 (by1 (lQ x / 256 ^ 8 % 256)) = 0; rw [h8]; rfl) a2
  have a4 := bc456 (bc3 (bc2 (bc1 x))) (b := fun j => by3 (by2 (by1 (lQ x / 256 ^ j % 256)))) (fun j => (by3_x _ (h j)).2) a3
  have a5 : ∀ j, by3 (by2 (by1 (lQ x / 256 ^ j % 256))) = bsum (fun i => lQ x / 2 ^ (8 * j + i) % 2) 8 := fun j => by
    rw [(by3_x _ (h j)).1]
    exact bsum_c 8 (fun i hi => by_hi hi)
  have a6 : bsum (fun i => lQ x / 2 ^ i % 2) 64 = lQ (bc6 (bc5 (bc4 (bc3 (bc2 (bc1 x)))))) % 128 := by
    rw [a4]
    simp only [a5]
    rw [show 64 = 0 + 8 + 8 + 8 + 8 + 8 + 8 + 8 + 8 from rfl, bsum_a, bsum_a, bsum_a, bsum_a, bsum_a, bsum_a, bsum_a, bsum_a]
    simp only [Nat.zero_add, Nat.reduceAdd, Nat.reduceMul, bsum, Nat.add_zero]
  rw [a6]
  unfold bcF
  generalize bc6 (bc5 (bc4 (bc3 (bc2 (bc1 x))))) = y
  apply Int32.toBitVec_inj.1
  apply BitVec.eq_of_toNat_eq
  have e127 : (127 : Nat) = 2 ^ 7 - 1 := rfl
  simp only [nI, Int32.toBitVec_and, BitVec.toNat_and, Int64.toBitVec_toInt32, Int32.toBitVec_ofNat', BitVec.toNat_ofNat]
  rw [BitVec.signExtend_eq_setWidth_of_le _ (by decide), BitVec.toNat_setWidth]
  show y.toBitVec.toNat % 2 ^ 32 &&& 127 = _
  rw [e127, Nat.and_two_pow_sub_one_eq_mod]
  show y.toBitVec.toNat % 2 ^ 32 % 2 ^ 7 = y.toBitVec.toNat % 128 % 2 ^ 32
  omega
