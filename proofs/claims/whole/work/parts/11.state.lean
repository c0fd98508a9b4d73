/-! The state: σ k j, the int in the place j of the cell k (of a reference to a kind: the kind's number); τ k j, the long there. Cells: 0 the object; 1 2 3 its arrays of places, units, waivers; 4 the rule book, 5 6 7 8 its arrays, 9 .. 32 its rules; 33 the own rules, 34 what they say; 35 the text, 36 its signs, 37 its array of drafts, 38 .. 61 the drafts; 62 the question, 63 .. 66 its sets; 67 the refusals; 68 .. 79 places, 80 .. 119 units, 120 .. 139 waivers; 140 the reference, 141 .. 157 its arrays; 158 the law's own cell. Written by wip/tools/emit_state.py. -/
def fs_PR (G : gP) (ad : Nat → Nat) (f : Nat → Int32) (g : Nat → Int64) : List Value := [.ref (ad 1), .ref (ad 2), .int (f 2), .ref (ad 3), .int (f 4), .ref (ad 4), .ref (ad 33), .ref (ad 35), .ref (ad 62), .ref (ad 67), .int (f 10)]
def fs_RB (G : gP) (ad : Nat → Nat) (f : Nat → Int32) (g : Nat → Int64) : List Value := [.ref (ad 5), .ref (ad 6), .int (f 2), .ref (ad 7), .ref (ad 8), .int (f 5)]
def fs_RU (G : gP) (ad : Nat → Nat) (f : Nat → Int32) (g : Nat → Int64) : List Value := [.int (f 0), .ref (ga G (f 1).toNatClampNeg), .int (f 2), .int (f 3), .int (f 4)]
def fs_OW (G : gP) (ad : Nat → Nat) (f : Nat → Int32) (g : Nat → Int64) : List Value := [.ref (ad 34), .int (f 1)]
def fs_TX (G : gP) (ad : Nat → Nat) (f : Nat → Int32) (g : Nat → Int64) : List Value := [.ref (ad 36), .int (f 1), .ref (ad 37), .int (f 3), .int (f 4), .int (f 5), .ref (ga G (f 6).toNatClampNeg)]
def fs_QU (G : gP) (ad : Nat → Nat) (f : Nat → Int32) (g : Nat → Int64) : List Value := [.int (f 0), .int (f 1), .int (f 2), .int (f 3), .int (f 4), .int (f 5), .int (f 6), .int (f 7), .int (f 8), .int (f 9), .int (f 10), .int (f 11), .int (f 12), .int (f 13), .ref (ad 63), .ref (ad 64), .ref (ad 65), .ref (ad 66)]
def fs_NS (G : gP) (ad : Nat → Nat) (f : Nat → Int32) (g : Nat → Int64) : List Value := [.long (g 0), .long (g 1)]
def fs_PL (G : gP) (ad : Nat → Nat) (f : Nat → Int32) (g : Nat → Int64) : List Value := [.int (f 0), .int (f 1), .int (f 2), .int (f 3), .int (f 4)]
def fs_UN (G : gP) (ad : Nat → Nat) (f : Nat → Int32) (g : Nat → Int64) : List Value := [.int (f 0), .int (f 1), .int (f 2), .int (f 3), .int (f 4), .int (f 5), .int (f 6), .int (f 7), .int (f 8), .int (f 9), .int (f 10)]
def fs_WV (G : gP) (ad : Nat → Nat) (f : Nat → Int32) (g : Nat → Int64) : List Value := [.int (f 0), .int (f 1), .int (f 2), .int (f 3)]
def fs_MD (G : gP) (ad : Nat → Nat) (f : Nat → Int32) (g : Nat → Int64) : List Value := [.int (f 0), .ref (ad 141), .int (f 2), .ref (ad 142), .ref (ad 143), .int (f 5), .ref (ad 144), .ref (ad 145), .ref (ad 146), .ref (ad 147), .ref (ad 148), .int (f 11), .ref (ad 149), .ref (ad 150), .ref (ad 151), .ref (ad 152), .ref (ad 153), .int (f 17), .int (f 18), .ref (ad 154), .int (f 20), .ref (ad 155), .int (f 22), .ref (ad 156), .int (f 24), .int (f 25), .int (f 26), .ref (ad 157)]
def shp (G : gP) (ad : Nat → Nat) (k : Nat) (f : Nat → Int32) (g : Nat → Int64) : va_E :=
  if k < 9 then (match k with
    | 0 => .inr (0, fs_PR G ad f g)
    | 1 => .inl (G.2.1 3, 12, .inr (.inr (.inr (.inr (fun j => some (ad (68 + j)))))))
    | 2 => .inl (G.2.1 4, 40, .inr (.inr (.inr (.inr (fun j => some (ad (80 + j)))))))
    | 3 => .inl (G.2.1 5, 20, .inr (.inr (.inr (.inr (fun j => some (ad (120 + j)))))))
    | 4 => .inr (1, fs_RB G ad f g)
    | 5 => .inl (G.2.1 6, 24, .inr (.inr (.inr (.inr (fun j => some (ad (9 + j)))))))
    | 6 => .inl (G.2.1 0, 24, .inl f)
    | 7 => .inl (G.2.1 0, 276, .inl f)
    | _ => .inl (G.2.1 0, 276, .inl f)
  ) else if k < 33 then .inr (2, fs_RU G ad f g)
  else if k < 38 then (match k with
    | 33 => .inr (3, fs_OW G ad f g)
    | 34 => .inl (G.2.1 0, 4, .inl f)
    | 35 => .inr (4, fs_TX G ad f g)
    | 36 => .inl (G.2.1 0, 400, .inl f)
    | _ => .inl (G.2.1 6, 24, .inr (.inr (.inr (.inr (fun j => some (ad (38 + j)))))))
  ) else if k < 62 then .inr (2, fs_RU G ad f g)
  else if k < 63 then .inr (5, fs_QU G ad f g)
  else if k < 67 then .inr (6, fs_NS G ad f g)
  else if k < 68 then .inl (G.2.1 0, 24, .inl f)
  else if k < 80 then .inr (7, fs_PL G ad f g)
  else if k < 120 then .inr (8, fs_UN G ad f g)
  else if k < 140 then .inr (9, fs_WV G ad f g)
  else (match k with
    | 140 => .inr (10, fs_MD G ad f g)
    | 141 => .inl (G.2.1 0, 60, .inl f)
    | 142 => .inl (G.2.1 0, 400, .inl f)
    | 143 => .inl (G.2.1 0, 40, .inl f)
    | 144 => .inl (G.2.1 0, 24, .inl f)
    | 145 => .inl (G.2.1 0, 24, .inl f)
    | 146 => .inl (G.2.1 0, 24, .inl f)
    | 147 => .inl (G.2.1 0, 24, .inl f)
    | 148 => .inl (G.2.1 2, 24, .inl f)
    | 149 => .inl (G.2.1 0, 20, .inl f)
    | 150 => .inl (G.2.1 0, 20, .inl f)
    | 151 => .inl (G.2.1 0, 20, .inl f)
    | 152 => .inl (G.2.1 0, 20, .inl f)
    | 153 => .inl (G.2.1 0, 4, .inl f)
    | 154 => .inl (G.2.1 0, 552, .inl f)
    | 155 => .inl (G.2.1 0, 24, .inl f)
    | 156 => .inl (G.2.1 0, 400, .inl f)
    | 157 => .inl (G.2.1 0, 88, .inl f)
    | _ => .inl (G.2.1 1, 1, .inr (.inl g))
  )
theorem sh_0 (G : gP) (ad : Nat → Nat) (f : Nat → Int32) (g : Nat → Int64) : shp G ad 0 f g = .inr (0, fs_PR G ad f g) := rfl
theorem sh_1 (G : gP) (ad : Nat → Nat) (f : Nat → Int32) (g : Nat → Int64) : shp G ad 1 f g = .inl (G.2.1 3, 12, .inr (.inr (.inr (.inr (fun j => some (ad (68 + j))))))) := rfl
theorem sh_2 (G : gP) (ad : Nat → Nat) (f : Nat → Int32) (g : Nat → Int64) : shp G ad 2 f g = .inl (G.2.1 4, 40, .inr (.inr (.inr (.inr (fun j => some (ad (80 + j))))))) := rfl
theorem sh_3 (G : gP) (ad : Nat → Nat) (f : Nat → Int32) (g : Nat → Int64) : shp G ad 3 f g = .inl (G.2.1 5, 20, .inr (.inr (.inr (.inr (fun j => some (ad (120 + j))))))) := rfl
theorem sh_4 (G : gP) (ad : Nat → Nat) (f : Nat → Int32) (g : Nat → Int64) : shp G ad 4 f g = .inr (1, fs_RB G ad f g) := rfl
theorem sh_5 (G : gP) (ad : Nat → Nat) (f : Nat → Int32) (g : Nat → Int64) : shp G ad 5 f g = .inl (G.2.1 6, 24, .inr (.inr (.inr (.inr (fun j => some (ad (9 + j))))))) := rfl
theorem sh_6 (G : gP) (ad : Nat → Nat) (f : Nat → Int32) (g : Nat → Int64) : shp G ad 6 f g = .inl (G.2.1 0, 24, .inl f) := rfl
theorem sh_7 (G : gP) (ad : Nat → Nat) (f : Nat → Int32) (g : Nat → Int64) : shp G ad 7 f g = .inl (G.2.1 0, 276, .inl f) := rfl
theorem sh_8 (G : gP) (ad : Nat → Nat) (f : Nat → Int32) (g : Nat → Int64) : shp G ad 8 f g = .inl (G.2.1 0, 276, .inl f) := rfl
theorem sh_33 (G : gP) (ad : Nat → Nat) (f : Nat → Int32) (g : Nat → Int64) : shp G ad 33 f g = .inr (3, fs_OW G ad f g) := rfl
theorem sh_34 (G : gP) (ad : Nat → Nat) (f : Nat → Int32) (g : Nat → Int64) : shp G ad 34 f g = .inl (G.2.1 0, 4, .inl f) := rfl
theorem sh_35 (G : gP) (ad : Nat → Nat) (f : Nat → Int32) (g : Nat → Int64) : shp G ad 35 f g = .inr (4, fs_TX G ad f g) := rfl
theorem sh_36 (G : gP) (ad : Nat → Nat) (f : Nat → Int32) (g : Nat → Int64) : shp G ad 36 f g = .inl (G.2.1 0, 400, .inl f) := rfl
theorem sh_37 (G : gP) (ad : Nat → Nat) (f : Nat → Int32) (g : Nat → Int64) : shp G ad 37 f g = .inl (G.2.1 6, 24, .inr (.inr (.inr (.inr (fun j => some (ad (38 + j))))))) := rfl
theorem sh_62 (G : gP) (ad : Nat → Nat) (f : Nat → Int32) (g : Nat → Int64) : shp G ad 62 f g = .inr (5, fs_QU G ad f g) := rfl
theorem sh_67 (G : gP) (ad : Nat → Nat) (f : Nat → Int32) (g : Nat → Int64) : shp G ad 67 f g = .inl (G.2.1 0, 24, .inl f) := rfl
theorem sh_140 (G : gP) (ad : Nat → Nat) (f : Nat → Int32) (g : Nat → Int64) : shp G ad 140 f g = .inr (10, fs_MD G ad f g) := rfl
theorem sh_141 (G : gP) (ad : Nat → Nat) (f : Nat → Int32) (g : Nat → Int64) : shp G ad 141 f g = .inl (G.2.1 0, 60, .inl f) := rfl
theorem sh_142 (G : gP) (ad : Nat → Nat) (f : Nat → Int32) (g : Nat → Int64) : shp G ad 142 f g = .inl (G.2.1 0, 400, .inl f) := rfl
theorem sh_143 (G : gP) (ad : Nat → Nat) (f : Nat → Int32) (g : Nat → Int64) : shp G ad 143 f g = .inl (G.2.1 0, 40, .inl f) := rfl
theorem sh_144 (G : gP) (ad : Nat → Nat) (f : Nat → Int32) (g : Nat → Int64) : shp G ad 144 f g = .inl (G.2.1 0, 24, .inl f) := rfl
theorem sh_145 (G : gP) (ad : Nat → Nat) (f : Nat → Int32) (g : Nat → Int64) : shp G ad 145 f g = .inl (G.2.1 0, 24, .inl f) := rfl
theorem sh_146 (G : gP) (ad : Nat → Nat) (f : Nat → Int32) (g : Nat → Int64) : shp G ad 146 f g = .inl (G.2.1 0, 24, .inl f) := rfl
theorem sh_147 (G : gP) (ad : Nat → Nat) (f : Nat → Int32) (g : Nat → Int64) : shp G ad 147 f g = .inl (G.2.1 0, 24, .inl f) := rfl
theorem sh_148 (G : gP) (ad : Nat → Nat) (f : Nat → Int32) (g : Nat → Int64) : shp G ad 148 f g = .inl (G.2.1 2, 24, .inl f) := rfl
theorem sh_149 (G : gP) (ad : Nat → Nat) (f : Nat → Int32) (g : Nat → Int64) : shp G ad 149 f g = .inl (G.2.1 0, 20, .inl f) := rfl
theorem sh_150 (G : gP) (ad : Nat → Nat) (f : Nat → Int32) (g : Nat → Int64) : shp G ad 150 f g = .inl (G.2.1 0, 20, .inl f) := rfl
theorem sh_151 (G : gP) (ad : Nat → Nat) (f : Nat → Int32) (g : Nat → Int64) : shp G ad 151 f g = .inl (G.2.1 0, 20, .inl f) := rfl
theorem sh_152 (G : gP) (ad : Nat → Nat) (f : Nat → Int32) (g : Nat → Int64) : shp G ad 152 f g = .inl (G.2.1 0, 20, .inl f) := rfl
theorem sh_153 (G : gP) (ad : Nat → Nat) (f : Nat → Int32) (g : Nat → Int64) : shp G ad 153 f g = .inl (G.2.1 0, 4, .inl f) := rfl
theorem sh_154 (G : gP) (ad : Nat → Nat) (f : Nat → Int32) (g : Nat → Int64) : shp G ad 154 f g = .inl (G.2.1 0, 552, .inl f) := rfl
theorem sh_155 (G : gP) (ad : Nat → Nat) (f : Nat → Int32) (g : Nat → Int64) : shp G ad 155 f g = .inl (G.2.1 0, 24, .inl f) := rfl
theorem sh_156 (G : gP) (ad : Nat → Nat) (f : Nat → Int32) (g : Nat → Int64) : shp G ad 156 f g = .inl (G.2.1 0, 400, .inl f) := rfl
theorem sh_157 (G : gP) (ad : Nat → Nat) (f : Nat → Int32) (g : Nat → Int64) : shp G ad 157 f g = .inl (G.2.1 0, 88, .inl f) := rfl
theorem sh_158 (G : gP) (ad : Nat → Nat) (f : Nat → Int32) (g : Nat → Int64) : shp G ad 158 f g = .inl (G.2.1 1, 1, .inr (.inl g)) := rfl
theorem sh_RU (G : gP) (ad : Nat → Nat) (f : Nat → Int32) (g : Nat → Int64) {j : Nat} (h : j < 24) : shp G ad (9 + j) f g = .inr (2, fs_RU G ad f g) := by
  unfold shp
  rw [if_neg (by omega), if_pos (by omega)]
theorem sh_RD (G : gP) (ad : Nat → Nat) (f : Nat → Int32) (g : Nat → Int64) {j : Nat} (h : j < 24) : shp G ad (38 + j) f g = .inr (2, fs_RU G ad f g) := by
  unfold shp
  rw [if_neg (by omega), if_neg (by omega), if_neg (by omega), if_pos (by omega)]
theorem sh_NS (G : gP) (ad : Nat → Nat) (f : Nat → Int32) (g : Nat → Int64) {j : Nat} (h : j < 4) : shp G ad (63 + j) f g = .inr (6, fs_NS G ad f g) := by
  unfold shp
  rw [if_neg (by omega), if_neg (by omega), if_neg (by omega), if_neg (by omega), if_neg (by omega), if_pos (by omega)]
theorem sh_PL (G : gP) (ad : Nat → Nat) (f : Nat → Int32) (g : Nat → Int64) {j : Nat} (h : j < 12) : shp G ad (68 + j) f g = .inr (7, fs_PL G ad f g) := by
  unfold shp
  rw [if_neg (by omega), if_neg (by omega), if_neg (by omega), if_neg (by omega), if_neg (by omega), if_neg (by omega), if_neg (by omega), if_pos (by omega)]
theorem sh_UN (G : gP) (ad : Nat → Nat) (f : Nat → Int32) (g : Nat → Int64) {j : Nat} (h : j < 40) : shp G ad (80 + j) f g = .inr (8, fs_UN G ad f g) := by
  unfold shp
  rw [if_neg (by omega), if_neg (by omega), if_neg (by omega), if_neg (by omega), if_neg (by omega), if_neg (by omega), if_neg (by omega), if_neg (by omega), if_pos (by omega)]
theorem sh_WV (G : gP) (ad : Nat → Nat) (f : Nat → Int32) (g : Nat → Int64) {j : Nat} (h : j < 20) : shp G ad (120 + j) f g = .inr (9, fs_WV G ad f g) := by
  unfold shp
  rw [if_neg (by omega), if_neg (by omega), if_neg (by omega), if_neg (by omega), if_neg (by omega), if_neg (by omega), if_neg (by omega), if_neg (by omega), if_neg (by omega), if_pos (by omega)]
def enc (G : gP) (ad : Nat → Nat) (σ : Nat → Nat → Int32) (τ : Nat → Nat → Int64) : Nat → va_E := fun k => shp G ad k (σ k) (τ k)
/-- an int of a cell is written -/
def up2 (σ : Nat → Nat → Int32) (k j : Nat) (v : Int32) : Nat → Nat → Int32 := va_up σ k (upd (σ k) j v)
def up2L (τ : Nat → Nat → Int64) (k j : Nat) (v : Int64) : Nat → Nat → Int64 := va_up τ k (vp_updL (τ k) j v)
theorem enc_i {G : gP} {ad : Nat → Nat} {σ : Nat → Nat → Int32} {τ : Nat → Nat → Int64} {k j : Nat} {v : Int32} {e : va_E} (h : shp G ad k (upd (σ k) j v) (τ k) = e) : va_up (enc G ad σ τ) k e = enc G ad (up2 σ k j v) τ := by
  funext i
  by_cases hi : i = k
  · subst hi
    simp [va_up, enc, up2, h]
  · simp [va_up, enc, up2, hi]
theorem enc_l {G : gP} {ad : Nat → Nat} {σ : Nat → Nat → Int32} {τ : Nat → Nat → Int64} {k j : Nat} {v : Int64} {e : va_E} (h : shp G ad k (σ k) (vp_updL (τ k) j v) = e) : va_up (enc G ad σ τ) k e = enc G ad σ (up2L τ k j v) := by
  funext i
  by_cases hi : i = k
  · subst hi
    simp [va_up, enc, up2L, h]
  · simp [va_up, enc, up2L, hi]
theorem up2_s {σ : Nat → Nat → Int32} {k j : Nat} {v : Int32} : up2 σ k j v k j = v := by simp [up2, va_up, upd]
theorem up2_j {σ : Nat → Nat → Int32} {k j i : Nat} {v : Int32} (h : i ≠ j) : up2 σ k j v k i = σ k i := by simp [up2, va_up, upd, h]
theorem up2_k {σ : Nat → Nat → Int32} {k j q i : Nat} {v : Int32} (h : q ≠ k) : up2 σ k j v q i = σ q i := by simp [up2, va_up, h]
