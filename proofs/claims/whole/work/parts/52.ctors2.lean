/-! Constructors that make cells. Written by wip/tools/m52.py. -/
def nmF : Nat → Int32 := upd (upd (upd (upd (upd (upd (upd (upd (upd (upd (upd (upd (upd (upd (upd (upd (upd (upd (upd (upd (upd (upd (upd (upd (upd (upd (upd (upd (upd (upd (upd (upd (upd (upd (upd (upd (upd (upd (upd (upd (upd (upd (upd (upd (upd (upd (upd (upd (upd (upd (upd (upd (upd (upd (upd (upd (upd (upd (upd (upd (upd (upd (upd (upd (upd (upd (upd (upd (upd (upd (upd (upd (upd (upd (upd (upd (upd (upd (upd (upd (upd (upd (upd (upd (upd (upd (upd (upd (fun _ => 0) 0 115) 1 105) 2 122) 3 101) 4 0) 5 0) 6 0) 7 0) 8 119) 9 101) 10 105) 11 103) 12 104) 13 116) 14 0) 15 0) 16 103) 17 111) 18 111) 19 100) 20 115) 21 0) 22 0) 23 0) 24 108) 25 111) 26 116) 27 115) 28 0) 29 0) 30 0) 31 0) 32 111) 33 119) 34 110) 35 101) 36 114) 37 115) 38 0) 39 0) 40 104) 41 97) 42 122) 43 97) 44 114) 45 100) 46 0) 47 0) 48 122) 49 111) 50 110) 51 101) 52 0) 53 0) 54 0) 55 0) 56 117) 57 110) 58 105) 59 116) 60 115) 61 0) 62 0) 63 0) 64 100) 65 97) 66 116) 67 101) 68 115) 69 0) 70 0) 71 0) 72 100) 73 97) 74 121) 75 115) 76 0) 77 0) 78 0) 79 0) 80 111) 81 119) 82 110) 83 0) 84 0) 85 0) 86 0) 87 0
/-- the places' numbers, told for the first i of them -/
def plF (i : Nat) : Nat → Int32 := fun j => if j < 5 * i then (if j % 5 = 3 then 100000 else if j % 5 = 4 then 0 else 1000) else 0
theorem plF_s (i : Nat) : upd (upd (upd (upd (plF i) (5 * i) 1000) (5 * i + 1) 1000) (5 * i + 2) 1000) (5 * i + 3) 100000 = plF (i + 1) := by
  funext j
  unfold upd plF
  by_cases h3 : j = 5 * i + 3
  · rw [if_pos h3, if_pos (by omega), if_pos (by omega)]
  · rw [if_neg h3]
    by_cases h2 : j = 5 * i + 2
    · rw [if_pos h2, if_pos (by omega), if_neg (by omega), if_neg (by omega)]
    · rw [if_neg h2]
      by_cases h1 : j = 5 * i + 1
      · rw [if_pos h1, if_pos (by omega), if_neg (by omega), if_neg (by omega)]
      · rw [if_neg h1]
        by_cases h0 : j = 5 * i
        · rw [if_pos h0, if_pos (by omega), if_neg (by omega), if_neg (by omega)]
        · rw [if_neg h0]
          by_cases hl : j < 5 * i
          · rw [if_pos hl, if_pos (show j < 5 * (i + 1) by omega)]
          · rw [if_neg hl]
            by_cases h4 : j = 5 * i + 4
            · rw [if_pos (by omega), if_neg (by omega), if_pos (by omega)]
            · rw [if_neg (by omega)]
theorem plF_0 : plF 0 = fun _ => 0 := by
  funext j
  unfold plF
  rw [if_neg (by omega)]
/-- the state at the beginning -/
def s00 : Nat → Nat → Int32 := fun k j => if 68 ≤ k ∧ k < 80 then (if j < 3 then 1000 else if j = 3 then 100000 else 0) else if 80 ≤ k ∧ k < 120 then (if j = 3 ∨ j = 4 ∨ j = 5 then 100 else if j = 6 ∨ j = 9 then 1000 else if j = 10 then (-1) else 0) else if k = 141 then plF 12 j else if k = 157 then nmF j else 0
def t00 : Nat → Nat → Int64 := fun _ _ => 0
abbrev Ef (G : gP) : Nat → va_E := enc G (adG G) s00 t00
abbrev zQ (G : gP) (k0 n1 : Nat) (E F : Nat → va_E) : Array Value → State → Outcome → State → Prop := va_Qv (fun _ : Unit => True) (fun _ t => va_P G.1 gcl (gw n1 (adG G) (fun k => if k < k0 then E k else F k)) t.heap ∧ t.heap.size = gb G + n1) (gA G)
def flq (G : gP) (b i : Nat) : Nat → Option Nat := fun j => if j < i then some (adG G (b + j)) else none
theorem flq_0 {G : gP} {b : Nat} : flq G b 0 = fun _ => none := by
  funext j
  unfold flq
  rw [if_neg (by omega)]
theorem flq_s {G : gP} {b i : Nat} (h : i < 2 ^ 31) : va_up (flq G b i) (nI i).toNatClampNeg (some (adG G (b + i))) = flq G b (i + 1) := by
  rw [nI_clamp h]
  funext j
  unfold va_up flq
  by_cases h1 : j = i
  · rw [if_pos h1, if_pos (by omega), h1]
  · rw [if_neg h1]
    by_cases h2 : j < i
    · rw [if_pos h2, if_pos (by omega)]
    · rw [if_neg h2, if_neg (by omega)]
theorem flq_n {G : gP} {b N : Nat} : ∀ j, j < N → flq G b N j = some (adG G (b + j)) := fun j hj => if_pos hj
theorem ef_RU {G : gP} {i : Nat} (h : i < 24) : Ef G (9 + i) = .inr (2, [.int 0, .ref (ga G 0), .int 0, .int 0, .int 0]) := by
  show shp G (adG G) (9 + i) _ _ = _
  rw [sh_RU G _ _ _ h]
  have e : s00 (9 + i) = fun _ => 0 := by
    funext j
    unfold s00
    rw [if_neg (by omega), if_neg (by omega), if_neg (by omega), if_neg (by omega)]
  rw [e]
  rfl
theorem ef_RD {G : gP} {i : Nat} (h : i < 24) : Ef G (38 + i) = .inr (2, [.int 0, .ref (ga G 0), .int 0, .int 0, .int 0]) := by
  show shp G (adG G) (38 + i) _ _ = _
  rw [sh_RD G _ _ _ h]
  have e : s00 (38 + i) = fun _ => 0 := by
    funext j
    unfold s00
    rw [if_neg (by omega), if_neg (by omega), if_neg (by omega), if_neg (by omega)]
  rw [e]
  rfl
theorem ef_PL {G : gP} {i : Nat} (h : i < 12) : Ef G (68 + i) = .inr (7, [.int 1000, .int 1000, .int 1000, .int 100000, .int 0]) := by
  show shp G (adG G) (68 + i) _ _ = _
  rw [sh_PL G _ _ _ h]
  have e : s00 (68 + i) = fun j => if j < 3 then 1000 else if j = 3 then 100000 else 0 := by
    funext j
    unfold s00
    rw [if_pos (by omega)]
  rw [e]
  rfl
theorem ef_UN {G : gP} {i : Nat} (h : i < 40) : Ef G (80 + i) = .inr (8, [.int 0, .int 0, .int 0, .int 100, .int 100, .int 100, .int 1000, .int 0, .int 0, .int 1000, .int (-1)]) := by
  show shp G (adG G) (80 + i) _ _ = _
  rw [sh_UN G _ _ _ h]
  have e : s00 (80 + i) = fun j => if j = 3 ∨ j = 4 ∨ j = 5 then 100 else if j = 6 ∨ j = 9 then 1000 else if j = 10 then (-1) else 0 := by
    funext j
    unfold s00
    rw [if_neg (by omega), if_pos (by omega)]
  rw [e]
  rfl
theorem ef_WV {G : gP} {i : Nat} (h : i < 20) : Ef G (120 + i) = .inr (9, [.int 0, .int 0, .int 0, .int 0]) := by
  show shp G (adG G) (120 + i) _ _ = _
  rw [sh_WV G _ _ _ h]
  have e : s00 (120 + i) = fun _ => 0 := by
    funext j
    unfold s00
    rw [if_neg (by omega), if_neg (by omega), if_neg (by omega), if_neg (by omega)]
  rw [e]
  rfl
theorem k_OW_init (l : Launch) (G : gP) (E : Nat → va_E) (hE : E 33 = .inr (3, [.null, .int 0])) : gCt l y_OW_init c_OW_init 1 { frames := 1, cells := 1, slots := 4, locals := 20 } G 33 35 1 4 E (Ef G) := by
  refine z_of (by decide) rfl (Nat.le_of_ble_eq_true rfl) ?_
  intro p e s m args below meth c ls S hk hr hin hl hO
  refine lv_aload_n S.1 S.2.1 d_OW_init_0 rfl (lv_at hl 0 rfl) ?_
  refine z_obj (rest := []) S km_OW_3 ki_java_lang_Object_init kc_java_lang_Object_init hl.1 (Nat.le_of_ble_eq_true rfl) (Nat.le_of_ble_eq_true rfl) (Nat.le_of_ble_eq_true rfl) d_OW_init_1 ?_
  refine lv_aload_n S.1 S.2.1 d_OW_init_4 rfl (lv_at hl 0 rfl) ?_
  refine lv_iconst (v := 4) S.1 S.2.1 d_OW_init_5 (by decide) ?_
  refine z_newa (N' := 4) (t0 := 0) (a0 := (4, .inl (fun _ => 0))) (atype := .int) (ty := .int) S hO rfl ka_int rfl (fun C h => by cases h) (fun _ => rfl) (by decide) (by decide) (by decide) ⟨(Nat.le_of_ble_eq_true rfl), (Nat.le_of_ble_eq_true rfl)⟩ d_OW_init_6 (fun H hO => ?_)
  refine z_putF (ty0 := ty_OW) (fs := [.null, .int 0]) (v := .ref (adG G 34)) S hO hin fl_OW_9 tk_OW nm_OW rfl rfl (Nat.le_of_ble_eq_true rfl) (by (repeat (first | rw [vu_s] | rw [vu_n (by omega)] | rw [if_pos (by omega)] | rw [if_neg (by omega)])) <;> first | rfl | assumption) rfl rfl (Nat.le_of_ble_eq_true rfl) d_OW_init_8 (fun H locs hO => ?_)
  refine z_ret S hk hr hO (fun k hk2 => ?_) (Nat.le_of_ble_eq_true rfl) (Nat.le_of_ble_eq_true rfl) d_OW_init_11
  rcases (show k < 33 ∨ k = 33 ∨ k = 34 by omega) with h | rfl | rfl
  · rw [if_pos h]
    (repeat (first | rw [vu_s] | rw [vu_n (by omega)] | rw [if_pos (by omega)] | rw [if_neg (by omega)]))
  · (repeat (first | rw [vu_s] | rw [vu_n (by omega)] | rw [if_pos (by omega)] | rw [if_neg (by omega)])) <;> rfl
  · (repeat (first | rw [vu_s] | rw [vu_n (by omega)] | rw [if_pos (by omega)] | rw [if_neg (by omega)])) <;> rfl
theorem k_QU_init (l : Launch) (G : gP) (E : Nat → va_E) (hE : E 62 = .inr (5, [.int 0, .int 0, .int 0, .int 0, .int 0, .int 0, .int 0, .int 0, .int 0, .int 0, .int 0, .int 0, .int 0, .int 0, .null, .null, .null, .null])) : gCt l y_QU_init c_QU_init 1 { frames := 2, cells := 4, slots := 8, locals := 40 } G 62 67 4 8 E (Ef G) := by
  refine z_of (by decide) rfl (Nat.le_of_ble_eq_true rfl) ?_
  intro p e s m args below meth c ls S hk hr hin hl hO
  refine lv_aload_n S.1 S.2.1 d_QU_init_0 rfl (lv_at hl 0 rfl) ?_
  refine z_obj (rest := []) S km_QU_3 ki_java_lang_Object_init kc_java_lang_Object_init hl.1 (Nat.le_of_ble_eq_true rfl) (Nat.le_of_ble_eq_true rfl) (Nat.le_of_ble_eq_true rfl) d_QU_init_1 ?_
  refine lv_aload_n S.1 S.2.1 d_QU_init_4 rfl (lv_at hl 0 rfl) ?_
  refine z_new (ci := 6) (fs := [.long 0, .long 0]) S hO rfl in_NS tk_NS kk_QU_9 kn_NS kt_NS (fun j hj => by match j, hj with | 0, _ => rfl | 1, _ => rfl | j + 2, hj => exact absurd hj (by show ¬ j + 2 < 2; omega)) ⟨(Nat.le_of_ble_eq_true rfl), (Nat.le_of_ble_eq_true rfl)⟩ d_QU_init_5 (fun H hO => ?_)
  refine lv_dup S.1 S.2.1 d_QU_init_8 rfl ?_
  refine z_iniN (host := "PlaceRules") (rest := [.ref (adG G 63), .ref (adG G 62)]) (k0 := 63) S hO (k_NS_init l G 63 _ (by (repeat (first | rw [vu_s] | rw [vu_n (by omega)] | rw [if_pos (by omega)] | rw [if_neg (by omega)])) <;> first | rfl | assumption)) rfl rfl kc_NS_init kt_NS (gd_1 167 rfl) ki_NS_init rfl ⟨by decide, by decide, by decide⟩ hl.1 (Nat.le_of_ble_eq_true rfl) ⟨(Nat.le_of_ble_eq_true rfl), (Nat.le_of_ble_eq_true rfl)⟩ ⟨(Nat.le_of_ble_eq_true rfl), (Nat.le_of_ble_eq_true rfl)⟩ d_QU_init_9 (fun H locs hO => ?_)
  refine z_putF (ty0 := ty_QU) (fs := [.int 0, .int 0, .int 0, .int 0, .int 0, .int 0, .int 0, .int 0, .int 0, .int 0, .int 0, .int 0, .int 0, .int 0, .null, .null, .null, .null]) (v := .ref (adG G 63)) S hO hin fl_QU_12 tk_QU nm_QU rfl rfl (Nat.le_of_ble_eq_true rfl) (by (repeat (first | rw [vu_s] | rw [vu_n (by omega)] | rw [if_pos (by omega)] | rw [if_neg (by omega)])) <;> first | rfl | assumption) rfl rfl (Nat.le_of_ble_eq_true rfl) d_QU_init_12 (fun H locs hO => ?_)
  refine lv_aload_n S.1 S.2.1 d_QU_init_15 rfl (lv_at hl 0 rfl) ?_
  refine z_new (ci := 6) (fs := [.long 0, .long 0]) S hO rfl in_NS tk_NS kk_QU_9 kn_NS kt_NS (fun j hj => by match j, hj with | 0, _ => rfl | 1, _ => rfl | j + 2, hj => exact absurd hj (by show ¬ j + 2 < 2; omega)) ⟨(Nat.le_of_ble_eq_true rfl), (Nat.le_of_ble_eq_true rfl)⟩ d_QU_init_16 (fun H hO => ?_)
  refine lv_dup S.1 S.2.1 d_QU_init_19 rfl ?_
  refine z_iniN (host := "PlaceRules") (rest := [.ref (adG G 64), .ref (adG G 62)]) (k0 := 64) S hO (k_NS_init l G 64 _ (by (repeat (first | rw [vu_s] | rw [vu_n (by omega)] | rw [if_pos (by omega)] | rw [if_neg (by omega)])) <;> first | rfl | assumption)) rfl rfl kc_NS_init kt_NS (gd_1 167 rfl) ki_NS_init rfl ⟨by decide, by decide, by decide⟩ hl.1 (Nat.le_of_ble_eq_true rfl) ⟨(Nat.le_of_ble_eq_true rfl), (Nat.le_of_ble_eq_true rfl)⟩ ⟨(Nat.le_of_ble_eq_true rfl), (Nat.le_of_ble_eq_true rfl)⟩ d_QU_init_20 (fun H locs hO => ?_)
  refine z_putF (ty0 := ty_QU) (fs := [.int 0, .int 0, .int 0, .int 0, .int 0, .int 0, .int 0, .int 0, .int 0, .int 0, .int 0, .int 0, .int 0, .int 0, .ref (adG G 63), .null, .null, .null]) (v := .ref (adG G 64)) S hO hin fl_QU_18 tk_QU nm_QU rfl rfl (Nat.le_of_ble_eq_true rfl) (by (repeat (first | rw [vu_s] | rw [vu_n (by omega)] | rw [if_pos (by omega)] | rw [if_neg (by omega)])) <;> first | rfl | assumption) rfl rfl (Nat.le_of_ble_eq_true rfl) d_QU_init_23 (fun H locs hO => ?_)
  refine lv_aload_n S.1 S.2.1 d_QU_init_26 rfl (lv_at hl 0 rfl) ?_
  refine z_new (ci := 6) (fs := [.long 0, .long 0]) S hO rfl in_NS tk_NS kk_QU_9 kn_NS kt_NS (fun j hj => by match j, hj with | 0, _ => rfl | 1, _ => rfl | j + 2, hj => exact absurd hj (by show ¬ j + 2 < 2; omega)) ⟨(Nat.le_of_ble_eq_true rfl), (Nat.le_of_ble_eq_true rfl)⟩ d_QU_init_27 (fun H hO => ?_)
  refine lv_dup S.1 S.2.1 d_QU_init_30 rfl ?_
  refine z_iniN (host := "PlaceRules") (rest := [.ref (adG G 65), .ref (adG G 62)]) (k0 := 65) S hO (k_NS_init l G 65 _ (by (repeat (first | rw [vu_s] | rw [vu_n (by omega)] | rw [if_pos (by omega)] | rw [if_neg (by omega)])) <;> first | rfl | assumption)) rfl rfl kc_NS_init kt_NS (gd_1 167 rfl) ki_NS_init rfl ⟨by decide, by decide, by decide⟩ hl.1 (Nat.le_of_ble_eq_true rfl) ⟨(Nat.le_of_ble_eq_true rfl), (Nat.le_of_ble_eq_true rfl)⟩ ⟨(Nat.le_of_ble_eq_true rfl), (Nat.le_of_ble_eq_true rfl)⟩ d_QU_init_31 (fun H locs hO => ?_)
  refine z_putF (ty0 := ty_QU) (fs := [.int 0, .int 0, .int 0, .int 0, .int 0, .int 0, .int 0, .int 0, .int 0, .int 0, .int 0, .int 0, .int 0, .int 0, .ref (adG G 63), .ref (adG G 64), .null, .null]) (v := .ref (adG G 65)) S hO hin fl_QU_21 tk_QU nm_QU rfl rfl (Nat.le_of_ble_eq_true rfl) (by (repeat (first | rw [vu_s] | rw [vu_n (by omega)] | rw [if_pos (by omega)] | rw [if_neg (by omega)])) <;> first | rfl | assumption) rfl rfl (Nat.le_of_ble_eq_true rfl) d_QU_init_34 (fun H locs hO => ?_)
  refine lv_aload_n S.1 S.2.1 d_QU_init_37 rfl (lv_at hl 0 rfl) ?_
  refine z_new (ci := 6) (fs := [.long 0, .long 0]) S hO rfl in_NS tk_NS kk_QU_9 kn_NS kt_NS (fun j hj => by match j, hj with | 0, _ => rfl | 1, _ => rfl | j + 2, hj => exact absurd hj (by show ¬ j + 2 < 2; omega)) ⟨(Nat.le_of_ble_eq_true rfl), (Nat.le_of_ble_eq_true rfl)⟩ d_QU_init_38 (fun H hO => ?_)
  refine lv_dup S.1 S.2.1 d_QU_init_41 rfl ?_
  refine z_iniN (host := "PlaceRules") (rest := [.ref (adG G 66), .ref (adG G 62)]) (k0 := 66) S hO (k_NS_init l G 66 _ (by (repeat (first | rw [vu_s] | rw [vu_n (by omega)] | rw [if_pos (by omega)] | rw [if_neg (by omega)])) <;> first | rfl | assumption)) rfl rfl kc_NS_init kt_NS (gd_1 167 rfl) ki_NS_init rfl ⟨by decide, by decide, by decide⟩ hl.1 (Nat.le_of_ble_eq_true rfl) ⟨(Nat.le_of_ble_eq_true rfl), (Nat.le_of_ble_eq_true rfl)⟩ ⟨(Nat.le_of_ble_eq_true rfl), (Nat.le_of_ble_eq_true rfl)⟩ d_QU_init_42 (fun H locs hO => ?_)
  refine z_putF (ty0 := ty_QU) (fs := [.int 0, .int 0, .int 0, .int 0, .int 0, .int 0, .int 0, .int 0, .int 0, .int 0, .int 0, .int 0, .int 0, .int 0, .ref (adG G 63), .ref (adG G 64), .ref (adG G 65), .null]) (v := .ref (adG G 66)) S hO hin fl_QU_24 tk_QU nm_QU rfl rfl (Nat.le_of_ble_eq_true rfl) (by (repeat (first | rw [vu_s] | rw [vu_n (by omega)] | rw [if_pos (by omega)] | rw [if_neg (by omega)])) <;> first | rfl | assumption) rfl rfl (Nat.le_of_ble_eq_true rfl) d_QU_init_45 (fun H locs hO => ?_)
  refine z_ret S hk hr hO (fun k hk2 => ?_) (Nat.le_of_ble_eq_true rfl) (Nat.le_of_ble_eq_true rfl) d_QU_init_48
  rcases (show k < 62 ∨ k = 62 ∨ k = 63 ∨ k = 64 ∨ k = 65 ∨ k = 66 by omega) with h | rfl | rfl | rfl | rfl | rfl
  · rw [if_pos h]
    (repeat (first | rw [vu_s] | rw [vu_n (by omega)] | rw [if_pos (by omega)] | rw [if_neg (by omega)]))
  · (repeat (first | rw [vu_s] | rw [vu_n (by omega)] | rw [if_pos (by omega)] | rw [if_neg (by omega)])) <;> rfl
  · (repeat (first | rw [vu_s] | rw [vu_n (by omega)] | rw [if_pos (by omega)] | rw [if_neg (by omega)])) <;> rfl
  · (repeat (first | rw [vu_s] | rw [vu_n (by omega)] | rw [if_pos (by omega)] | rw [if_neg (by omega)])) <;> rfl
  · (repeat (first | rw [vu_s] | rw [vu_n (by omega)] | rw [if_pos (by omega)] | rw [if_neg (by omega)])) <;> rfl
  · (repeat (first | rw [vu_s] | rw [vu_n (by omega)] | rw [if_pos (by omega)] | rw [if_neg (by omega)])) <;> rfl
theorem k_RB_init (l : Launch) (G : gP) (E : Nat → va_E) (hE : E 4 = .inr (1, [.null, .null, .int 0, .null, .null, .int 0])) : gCt l y_RB_init c_RB_init 2 { frames := 2, cells := 28, slots := 720, locals := 40 } G 4 33 28 720 E (Ef G) := by
  refine z_of (by decide) rfl (Nat.le_of_ble_eq_true rfl) ?_
  intro p e s m args below meth c ls S hk hr hin hl hO
  refine lv_aload_n S.1 S.2.1 d_RB_init_0 rfl (lv_at hl 0 rfl) ?_
  refine z_obj (rest := []) S km_RB_3 ki_java_lang_Object_init kc_java_lang_Object_init hl.1 (Nat.le_of_ble_eq_true rfl) (Nat.le_of_ble_eq_true rfl) (Nat.le_of_ble_eq_true rfl) d_RB_init_1 ?_
  refine lv_aload_n S.1 S.2.1 d_RB_init_4 rfl (lv_at hl 0 rfl) ?_
  refine lv_bipush (v := 24) S.1 S.2.1 d_RB_init_5 (by decide) ?_
  refine z_newq (N' := 24) (t0 := 6) S hO kk_RB_9 hO.2.2.2.2.2 rfl (by decide) (by decide) (by decide) ⟨(Nat.le_of_ble_eq_true rfl), (Nat.le_of_ble_eq_true rfl)⟩ d_RB_init_7 (fun H hO => ?_)
  refine z_putF (ty0 := ty_RB) (fs := [.null, .null, .int 0, .null, .null, .int 0]) (v := .ref (adG G 5)) S hO hin fl_RB_11 tk_RB nm_RB rfl rfl (Nat.le_of_ble_eq_true rfl) (by (repeat (first | rw [vu_s] | rw [vu_n (by omega)] | rw [if_pos (by omega)] | rw [if_neg (by omega)])) <;> first | rfl | assumption) rfl rfl (Nat.le_of_ble_eq_true rfl) d_RB_init_10 (fun H locs hO => ?_)
  refine lv_aload_n S.1 S.2.1 d_RB_init_13 rfl (lv_at hl 0 rfl) ?_
  refine lv_bipush (v := 24) S.1 S.2.1 d_RB_init_14 (by decide) ?_
  refine z_newa (N' := 24) (t0 := 0) (a0 := (24, .inl (fun _ => 0))) (atype := .int) (ty := .int) S hO rfl ka_int rfl (fun C h => by cases h) (fun _ => rfl) (by decide) (by decide) (by decide) ⟨(Nat.le_of_ble_eq_true rfl), (Nat.le_of_ble_eq_true rfl)⟩ d_RB_init_16 (fun H hO => ?_)
  refine z_putF (ty0 := ty_RB) (fs := [.ref (adG G 5), .null, .int 0, .null, .null, .int 0]) (v := .ref (adG G 6)) S hO hin fl_RB_17 tk_RB nm_RB rfl rfl (Nat.le_of_ble_eq_true rfl) (by (repeat (first | rw [vu_s] | rw [vu_n (by omega)] | rw [if_pos (by omega)] | rw [if_neg (by omega)])) <;> first | rfl | assumption) rfl rfl (Nat.le_of_ble_eq_true rfl) d_RB_init_18 (fun H locs hO => ?_)
  refine lv_aload_n S.1 S.2.1 d_RB_init_21 rfl (lv_at hl 0 rfl) ?_
  refine lv_sipush (v := 276) S.1 S.2.1 d_RB_init_22 (by decide) ?_
  refine z_newa (N' := 276) (t0 := 0) (a0 := (276, .inl (fun _ => 0))) (atype := .int) (ty := .int) S hO rfl ka_int rfl (fun C h => by cases h) (fun _ => rfl) (by decide) (by decide) (by decide) ⟨(Nat.le_of_ble_eq_true rfl), (Nat.le_of_ble_eq_true rfl)⟩ d_RB_init_25 (fun H hO => ?_)
  refine z_putF (ty0 := ty_RB) (fs := [.ref (adG G 5), .ref (adG G 6), .int 0, .null, .null, .int 0]) (v := .ref (adG G 7)) S hO hin fl_RB_21 tk_RB nm_RB rfl rfl (Nat.le_of_ble_eq_true rfl) (by (repeat (first | rw [vu_s] | rw [vu_n (by omega)] | rw [if_pos (by omega)] | rw [if_neg (by omega)])) <;> first | rfl | assumption) rfl rfl (Nat.le_of_ble_eq_true rfl) d_RB_init_27 (fun H locs hO => ?_)
  refine lv_aload_n S.1 S.2.1 d_RB_init_30 rfl (lv_at hl 0 rfl) ?_
  refine lv_sipush (v := 276) S.1 S.2.1 d_RB_init_31 (by decide) ?_
  refine z_newa (N' := 276) (t0 := 0) (a0 := (276, .inl (fun _ => 0))) (atype := .int) (ty := .int) S hO rfl ka_int rfl (fun C h => by cases h) (fun _ => rfl) (by decide) (by decide) (by decide) ⟨(Nat.le_of_ble_eq_true rfl), (Nat.le_of_ble_eq_true rfl)⟩ d_RB_init_34 (fun H hO => ?_)
  refine z_putF (ty0 := ty_RB) (fs := [.ref (adG G 5), .ref (adG G 6), .int 0, .ref (adG G 7), .null, .int 0]) (v := .ref (adG G 8)) S hO hin fl_RB_24 tk_RB nm_RB rfl rfl (Nat.le_of_ble_eq_true rfl) (by (repeat (first | rw [vu_s] | rw [vu_n (by omega)] | rw [if_pos (by omega)] | rw [if_neg (by omega)])) <;> first | rfl | assumption) rfl rfl (Nat.le_of_ble_eq_true rfl) d_RB_init_36 (fun H locs hO => ?_)
  have hO := hO.c (E1 := va_up (fun k => if k < 4 then E k else Ef G k) 5 (.inl (G.2.1 6, 24, .inr (.inr (.inr (.inr (flq G 9 0))))))) (fun k hk2 => by
    rw [flq_0]
    rcases (show k < 4 ∨ k = 4 ∨ k = 5 ∨ k = 6 ∨ k = 7 ∨ k = 8 by omega) with h | rfl | rfl | rfl | rfl | rfl
    · (repeat (first | rw [vu_s] | rw [vu_n (by omega)] | rw [if_pos (by omega)] | rw [if_neg (by omega)]))
    · (repeat (first | rw [vu_s] | rw [vu_n (by omega)] | rw [if_pos (by omega)] | rw [if_neg (by omega)])) <;> rfl
    · (repeat (first | rw [vu_s] | rw [vu_n (by omega)] | rw [if_pos (by omega)] | rw [if_neg (by omega)])) <;> rfl
    · (repeat (first | rw [vu_s] | rw [vu_n (by omega)] | rw [if_pos (by omega)] | rw [if_neg (by omega)])) <;> rfl
    · (repeat (first | rw [vu_s] | rw [vu_n (by omega)] | rw [if_pos (by omega)] | rw [if_neg (by omega)])) <;> rfl
    · (repeat (first | rw [vu_s] | rw [vu_n (by omega)] | rw [if_pos (by omega)] | rw [if_neg (by omega)])) <;> rfl)
  refine lv_iconst (v := 0) S.1 S.2.1 d_RB_init_39 (by decide) ?_
  refine lv_istore_n (lv' := [(1, .int 0), (0, .ref (adG G 4))]) S.1 S.2.1 d_RB_init_40 rfl hl (by decide) rfl (fun ls hl => ?_)
  have K41 : ∀ (r i : Nat), i + r = 24 → ∀ (H : Heap) (locs : List Loc), gN G (9 + i) (va_up (fun k => if k < 4 then E k else Ef G k) 5 (.inl (G.2.1 6, 24, .inr (.inr (.inr (.inr (flq G 9 i))))))) s H locs → ∀ ls : Array Slot, lv_has ls 2 [(1, .int (nI i)), (0, .ref (adG G 4))] → W p l e { frames := 2, cells := 28, slots := 720, locals := 40 } s m args below meth c H locs (4 + i) (600 + 5 * i) (MQ below (zQ G 4 33 E (Ef G)) args s 28 720 (gA G)) (F0 m 41 ls []) := by
    intro r
    induction r with
    | zero =>
      intro i hi H locs hO ls hl
      have hiM : i = 24 := by omega
      subst hiM
      refine lv_iload_n S.1 S.2.1 d_RB_init_41 rfl (lv_at hl 0 rfl) ?_
      refine lv_bipush (v := 24) S.1 S.2.1 d_RB_init_42 (by decide) ?_
      refine lv_icmp_ge (tgt := 66) S.1 S.2.1 d_RB_init_44 (by decide) (fun _ => ?_) (fun hc => absurd (by decide) hc)
      have hO := hO.q (k := 5) (by omega) vu_s (g := fun j => some (adG G (9 + j))) flq_n
      rw [vu_2] at hO
      refine z_ret S hk hr hO (fun k hk2 => ?_) (Nat.le_of_ble_eq_true rfl) (Nat.le_of_ble_eq_true rfl) d_RB_init_66
      by_cases h1 : k = 5
      · subst h1
        rw [vu_s, if_neg (by omega)]
        rfl
      · rw [vu_n h1]
    | succ r ih =>
      intro i hi H locs hO ls hl
      refine lv_iload_n S.1 S.2.1 d_RB_init_41 rfl (lv_at hl 0 rfl) ?_
      refine lv_bipush (v := 24) S.1 S.2.1 d_RB_init_42 (by decide) ?_
      refine lv_icmp_ge (tgt := 66) S.1 S.2.1 d_RB_init_44 (by decide) (fun hc => absurd hc (nI_ge (a := i) (b := 24) (by omega) (by decide))) (fun _ => ?_)
      refine lv_aload_n S.1 S.2.1 d_RB_init_47 rfl (lv_at hl 1 rfl) ?_
      refine g_get S hO.1 fl_RB_11 (by omega) (k := 4) (fs := fs_RB G (adG G) (s00 4) (t00 4)) (by rw [vu_n (by omega), if_neg (by omega)]; rfl) (v := .ref (adG G 5)) rfl d_RB_init_48 ?_
      refine lv_iload_n S.1 S.2.1 d_RB_init_51 rfl (lv_at hl 0 rfl) ?_
      refine z_new (ci := 2) (fs := [.int 0, .null, .int 0, .int 0, .int 0]) S hO rfl in_RU tk_RU kk_RB_9 kn_RU kt_RU (fun j hj => by match j, hj with | 0, _ => rfl | 1, _ => rfl | 2, _ => rfl | 3, _ => rfl | 4, _ => rfl | j + 5, hj => exact absurd hj (by show ¬ j + 5 < 5; omega)) ⟨by show 4 + i + 1 ≤ 28; omega, by show 600 + 5 * i + 5 ≤ 720; omega⟩ d_RB_init_52 (fun H hO => ?_)
      refine lv_dup S.1 S.2.1 d_RB_init_55 rfl ?_
      refine z_iniN (host := "PlaceRules") (rest := [.ref (adG G (9 + i)), .int (nI i), .ref (adG G 5)]) (k0 := 9 + i) S hO (k_RU_init l G (9 + i) _ vu_s) rfl rfl kc_RU_init kt_RU (gd_1 51 rfl) ki_RU_init rfl ⟨by decide, by decide, by decide⟩ hl.1 (Nat.le_of_ble_eq_true rfl) ⟨(Nat.le_of_ble_eq_true rfl), (Nat.le_of_ble_eq_true rfl)⟩ ⟨by show 4 + i + 1 + 0 ≤ 28; omega, by show 600 + 5 * i + 5 + 0 ≤ 720; omega⟩ d_RB_init_56 (fun H locs hO => ?_)
      refine z_aas (k := 5) (k2 := 9 + i) (N := 24) (ci := 2) (t0 := 6) (cA := G.2.1 6) (f := flq G 9 i) (vs := [.int 0, .ref (ga G 0), .int 0, .int 0, .int 0]) S hO (by omega) (by rw [if_pos (by omega), vu_n (by omega), vu_s]) rfl (by omega) (by rw [if_neg (by omega)]) rfl (vp_in_nI (by omega) (by decide)) d_RB_init_59 (fun H locs hO => ?_)
      rw [flq_s (by omega)] at hO
      have hO := hO.c (E1 := va_up (fun k => if k < 4 then E k else Ef G k) 5 (.inl (G.2.1 6, 24, .inr (.inr (.inr (.inr (flq G 9 (i + 1)))))))) (fun k hk2 => by
          by_cases h1 : k = 5
          · subst h1
            rw [vu_s, vu_s]
          · rw [vu_n h1, vu_n h1]
            by_cases h2 : k < 9 + i
            · rw [if_pos h2, vu_n (by omega), vu_n h1]
            · have h3 : k = 9 + i := by omega
              subst h3
              rw [if_neg h2]
              rw [if_neg (by omega)]; exact (ef_RU (by omega)).symm)
      obtain ⟨x_3, ex_3⟩ : ∃ z : Int32, z = (nI i) + 1 := ⟨_, rfl⟩
      refine lv_iinc (v := x_3) (lv' := [(1, .int x_3), (0, .ref (adG G 4))]) S.1 S.2.1 d_RB_init_60 hl (k := 0) rfl (by rw [ex_3]; rfl) (by decide) rfl (fun ls hl => ?_)
      refine lv_goto (tgt := 41) S.1 S.2.1 d_RB_init_63 (by decide) ?_
      obtain rfl : x_3 = nI (i + 1) := by rw [ex_3]; exact nI_1 i
      exact W.widen (by omega) (by show 600 + 5 * i + 5 + 0 ≤ 600 + 5 * (i + 1); omega) (ih (i + 1) (by omega) _ _ hO ls hl)
  exact W.widen (Nat.le_of_ble_eq_true rfl) (Nat.le_of_ble_eq_true rfl) (K41 24 0 rfl _ _ hO ls hl)
theorem k_TX_init (l : Launch) (G : gP) (E : Nat → va_E) (hE : E 35 = .inr (4, [.null, .int 0, .null, .int 0, .int 0, .int 0, .null])) : gCt l y_TX_init c_TX_init 2 { frames := 2, cells := 26, slots := 544, locals := 40 } G 35 62 26 544 E (Ef G) := by
  refine z_of (by decide) rfl (Nat.le_of_ble_eq_true rfl) ?_
  intro p e s m args below meth c ls S hk hr hin hl hO
  refine lv_aload_n S.1 S.2.1 d_TX_init_0 rfl (lv_at hl 0 rfl) ?_
  refine z_obj (rest := []) S km_TX_3 ki_java_lang_Object_init kc_java_lang_Object_init hl.1 (Nat.le_of_ble_eq_true rfl) (Nat.le_of_ble_eq_true rfl) (Nat.le_of_ble_eq_true rfl) d_TX_init_1 ?_
  refine lv_aload_n S.1 S.2.1 d_TX_init_4 rfl (lv_at hl 0 rfl) ?_
  refine lv_sipush (v := 400) S.1 S.2.1 d_TX_init_5 (by decide) ?_
  refine z_newa (N' := 400) (t0 := 0) (a0 := (400, .inl (fun _ => 0))) (atype := .int) (ty := .int) S hO rfl ka_int rfl (fun C h => by cases h) (fun _ => rfl) (by decide) (by decide) (by decide) ⟨(Nat.le_of_ble_eq_true rfl), (Nat.le_of_ble_eq_true rfl)⟩ d_TX_init_8 (fun H hO => ?_)
  refine z_putF (ty0 := ty_TX) (fs := [.null, .int 0, .null, .int 0, .int 0, .int 0, .null]) (v := .ref (adG G 36)) S hO hin fl_TX_9 tk_TX nm_TX rfl rfl (Nat.le_of_ble_eq_true rfl) (by (repeat (first | rw [vu_s] | rw [vu_n (by omega)] | rw [if_pos (by omega)] | rw [if_neg (by omega)])) <;> first | rfl | assumption) rfl rfl (Nat.le_of_ble_eq_true rfl) d_TX_init_10 (fun H locs hO => ?_)
  refine lv_aload_n S.1 S.2.1 d_TX_init_13 rfl (lv_at hl 0 rfl) ?_
  refine lv_bipush (v := 24) S.1 S.2.1 d_TX_init_14 (by decide) ?_
  refine z_newq (N' := 24) (t0 := 6) S hO kk_TX_15 hO.2.2.2.2.2 rfl (by decide) (by decide) (by decide) ⟨(Nat.le_of_ble_eq_true rfl), (Nat.le_of_ble_eq_true rfl)⟩ d_TX_init_16 (fun H hO => ?_)
  refine z_putF (ty0 := ty_TX) (fs := [.ref (adG G 36), .int 0, .null, .int 0, .int 0, .int 0, .null]) (v := .ref (adG G 37)) S hO hin fl_TX_17 tk_TX nm_TX rfl rfl (Nat.le_of_ble_eq_true rfl) (by (repeat (first | rw [vu_s] | rw [vu_n (by omega)] | rw [if_pos (by omega)] | rw [if_neg (by omega)])) <;> first | rfl | assumption) rfl rfl (Nat.le_of_ble_eq_true rfl) d_TX_init_19 (fun H locs hO => ?_)
  refine lv_aload_n S.1 S.2.1 d_TX_init_22 rfl (lv_at hl 0 rfl) ?_
  refine va_gets S.1 S.2.1 (hO.1.2.2.2.2.2.2.2.2.2.1.1 0 (by decide)).1 hO.1.SG S.2.2.2.1 (S.2.2.2.2 _ kf_TX_21) (fun _ h => h) d_TX_init_23 ?_
  refine z_put (ty0 := ty_TX) (fs := [.ref (adG G 36), .int 0, .ref (adG G 37), .int 0, .int 0, .int 0, .null]) (v := .ref (ga G 0)) S hO fp_TX_27 (Nat.le_of_ble_eq_true rfl) (by (repeat (first | rw [vu_s] | rw [vu_n (by omega)] | rw [if_pos (by omega)] | rw [if_neg (by omega)])) <;> first | rfl | assumption) rfl rfl (Nat.le_of_ble_eq_true rfl) d_TX_init_26 (fun H locs hO => ?_)
  have hO := hO.c (E1 := va_up (fun k => if k < 35 then E k else Ef G k) 37 (.inl (G.2.1 6, 24, .inr (.inr (.inr (.inr (flq G 38 0))))))) (fun k hk2 => by
    rw [flq_0]
    rcases (show k < 35 ∨ k = 35 ∨ k = 36 ∨ k = 37 by omega) with h | rfl | rfl | rfl
    · (repeat (first | rw [vu_s] | rw [vu_n (by omega)] | rw [if_pos (by omega)] | rw [if_neg (by omega)]))
    · (repeat (first | rw [vu_s] | rw [vu_n (by omega)] | rw [if_pos (by omega)] | rw [if_neg (by omega)])) <;> rfl
    · (repeat (first | rw [vu_s] | rw [vu_n (by omega)] | rw [if_pos (by omega)] | rw [if_neg (by omega)])) <;> rfl
    · (repeat (first | rw [vu_s] | rw [vu_n (by omega)] | rw [if_pos (by omega)] | rw [if_neg (by omega)])) <;> rfl)
  refine lv_iconst (v := 0) S.1 S.2.1 d_TX_init_29 (by decide) ?_
  refine lv_istore_n (lv' := [(1, .int 0), (0, .ref (adG G 35))]) S.1 S.2.1 d_TX_init_30 rfl hl (by decide) rfl (fun ls hl => ?_)
  have K31 : ∀ (r i : Nat), i + r = 24 → ∀ (H : Heap) (locs : List Loc), gN G (38 + i) (va_up (fun k => if k < 35 then E k else Ef G k) 37 (.inl (G.2.1 6, 24, .inr (.inr (.inr (.inr (flq G 38 i))))))) s H locs → ∀ ls : Array Slot, lv_has ls 2 [(1, .int (nI i)), (0, .ref (adG G 35))] → W p l e { frames := 2, cells := 26, slots := 544, locals := 40 } s m args below meth c H locs (2 + i) (424 + 5 * i) (MQ below (zQ G 35 62 E (Ef G)) args s 26 544 (gA G)) (F0 m 31 ls []) := by
    intro r
    induction r with
    | zero =>
      intro i hi H locs hO ls hl
      have hiM : i = 24 := by omega
      subst hiM
      refine lv_iload_n S.1 S.2.1 d_TX_init_31 rfl (lv_at hl 0 rfl) ?_
      refine lv_bipush (v := 24) S.1 S.2.1 d_TX_init_32 (by decide) ?_
      refine lv_icmp_ge (tgt := 56) S.1 S.2.1 d_TX_init_34 (by decide) (fun _ => ?_) (fun hc => absurd (by decide) hc)
      have hO := hO.q (k := 37) (by omega) vu_s (g := fun j => some (adG G (38 + j))) flq_n
      rw [vu_2] at hO
      refine z_ret S hk hr hO (fun k hk2 => ?_) (Nat.le_of_ble_eq_true rfl) (Nat.le_of_ble_eq_true rfl) d_TX_init_56
      by_cases h1 : k = 37
      · subst h1
        rw [vu_s, if_neg (by omega)]
        rfl
      · rw [vu_n h1]
    | succ r ih =>
      intro i hi H locs hO ls hl
      refine lv_iload_n S.1 S.2.1 d_TX_init_31 rfl (lv_at hl 0 rfl) ?_
      refine lv_bipush (v := 24) S.1 S.2.1 d_TX_init_32 (by decide) ?_
      refine lv_icmp_ge (tgt := 56) S.1 S.2.1 d_TX_init_34 (by decide) (fun hc => absurd hc (nI_ge (a := i) (b := 24) (by omega) (by decide))) (fun _ => ?_)
      refine lv_aload_n S.1 S.2.1 d_TX_init_37 rfl (lv_at hl 1 rfl) ?_
      refine g_get S hO.1 fl_TX_17 (by omega) (k := 35) (fs := fs_TX G (adG G) (s00 35) (t00 35)) (by rw [vu_n (by omega), if_neg (by omega)]; rfl) (v := .ref (adG G 37)) rfl d_TX_init_38 ?_
      refine lv_iload_n S.1 S.2.1 d_TX_init_41 rfl (lv_at hl 0 rfl) ?_
      refine z_new (ci := 2) (fs := [.int 0, .null, .int 0, .int 0, .int 0]) S hO rfl in_RU tk_RU kk_TX_15 kn_RU kt_RU (fun j hj => by match j, hj with | 0, _ => rfl | 1, _ => rfl | 2, _ => rfl | 3, _ => rfl | 4, _ => rfl | j + 5, hj => exact absurd hj (by show ¬ j + 5 < 5; omega)) ⟨by show 2 + i + 1 ≤ 26; omega, by show 424 + 5 * i + 5 ≤ 544; omega⟩ d_TX_init_42 (fun H hO => ?_)
      refine lv_dup S.1 S.2.1 d_TX_init_45 rfl ?_
      refine z_iniN (host := "PlaceRules") (rest := [.ref (adG G (38 + i)), .int (nI i), .ref (adG G 37)]) (k0 := 38 + i) S hO (k_RU_init l G (38 + i) _ vu_s) rfl rfl kc_RU_init kt_RU (gd_1 134 rfl) ki_RU_init rfl ⟨by decide, by decide, by decide⟩ hl.1 (Nat.le_of_ble_eq_true rfl) ⟨(Nat.le_of_ble_eq_true rfl), (Nat.le_of_ble_eq_true rfl)⟩ ⟨by show 2 + i + 1 + 0 ≤ 26; omega, by show 424 + 5 * i + 5 + 0 ≤ 544; omega⟩ d_TX_init_46 (fun H locs hO => ?_)
      refine z_aas (k := 37) (k2 := 38 + i) (N := 24) (ci := 2) (t0 := 6) (cA := G.2.1 6) (f := flq G 38 i) (vs := [.int 0, .ref (ga G 0), .int 0, .int 0, .int 0]) S hO (by omega) (by rw [if_pos (by omega), vu_n (by omega), vu_s]) rfl (by omega) (by rw [if_neg (by omega)]) rfl (vp_in_nI (by omega) (by decide)) d_TX_init_49 (fun H locs hO => ?_)
      rw [flq_s (by omega)] at hO
      have hO := hO.c (E1 := va_up (fun k => if k < 35 then E k else Ef G k) 37 (.inl (G.2.1 6, 24, .inr (.inr (.inr (.inr (flq G 38 (i + 1)))))))) (fun k hk2 => by
          by_cases h1 : k = 37
          · subst h1
            rw [vu_s, vu_s]
          · rw [vu_n h1, vu_n h1]
            by_cases h2 : k < 38 + i
            · rw [if_pos h2, vu_n (by omega), vu_n h1]
            · have h3 : k = 38 + i := by omega
              subst h3
              rw [if_neg h2]
              rw [if_neg (by omega)]; exact (ef_RD (by omega)).symm)
      obtain ⟨x_3, ex_3⟩ : ∃ z : Int32, z = (nI i) + 1 := ⟨_, rfl⟩
      refine lv_iinc (v := x_3) (lv' := [(1, .int x_3), (0, .ref (adG G 35))]) S.1 S.2.1 d_TX_init_50 hl (k := 0) rfl (by rw [ex_3]; rfl) (by decide) rfl (fun ls hl => ?_)
      refine lv_goto (tgt := 31) S.1 S.2.1 d_TX_init_53 (by decide) ?_
      obtain rfl : x_3 = nI (i + 1) := by rw [ex_3]; exact nI_1 i
      exact W.widen (by omega) (by show 424 + 5 * i + 5 + 0 ≤ 424 + 5 * (i + 1); omega) (ih (i + 1) (by omega) _ _ hO ls hl)
  exact W.widen (Nat.le_of_ble_eq_true rfl) (Nat.le_of_ble_eq_true rfl) (K31 24 0 rfl _ _ hO ls hl)
