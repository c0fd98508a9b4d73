/-! Constructors of the small classes. Written by wip/tools/m51.py. -/
theorem arrV_c {cI : ClassId} {N : Nat} {f g : Nat → Value} (h : ∀ j, j < N → f j = g j) : arrV cI N f = arrV cI N g := by
  unfold arrV
  congr 1
  apply Array.ext_getElem?
  intro j
  by_cases hj : j < N
  · simp [hj, h j hj]
  · simp [hj]
/-- an array's content is told otherwise -/
theorem gN.q {G : gP} {n k N : Nat} {E : Nat → va_E} {s : State} {H : Heap} {locs : List Loc} {cA : ClassId} {f g : Nat → Option Nat} (h : gN G n E s H locs) (hk : k < n) (hE : E k = .inl (cA, N, .inr (.inr (.inr (.inr f))))) (hf : ∀ j, j < N → f j = g j) : gN G n (va_up E k (.inl (cA, N, .inr (.inr (.inr (.inr g)))))) s H locs := by
  refine h.next ?_ h.2.1 h.1.S
  have he : (gw n (adG G) E)[k]? = some (adG G k, .inl (cA, N, .inr (.inr (.inr (.inr f))))) := by rw [gw_at hk, hE]
  have h2 := h.1.2.1.set adG_D he (e := .inl (cA, N, .inr (.inr (.inr (.inr g))))) (by
    have h3 := h.1.2.1 k _ he
    change H[adG G k]? = some (vp_cell cA (N, .inr (.inr (.inr (.inr f))))) at h3
    show H[adG G k]? = some (vp_cell cA (N, .inr (.inr (.inr (.inr g)))))
    rw [h3, vp_cell_q, vp_cell_q]
    congr 1
    exact arrV_c (fun j hj => by rw [hf j hj])) (fun _ _ => rfl)
  rw [gw_set hk] at h2
  exact h2
theorem vu_2 {E : Nat → va_E} {k : Nat} {e1 e2 : va_E} : va_up (va_up E k e1) k e2 = va_up E k e2 := by
  funext j
  unfold va_up
  split
  · rfl
  · rfl
theorem fin_1 {E F : Nat → va_E} {k0 : Nat} {e1 : va_E} (hE : E k0 = e1) (hF : F k0 = e1) : ∀ k, k < k0 + 1 → E k = if k < k0 then E k else F k := fun k hk => by
  by_cases h : k < k0
  · rw [if_pos h]
  · have : k = k0 := by omega
    subst this
    rw [if_neg h, hE, hF]
theorem k_NS_init (l : Launch) (G : gP) (k0 : Nat) (E : Nat → va_E) (hE : E k0 = .inr (6, [.long 0, .long 0])) : gCt l y_NS_init c_NS_init 1 { frames := 1, cells := 0, slots := 0, locals := 20 } G k0 (k0 + 1) 0 0 E (fun _ => .inr (6, [.long 0, .long 0])) := by
  refine z_of (by decide) rfl (Nat.le_of_ble_eq_true rfl) ?_
  intro p e s m args below meth c ls S hk hr hin hl hO
  refine lv_aload_n S.1 S.2.1 d_NS_init_0 rfl (lv_at hl 0 rfl) ?_
  refine z_obj (rest := []) S km_NS_1 ki_java_lang_Object_init kc_java_lang_Object_init hl.1 (Nat.le_of_ble_eq_true rfl) (Nat.le_of_ble_eq_true rfl) (Nat.le_of_ble_eq_true rfl) d_NS_init_1 ?_
  exact z_ret S hk hr hO (fin_1 hE rfl) (Nat.le_of_ble_eq_true rfl) (Nat.le_of_ble_eq_true rfl) d_NS_init_4
theorem k_WV_init (l : Launch) (G : gP) (k0 : Nat) (E : Nat → va_E) (hE : E k0 = .inr (9, [.int 0, .int 0, .int 0, .int 0])) : gCt l y_WV_init c_WV_init 1 { frames := 1, cells := 0, slots := 0, locals := 20 } G k0 (k0 + 1) 0 0 E (fun _ => .inr (9, [.int 0, .int 0, .int 0, .int 0])) := by
  refine z_of (by decide) rfl (Nat.le_of_ble_eq_true rfl) ?_
  intro p e s m args below meth c ls S hk hr hin hl hO
  refine lv_aload_n S.1 S.2.1 d_WV_init_0 rfl (lv_at hl 0 rfl) ?_
  refine z_obj (rest := []) S km_WV_3 ki_java_lang_Object_init kc_java_lang_Object_init hl.1 (Nat.le_of_ble_eq_true rfl) (Nat.le_of_ble_eq_true rfl) (Nat.le_of_ble_eq_true rfl) d_WV_init_1 ?_
  exact z_ret S hk hr hO (fin_1 hE rfl) (Nat.le_of_ble_eq_true rfl) (Nat.le_of_ble_eq_true rfl) d_WV_init_4
theorem k_RU_init (l : Launch) (G : gP) (k0 : Nat) (E : Nat → va_E) (hE : E k0 = .inr (2, [.int 0, .null, .int 0, .int 0, .int 0])) : gCt l y_RU_init c_RU_init 1 { frames := 1, cells := 0, slots := 0, locals := 20 } G k0 (k0 + 1) 0 0 E (fun _ => .inr (2, [.int 0, .ref (ga G 0), .int 0, .int 0, .int 0])) := by
  refine z_of (by decide) rfl (Nat.le_of_ble_eq_true rfl) ?_
  intro p e s m args below meth c ls S hk hr hin hl hO
  refine lv_aload_n S.1 S.2.1 d_RU_init_0 rfl (lv_at hl 0 rfl) ?_
  refine z_obj (rest := []) S km_RU_1 ki_java_lang_Object_init kc_java_lang_Object_init hl.1 (Nat.le_of_ble_eq_true rfl) (Nat.le_of_ble_eq_true rfl) (Nat.le_of_ble_eq_true rfl) d_RU_init_1 ?_
  refine lv_aload_n S.1 S.2.1 d_RU_init_4 rfl (lv_at hl 0 rfl) ?_
  refine va_gets S.1 S.2.1 (hO.1.2.2.2.2.2.2.2.2.2.1.1 0 (by decide)).1 hO.1.SG S.2.2.2.1 (S.2.2.2.2 _ kf_RU_7) (fun _ h => h) d_RU_init_5 ?_
  refine z_put (ty0 := ty_RU) (fs := [.int 0, .null, .int 0, .int 0, .int 0]) (v := .ref (ga G 0)) S hO fp_RU_13 (Nat.lt_succ_self _) (by (repeat (first | rw [vu_s] | rw [vu_n (by omega)] | rw [if_pos (by omega)] | rw [if_neg (by omega)])) <;> first | rfl | assumption) rfl rfl (Nat.le_of_ble_eq_true rfl) d_RU_init_8 (fun H locs hO => ?_)
  exact z_ret S hk hr hO (fun k hk => by
    by_cases h : k < k0
    · rw [if_pos h]
      repeat rw [vu_n (by omega)]
    · have h2 : k = k0 := by omega
      subst h2
      rw [if_neg h, vu_s]
      rfl) (Nat.le_of_ble_eq_true rfl) (Nat.le_of_ble_eq_true rfl) d_RU_init_11
theorem k_PL_init (l : Launch) (G : gP) (k0 : Nat) (E : Nat → va_E) (hE : E k0 = .inr (7, [.int 0, .int 0, .int 0, .int 0, .int 0])) : gCt l y_PL_init c_PL_init 1 { frames := 1, cells := 0, slots := 0, locals := 20 } G k0 (k0 + 1) 0 0 E (fun _ => .inr (7, [.int 1000, .int 1000, .int 1000, .int 100000, .int 0])) := by
  refine z_of (by decide) rfl (Nat.le_of_ble_eq_true rfl) ?_
  intro p e s m args below meth c ls S hk hr hin hl hO
  refine lv_aload_n S.1 S.2.1 d_PL_init_0 rfl (lv_at hl 0 rfl) ?_
  refine z_obj (rest := []) S km_PL_3 ki_java_lang_Object_init kc_java_lang_Object_init hl.1 (Nat.le_of_ble_eq_true rfl) (Nat.le_of_ble_eq_true rfl) (Nat.le_of_ble_eq_true rfl) d_PL_init_1 ?_
  refine lv_aload_n S.1 S.2.1 d_PL_init_4 rfl (lv_at hl 0 rfl) ?_
  refine lv_sipush (v := 1000) S.1 S.2.1 d_PL_init_5 (by decide) ?_
  refine z_put (ty0 := ty_PL) (fs := [.int 0, .int 0, .int 0, .int 0, .int 0]) (v := .int 1000) S hO fp_PL_9 (Nat.lt_succ_self _) (by (repeat (first | rw [vu_s] | rw [vu_n (by omega)] | rw [if_pos (by omega)] | rw [if_neg (by omega)])) <;> first | rfl | assumption) rfl rfl (Nat.le_of_ble_eq_true rfl) d_PL_init_8 (fun H locs hO => ?_)
  refine lv_aload_n S.1 S.2.1 d_PL_init_11 rfl (lv_at hl 0 rfl) ?_
  refine lv_sipush (v := 1000) S.1 S.2.1 d_PL_init_12 (by decide) ?_
  refine z_put (ty0 := ty_PL) (fs := [.int 1000, .int 0, .int 0, .int 0, .int 0]) (v := .int 1000) S hO fp_PL_15 (Nat.lt_succ_self _) (by (repeat (first | rw [vu_s] | rw [vu_n (by omega)] | rw [if_pos (by omega)] | rw [if_neg (by omega)])) <;> first | rfl | assumption) rfl rfl (Nat.le_of_ble_eq_true rfl) d_PL_init_15 (fun H locs hO => ?_)
  refine lv_aload_n S.1 S.2.1 d_PL_init_18 rfl (lv_at hl 0 rfl) ?_
  refine lv_sipush (v := 1000) S.1 S.2.1 d_PL_init_19 (by decide) ?_
  refine z_put (ty0 := ty_PL) (fs := [.int 1000, .int 1000, .int 0, .int 0, .int 0]) (v := .int 1000) S hO fp_PL_18 (Nat.lt_succ_self _) (by (repeat (first | rw [vu_s] | rw [vu_n (by omega)] | rw [if_pos (by omega)] | rw [if_neg (by omega)])) <;> first | rfl | assumption) rfl rfl (Nat.le_of_ble_eq_true rfl) d_PL_init_22 (fun H locs hO => ?_)
  refine lv_aload_n S.1 S.2.1 d_PL_init_25 rfl (lv_at hl 0 rfl) ?_
  refine lv_ldc (v := 100000) S.1 S.2.1 S.2.2.2.1 (S.2.2.2.2 _ kv_PL_21) d_PL_init_26 ?_
  refine z_put (ty0 := ty_PL) (fs := [.int 1000, .int 1000, .int 1000, .int 0, .int 0]) (v := .int 100000) S hO fp_PL_22 (Nat.lt_succ_self _) (by (repeat (first | rw [vu_s] | rw [vu_n (by omega)] | rw [if_pos (by omega)] | rw [if_neg (by omega)])) <;> first | rfl | assumption) rfl rfl (Nat.le_of_ble_eq_true rfl) d_PL_init_28 (fun H locs hO => ?_)
  exact z_ret S hk hr hO (fun k hk => by
    by_cases h : k < k0
    · rw [if_pos h]
      repeat rw [vu_n (by omega)]
    · have h2 : k = k0 := by omega
      subst h2
      rw [if_neg h, vu_s]
      rfl) (Nat.le_of_ble_eq_true rfl) (Nat.le_of_ble_eq_true rfl) d_PL_init_31
theorem k_UN_init (l : Launch) (G : gP) (k0 : Nat) (E : Nat → va_E) (hE : E k0 = .inr (8, [.int 0, .int 0, .int 0, .int 0, .int 0, .int 0, .int 0, .int 0, .int 0, .int 0, .int 0])) : gCt l y_UN_init c_UN_init 1 { frames := 1, cells := 0, slots := 0, locals := 20 } G k0 (k0 + 1) 0 0 E (fun _ => .inr (8, [.int 0, .int 0, .int 0, .int 100, .int 100, .int 100, .int 1000, .int 0, .int 0, .int 1000, .int (-1)])) := by
  refine z_of (by decide) rfl (Nat.le_of_ble_eq_true rfl) ?_
  intro p e s m args below meth c ls S hk hr hin hl hO
  refine lv_aload_n S.1 S.2.1 d_UN_init_0 rfl (lv_at hl 0 rfl) ?_
  refine z_obj (rest := []) S km_UN_3 ki_java_lang_Object_init kc_java_lang_Object_init hl.1 (Nat.le_of_ble_eq_true rfl) (Nat.le_of_ble_eq_true rfl) (Nat.le_of_ble_eq_true rfl) d_UN_init_1 ?_
  refine lv_aload_n S.1 S.2.1 d_UN_init_4 rfl (lv_at hl 0 rfl) ?_
  refine lv_bipush (v := 100) S.1 S.2.1 d_UN_init_5 (by decide) ?_
  refine z_put (ty0 := ty_UN) (fs := [.int 0, .int 0, .int 0, .int 0, .int 0, .int 0, .int 0, .int 0, .int 0, .int 0, .int 0]) (v := .int 100) S hO fp_UN_9 (Nat.lt_succ_self _) (by (repeat (first | rw [vu_s] | rw [vu_n (by omega)] | rw [if_pos (by omega)] | rw [if_neg (by omega)])) <;> first | rfl | assumption) rfl rfl (Nat.le_of_ble_eq_true rfl) d_UN_init_7 (fun H locs hO => ?_)
  refine lv_aload_n S.1 S.2.1 d_UN_init_10 rfl (lv_at hl 0 rfl) ?_
  refine lv_bipush (v := 100) S.1 S.2.1 d_UN_init_11 (by decide) ?_
  refine z_put (ty0 := ty_UN) (fs := [.int 0, .int 0, .int 0, .int 100, .int 0, .int 0, .int 0, .int 0, .int 0, .int 0, .int 0]) (v := .int 100) S hO fp_UN_15 (Nat.lt_succ_self _) (by (repeat (first | rw [vu_s] | rw [vu_n (by omega)] | rw [if_pos (by omega)] | rw [if_neg (by omega)])) <;> first | rfl | assumption) rfl rfl (Nat.le_of_ble_eq_true rfl) d_UN_init_13 (fun H locs hO => ?_)
  refine lv_aload_n S.1 S.2.1 d_UN_init_16 rfl (lv_at hl 0 rfl) ?_
  refine lv_bipush (v := 100) S.1 S.2.1 d_UN_init_17 (by decide) ?_
  refine z_put (ty0 := ty_UN) (fs := [.int 0, .int 0, .int 0, .int 100, .int 100, .int 0, .int 0, .int 0, .int 0, .int 0, .int 0]) (v := .int 100) S hO fp_UN_18 (Nat.lt_succ_self _) (by (repeat (first | rw [vu_s] | rw [vu_n (by omega)] | rw [if_pos (by omega)] | rw [if_neg (by omega)])) <;> first | rfl | assumption) rfl rfl (Nat.le_of_ble_eq_true rfl) d_UN_init_19 (fun H locs hO => ?_)
  refine lv_aload_n S.1 S.2.1 d_UN_init_22 rfl (lv_at hl 0 rfl) ?_
  refine lv_sipush (v := 1000) S.1 S.2.1 d_UN_init_23 (by decide) ?_
  refine z_put (ty0 := ty_UN) (fs := [.int 0, .int 0, .int 0, .int 100, .int 100, .int 100, .int 0, .int 0, .int 0, .int 0, .int 0]) (v := .int 1000) S hO fp_UN_21 (Nat.lt_succ_self _) (by (repeat (first | rw [vu_s] | rw [vu_n (by omega)] | rw [if_pos (by omega)] | rw [if_neg (by omega)])) <;> first | rfl | assumption) rfl rfl (Nat.le_of_ble_eq_true rfl) d_UN_init_26 (fun H locs hO => ?_)
  refine lv_aload_n S.1 S.2.1 d_UN_init_29 rfl (lv_at hl 0 rfl) ?_
  refine lv_sipush (v := 1000) S.1 S.2.1 d_UN_init_30 (by decide) ?_
  refine z_put (ty0 := ty_UN) (fs := [.int 0, .int 0, .int 0, .int 100, .int 100, .int 100, .int 1000, .int 0, .int 0, .int 0, .int 0]) (v := .int 1000) S hO fp_UN_24 (Nat.lt_succ_self _) (by (repeat (first | rw [vu_s] | rw [vu_n (by omega)] | rw [if_pos (by omega)] | rw [if_neg (by omega)])) <;> first | rfl | assumption) rfl rfl (Nat.le_of_ble_eq_true rfl) d_UN_init_33 (fun H locs hO => ?_)
  refine lv_aload_n S.1 S.2.1 d_UN_init_36 rfl (lv_at hl 0 rfl) ?_
  refine lv_iconst (v := (-1)) S.1 S.2.1 d_UN_init_37 (by decide) ?_
  refine z_put (ty0 := ty_UN) (fs := [.int 0, .int 0, .int 0, .int 100, .int 100, .int 100, .int 1000, .int 0, .int 0, .int 1000, .int 0]) (v := .int (-1)) S hO fp_UN_27 (Nat.lt_succ_self _) (by (repeat (first | rw [vu_s] | rw [vu_n (by omega)] | rw [if_pos (by omega)] | rw [if_neg (by omega)])) <;> first | rfl | assumption) rfl rfl (Nat.le_of_ble_eq_true rfl) d_UN_init_38 (fun H locs hO => ?_)
  exact z_ret S hk hr hO (fun k hk => by
    by_cases h : k < k0
    · rw [if_pos h]
      repeat rw [vu_n (by omega)]
    · have h2 : k = k0 := by omega
      subst h2
      rw [if_neg h, vu_s]
      rfl) (Nat.le_of_ble_eq_true rfl) (Nat.le_of_ble_eq_true rfl) d_UN_init_41
