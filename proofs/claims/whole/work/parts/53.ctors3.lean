/-! Constructors of the class and of the reference. Written by wip/tools/m53.py. -/
theorem k_PR_init (l : Launch) (G : gP) (E : Nat → va_E) (hE : E 0 = .inr (0, [.null, .null, .int 0, .null, .int 0, .null, .null, .null, .null, .null, .int 0])) : gCt l y_PR_init c_PR_init 2 { frames := 3, cells := 139, slots := 1985, locals := 61 } G 0 140 139 1985 E (Ef G) := by
  refine z_of (by decide) rfl (Nat.le_of_ble_eq_true rfl) ?_
  intro p e s m args below meth c ls S hk hr hin hl hO
  refine lv_aload_n S.1 S.2.1 d_PR_init_0 rfl (lv_at hl 0 rfl) ?_
  refine z_obj (rest := []) S km_PR_1 ki_java_lang_Object_init kc_java_lang_Object_init hl.1 (Nat.le_of_ble_eq_true rfl) (Nat.le_of_ble_eq_true rfl) (Nat.le_of_ble_eq_true rfl) d_PR_init_1 ?_
  refine lv_aload_n S.1 S.2.1 d_PR_init_4 rfl (lv_at hl 0 rfl) ?_
  refine lv_bipush (v := 12) S.1 S.2.1 d_PR_init_5 (by decide) ?_
  refine z_newq (N' := 12) (t0 := 3) S hO kk_PR_9 hO.2.2.1 rfl (by decide) (by decide) (by decide) ⟨(Nat.le_of_ble_eq_true rfl), (Nat.le_of_ble_eq_true rfl)⟩ d_PR_init_7 (fun H hO => ?_)
  refine z_putF (ty0 := ty_PR) (fs := [.null, .null, .int 0, .null, .int 0, .null, .null, .null, .null, .null, .int 0]) (v := .ref (adG G 1)) S hO hin fl_PR_11 tk_PR nm_PR rfl rfl (Nat.le_of_ble_eq_true rfl) (by (repeat (first | rw [vu_s] | rw [vu_n (by omega)] | rw [if_pos (by omega)] | rw [if_neg (by omega)])) <;> first | rfl | assumption) rfl rfl (Nat.le_of_ble_eq_true rfl) d_PR_init_10 (fun H locs hO => ?_)
  refine lv_aload_n S.1 S.2.1 d_PR_init_13 rfl (lv_at hl 0 rfl) ?_
  refine lv_bipush (v := 40) S.1 S.2.1 d_PR_init_14 (by decide) ?_
  refine z_newq (N' := 40) (t0 := 4) S hO kk_PR_15 hO.2.2.2.1 rfl (by decide) (by decide) (by decide) ⟨(Nat.le_of_ble_eq_true rfl), (Nat.le_of_ble_eq_true rfl)⟩ d_PR_init_16 (fun H hO => ?_)
  refine z_putF (ty0 := ty_PR) (fs := [.ref (adG G 1), .null, .int 0, .null, .int 0, .null, .null, .null, .null, .null, .int 0]) (v := .ref (adG G 2)) S hO hin fl_PR_17 tk_PR nm_PR rfl rfl (Nat.le_of_ble_eq_true rfl) (by (repeat (first | rw [vu_s] | rw [vu_n (by omega)] | rw [if_pos (by omega)] | rw [if_neg (by omega)])) <;> first | rfl | assumption) rfl rfl (Nat.le_of_ble_eq_true rfl) d_PR_init_19 (fun H locs hO => ?_)
  refine lv_aload_n S.1 S.2.1 d_PR_init_22 rfl (lv_at hl 0 rfl) ?_
  refine lv_bipush (v := 20) S.1 S.2.1 d_PR_init_23 (by decide) ?_
  refine z_newq (N' := 20) (t0 := 5) S hO kk_PR_21 hO.2.2.2.2.1 rfl (by decide) (by decide) (by decide) ⟨(Nat.le_of_ble_eq_true rfl), (Nat.le_of_ble_eq_true rfl)⟩ d_PR_init_25 (fun H hO => ?_)
  refine z_putF (ty0 := ty_PR) (fs := [.ref (adG G 1), .ref (adG G 2), .int 0, .null, .int 0, .null, .null, .null, .null, .null, .int 0]) (v := .ref (adG G 3)) S hO hin fl_PR_23 tk_PR nm_PR rfl rfl (Nat.le_of_ble_eq_true rfl) (by (repeat (first | rw [vu_s] | rw [vu_n (by omega)] | rw [if_pos (by omega)] | rw [if_neg (by omega)])) <;> first | rfl | assumption) rfl rfl (Nat.le_of_ble_eq_true rfl) d_PR_init_28 (fun H locs hO => ?_)
  refine lv_aload_n S.1 S.2.1 d_PR_init_31 rfl (lv_at hl 0 rfl) ?_
  refine z_new (ci := 1) (fs := [.null, .null, .int 0, .null, .null, .int 0]) S hO rfl in_RB tk_RB kk_PR_27 kn_RB kt_RB (fun j hj => by match j, hj with | 0, _ => rfl | 1, _ => rfl | 2, _ => rfl | 3, _ => rfl | 4, _ => rfl | 5, _ => rfl | j + 6, hj => exact absurd hj (by show ¬ j + 6 < 6; omega)) ⟨(Nat.le_of_ble_eq_true rfl), (Nat.le_of_ble_eq_true rfl)⟩ d_PR_init_32 (fun H hO => ?_)
  refine lv_dup S.1 S.2.1 d_PR_init_35 rfl ?_
  refine z_ini (rest := [.ref (adG G 4), .ref (adG G 0)]) (k0 := 4) S hO (k_RB_init l G _ (by (repeat (first | rw [vu_s] | rw [vu_n (by omega)] | rw [if_pos (by omega)] | rw [if_neg (by omega)])) <;> first | rfl | assumption)) rfl rfl kc_RB_init kt_RB km_PR_29 ki_RB_init rfl ⟨by decide, by decide, by decide⟩ hl.1 (Nat.le_of_ble_eq_true rfl) ⟨(Nat.le_of_ble_eq_true rfl), (Nat.le_of_ble_eq_true rfl)⟩ ⟨(Nat.le_of_ble_eq_true rfl), (Nat.le_of_ble_eq_true rfl)⟩ d_PR_init_36 (fun H locs hO => ?_)
  refine z_putF (ty0 := ty_PR) (fs := [.ref (adG G 1), .ref (adG G 2), .int 0, .ref (adG G 3), .int 0, .null, .null, .null, .null, .null, .int 0]) (v := .ref (adG G 4)) S hO hin fl_PR_30 tk_PR nm_PR rfl rfl (Nat.le_of_ble_eq_true rfl) (by (repeat (first | rw [vu_s] | rw [vu_n (by omega)] | rw [if_pos (by omega)] | rw [if_neg (by omega)])) <;> first | rfl | assumption) rfl rfl (Nat.le_of_ble_eq_true rfl) d_PR_init_39 (fun H locs hO => ?_)
  refine lv_aload_n S.1 S.2.1 d_PR_init_42 rfl (lv_at hl 0 rfl) ?_
  refine z_new (ci := 3) (fs := [.null, .int 0]) S hO rfl in_OW tk_OW kk_PR_34 kn_OW kt_OW (fun j hj => by match j, hj with | 0, _ => rfl | 1, _ => rfl | j + 2, hj => exact absurd hj (by show ¬ j + 2 < 2; omega)) ⟨(Nat.le_of_ble_eq_true rfl), (Nat.le_of_ble_eq_true rfl)⟩ d_PR_init_43 (fun H hO => ?_)
  refine lv_dup S.1 S.2.1 d_PR_init_46 rfl ?_
  refine z_iniN (host := "PlaceRules") (rest := [.ref (adG G 33), .ref (adG G 0)]) (k0 := 33) S hO (k_OW_init l G _ (by (repeat (first | rw [vu_s] | rw [vu_n (by omega)] | rw [if_pos (by omega)] | rw [if_neg (by omega)])) <;> first | rfl | assumption)) rfl rfl kc_OW_init kt_OW (gd_1 113 rfl) ki_OW_init rfl ⟨by decide, by decide, by decide⟩ hl.1 (Nat.le_of_ble_eq_true rfl) ⟨(Nat.le_of_ble_eq_true rfl), (Nat.le_of_ble_eq_true rfl)⟩ ⟨(Nat.le_of_ble_eq_true rfl), (Nat.le_of_ble_eq_true rfl)⟩ d_PR_init_47 (fun H locs hO => ?_)
  refine z_putF (ty0 := ty_PR) (fs := [.ref (adG G 1), .ref (adG G 2), .int 0, .ref (adG G 3), .int 0, .ref (adG G 4), .null, .null, .null, .null, .int 0]) (v := .ref (adG G 33)) S hO hin fl_PR_37 tk_PR nm_PR rfl rfl (Nat.le_of_ble_eq_true rfl) (by (repeat (first | rw [vu_s] | rw [vu_n (by omega)] | rw [if_pos (by omega)] | rw [if_neg (by omega)])) <;> first | rfl | assumption) rfl rfl (Nat.le_of_ble_eq_true rfl) d_PR_init_50 (fun H locs hO => ?_)
  refine lv_aload_n S.1 S.2.1 d_PR_init_53 rfl (lv_at hl 0 rfl) ?_
  refine z_new (ci := 4) (fs := [.null, .int 0, .null, .int 0, .int 0, .int 0, .null]) S hO rfl in_TX tk_TX kk_PR_41 kn_TX kt_TX (fun j hj => by match j, hj with | 0, _ => rfl | 1, _ => rfl | 2, _ => rfl | 3, _ => rfl | 4, _ => rfl | 5, _ => rfl | 6, _ => rfl | j + 7, hj => exact absurd hj (by show ¬ j + 7 < 7; omega)) ⟨(Nat.le_of_ble_eq_true rfl), (Nat.le_of_ble_eq_true rfl)⟩ d_PR_init_54 (fun H hO => ?_)
  refine lv_dup S.1 S.2.1 d_PR_init_57 rfl ?_
  refine z_ini (rest := [.ref (adG G 35), .ref (adG G 0)]) (k0 := 35) S hO (k_TX_init l G _ (by (repeat (first | rw [vu_s] | rw [vu_n (by omega)] | rw [if_pos (by omega)] | rw [if_neg (by omega)])) <;> first | rfl | assumption)) rfl rfl kc_TX_init kt_TX km_PR_43 ki_TX_init rfl ⟨by decide, by decide, by decide⟩ hl.1 (Nat.le_of_ble_eq_true rfl) ⟨(Nat.le_of_ble_eq_true rfl), (Nat.le_of_ble_eq_true rfl)⟩ ⟨(Nat.le_of_ble_eq_true rfl), (Nat.le_of_ble_eq_true rfl)⟩ d_PR_init_58 (fun H locs hO => ?_)
  refine z_putF (ty0 := ty_PR) (fs := [.ref (adG G 1), .ref (adG G 2), .int 0, .ref (adG G 3), .int 0, .ref (adG G 4), .ref (adG G 33), .null, .null, .null, .int 0]) (v := .ref (adG G 35)) S hO hin fl_PR_44 tk_PR nm_PR rfl rfl (Nat.le_of_ble_eq_true rfl) (by (repeat (first | rw [vu_s] | rw [vu_n (by omega)] | rw [if_pos (by omega)] | rw [if_neg (by omega)])) <;> first | rfl | assumption) rfl rfl (Nat.le_of_ble_eq_true rfl) d_PR_init_61 (fun H locs hO => ?_)
  refine lv_aload_n S.1 S.2.1 d_PR_init_64 rfl (lv_at hl 0 rfl) ?_
  refine z_new (ci := 5) (fs := [.int 0, .int 0, .int 0, .int 0, .int 0, .int 0, .int 0, .int 0, .int 0, .int 0, .int 0, .int 0, .int 0, .int 0, .null, .null, .null, .null]) S hO rfl in_QU tk_QU kk_PR_48 kn_QU kt_QU (fun j hj => by match j, hj with | 0, _ => rfl | 1, _ => rfl | 2, _ => rfl | 3, _ => rfl | 4, _ => rfl | 5, _ => rfl | 6, _ => rfl | 7, _ => rfl | 8, _ => rfl | 9, _ => rfl | 10, _ => rfl | 11, _ => rfl | 12, _ => rfl | 13, _ => rfl | 14, _ => rfl | 15, _ => rfl | 16, _ => rfl | 17, _ => rfl | j + 18, hj => exact absurd hj (by show ¬ j + 18 < 18; omega)) ⟨(Nat.le_of_ble_eq_true rfl), (Nat.le_of_ble_eq_true rfl)⟩ d_PR_init_65 (fun H hO => ?_)
  refine lv_dup S.1 S.2.1 d_PR_init_68 rfl ?_
  refine z_iniN (host := "PlaceRules") (rest := [.ref (adG G 62), .ref (adG G 0)]) (k0 := 62) S hO (k_QU_init l G _ (by (repeat (first | rw [vu_s] | rw [vu_n (by omega)] | rw [if_pos (by omega)] | rw [if_neg (by omega)])) <;> first | rfl | assumption)) rfl rfl kc_QU_init kt_QU (gd_1 161 rfl) ki_QU_init rfl ⟨by decide, by decide, by decide⟩ hl.1 (Nat.le_of_ble_eq_true rfl) ⟨(Nat.le_of_ble_eq_true rfl), (Nat.le_of_ble_eq_true rfl)⟩ ⟨(Nat.le_of_ble_eq_true rfl), (Nat.le_of_ble_eq_true rfl)⟩ d_PR_init_69 (fun H locs hO => ?_)
  refine z_putF (ty0 := ty_PR) (fs := [.ref (adG G 1), .ref (adG G 2), .int 0, .ref (adG G 3), .int 0, .ref (adG G 4), .ref (adG G 33), .ref (adG G 35), .null, .null, .int 0]) (v := .ref (adG G 62)) S hO hin fl_PR_51 tk_PR nm_PR rfl rfl (Nat.le_of_ble_eq_true rfl) (by (repeat (first | rw [vu_s] | rw [vu_n (by omega)] | rw [if_pos (by omega)] | rw [if_neg (by omega)])) <;> first | rfl | assumption) rfl rfl (Nat.le_of_ble_eq_true rfl) d_PR_init_72 (fun H locs hO => ?_)
  refine lv_aload_n S.1 S.2.1 d_PR_init_75 rfl (lv_at hl 0 rfl) ?_
  refine lv_bipush (v := 24) S.1 S.2.1 d_PR_init_76 (by decide) ?_
  refine z_newa (N' := 24) (t0 := 0) (a0 := (24, .inl (fun _ => 0))) (atype := .int) (ty := .int) S hO rfl ka_int rfl (fun C h => by cases h) (fun _ => rfl) (by decide) (by decide) (by decide) ⟨(Nat.le_of_ble_eq_true rfl), (Nat.le_of_ble_eq_true rfl)⟩ d_PR_init_78 (fun H hO => ?_)
  refine z_putF (ty0 := ty_PR) (fs := [.ref (adG G 1), .ref (adG G 2), .int 0, .ref (adG G 3), .int 0, .ref (adG G 4), .ref (adG G 33), .ref (adG G 35), .ref (adG G 62), .null, .int 0]) (v := .ref (adG G 67)) S hO hin fl_PR_55 tk_PR nm_PR rfl rfl (Nat.le_of_ble_eq_true rfl) (by (repeat (first | rw [vu_s] | rw [vu_n (by omega)] | rw [if_pos (by omega)] | rw [if_neg (by omega)])) <;> first | rfl | assumption) rfl rfl (Nat.le_of_ble_eq_true rfl) d_PR_init_80 (fun H locs hO => ?_)
  have hO := hO.c (E1 := va_up (va_up (va_up (fun k => if k < 0 then E k else Ef G k) 3 (.inl (G.2.1 5, 20, .inr (.inr (.inr (.inr (fun _ => none))))))) 2 (.inl (G.2.1 4, 40, .inr (.inr (.inr (.inr (fun _ => none))))))) 1 (.inl (G.2.1 3, 12, .inr (.inr (.inr (.inr (flq G 68 0))))))) (fun k hk2 => by
    rw [flq_0]
    rcases (show k = 0 ∨ k = 1 ∨ k = 2 ∨ k = 3 ∨ (4 ≤ k ∧ k < 33) ∨ (33 ≤ k ∧ k < 35) ∨ (35 ≤ k ∧ k < 62) ∨ (62 ≤ k ∧ k < 67) ∨ k = 67 by omega) with rfl | rfl | rfl | rfl | h | h | h | h | rfl
    · (repeat (first | rw [vu_s] | rw [vu_n (by omega)] | rw [if_pos (by omega)] | rw [if_neg (by omega)])) <;> rfl
    · (repeat (first | rw [vu_s] | rw [vu_n (by omega)] | rw [if_pos (by omega)] | rw [if_neg (by omega)])) <;> rfl
    · (repeat (first | rw [vu_s] | rw [vu_n (by omega)] | rw [if_pos (by omega)] | rw [if_neg (by omega)])) <;> rfl
    · (repeat (first | rw [vu_s] | rw [vu_n (by omega)] | rw [if_pos (by omega)] | rw [if_neg (by omega)])) <;> rfl
    · (repeat (first | rw [vu_s] | rw [vu_n (by omega)] | rw [if_pos (by omega)] | rw [if_neg (by omega)]))
    · (repeat (first | rw [vu_s] | rw [vu_n (by omega)] | rw [if_pos (by omega)] | rw [if_neg (by omega)]))
    · (repeat (first | rw [vu_s] | rw [vu_n (by omega)] | rw [if_pos (by omega)] | rw [if_neg (by omega)]))
    · (repeat (first | rw [vu_s] | rw [vu_n (by omega)] | rw [if_pos (by omega)] | rw [if_neg (by omega)]))
    · (repeat (first | rw [vu_s] | rw [vu_n (by omega)] | rw [if_pos (by omega)] | rw [if_neg (by omega)])) <;> rfl)
  refine lv_iconst (v := 0) S.1 S.2.1 d_PR_init_83 (by decide) ?_
  refine lv_istore_n (lv' := [(1, .int 0), (0, .ref (adG G 0))]) S.1 S.2.1 d_PR_init_84 rfl hl (by decide) rfl (fun ls hl => ?_)
  have K85 : ∀ (r i : Nat), i + r = 12 → ∀ (H : Heap) (locs : List Loc), gN G (68 + i) (va_up (va_up (va_up (fun k => if k < 0 then E k else Ef G k) 3 (.inl (G.2.1 5, 20, .inr (.inr (.inr (.inr (fun _ => none))))))) 2 (.inl (G.2.1 4, 40, .inr (.inr (.inr (.inr (fun _ => none))))))) 1 (.inl (G.2.1 3, 12, .inr (.inr (.inr (.inr (flq G 68 i))))))) s H locs → ∀ ls : Array Slot, lv_has ls 2 [(1, .int (nI i)), (0, .ref (adG G 0))] → W p l e { frames := 3, cells := 139, slots := 1985, locals := 61 } s m args below meth c H locs (67 + i) (1405 + 5 * i) (MQ below (zQ G 0 140 E (Ef G)) args s 139 1985 (gA G)) (F0 m 85 ls []) := by
    intro r
    induction r with
    | zero =>
      intro i hi H locs hO ls hl
      have hiM : i = 12 := by omega
      subst hiM
      refine lv_iload_n S.1 S.2.1 d_PR_init_85 rfl (lv_at hl 0 rfl) ?_
      refine lv_bipush (v := 12) S.1 S.2.1 d_PR_init_86 (by decide) ?_
      refine lv_icmp_ge (tgt := 110) S.1 S.2.1 d_PR_init_88 (by decide) (fun _ => ?_) (fun hc => absurd (by decide) hc)
      have hO := hO.q (k := 1) (by omega) vu_s (g := fun j => some (adG G (68 + j))) flq_n
      rw [vu_2] at hO
      have hO := hO.c (E1 := va_up (va_up (fun k => if k < 0 then E k else Ef G k) 3 (.inl (G.2.1 5, 20, .inr (.inr (.inr (.inr (fun _ => none))))))) 2 (.inl (G.2.1 4, 40, .inr (.inr (.inr (.inr (flq G 80 0))))))) (fun k hk2 => by
        rw [flq_0]
        rcases (show k = 1 ∨ k = 2 ∨ k = 3 ∨ (k ≠ 1 ∧ k ≠ 2 ∧ k ≠ 3) by omega) with rfl | rfl | rfl | h
        · (repeat (first | rw [vu_s] | rw [vu_n (by omega)] | rw [if_pos (by omega)] | rw [if_neg (by omega)])) <;> rfl
        · (repeat (first | rw [vu_s] | rw [vu_n (by omega)] | rw [if_pos (by omega)] | rw [if_neg (by omega)])) <;> rfl
        · (repeat (first | rw [vu_s] | rw [vu_n (by omega)] | rw [if_pos (by omega)] | rw [if_neg (by omega)])) <;> rfl
        · (repeat (first | rw [vu_s] | rw [vu_n (by omega)] | rw [if_pos (by omega)] | rw [if_neg (by omega)])))
      refine lv_iconst (v := 0) S.1 S.2.1 d_PR_init_110 (by decide) ?_
      refine lv_istore_n (lv' := [(1, .int 0), (0, .ref (adG G 0))]) S.1 S.2.1 d_PR_init_111 rfl hl (by decide) rfl (fun ls hl => ?_)
      have K112 : ∀ (r i : Nat), i + r = 40 → ∀ (H : Heap) (locs : List Loc), gN G (80 + i) (va_up (va_up (fun k => if k < 0 then E k else Ef G k) 3 (.inl (G.2.1 5, 20, .inr (.inr (.inr (.inr (fun _ => none))))))) 2 (.inl (G.2.1 4, 40, .inr (.inr (.inr (.inr (flq G 80 i))))))) s H locs → ∀ ls : Array Slot, lv_has ls 2 [(1, .int (nI i)), (0, .ref (adG G 0))] → W p l e { frames := 3, cells := 139, slots := 1985, locals := 61 } s m args below meth c H locs (79 + i) (1465 + 11 * i) (MQ below (zQ G 0 140 E (Ef G)) args s 139 1985 (gA G)) (F0 m 112 ls []) := by
        intro r
        induction r with
        | zero =>
          intro i hi H locs hO ls hl
          have hiM : i = 40 := by omega
          subst hiM
          refine lv_iload_n S.1 S.2.1 d_PR_init_112 rfl (lv_at hl 0 rfl) ?_
          refine lv_bipush (v := 40) S.1 S.2.1 d_PR_init_113 (by decide) ?_
          refine lv_icmp_ge (tgt := 137) S.1 S.2.1 d_PR_init_115 (by decide) (fun _ => ?_) (fun hc => absurd (by decide) hc)
          have hO := hO.q (k := 2) (by omega) vu_s (g := fun j => some (adG G (80 + j))) flq_n
          rw [vu_2] at hO
          have hO := hO.c (E1 := va_up (fun k => if k < 0 then E k else Ef G k) 3 (.inl (G.2.1 5, 20, .inr (.inr (.inr (.inr (flq G 120 0))))))) (fun k hk2 => by
            rw [flq_0]
            rcases (show k = 2 ∨ k = 3 ∨ (k ≠ 2 ∧ k ≠ 3) by omega) with rfl | rfl | h
            · (repeat (first | rw [vu_s] | rw [vu_n (by omega)] | rw [if_pos (by omega)] | rw [if_neg (by omega)])) <;> rfl
            · (repeat (first | rw [vu_s] | rw [vu_n (by omega)] | rw [if_pos (by omega)] | rw [if_neg (by omega)])) <;> rfl
            · (repeat (first | rw [vu_s] | rw [vu_n (by omega)] | rw [if_pos (by omega)] | rw [if_neg (by omega)])))
          refine lv_iconst (v := 0) S.1 S.2.1 d_PR_init_137 (by decide) ?_
          refine lv_istore_n (lv' := [(1, .int 0), (0, .ref (adG G 0))]) S.1 S.2.1 d_PR_init_138 rfl hl (by decide) rfl (fun ls hl => ?_)
          have K139 : ∀ (r i : Nat), i + r = 20 → ∀ (H : Heap) (locs : List Loc), gN G (120 + i) (va_up (fun k => if k < 0 then E k else Ef G k) 3 (.inl (G.2.1 5, 20, .inr (.inr (.inr (.inr (flq G 120 i))))))) s H locs → ∀ ls : Array Slot, lv_has ls 2 [(1, .int (nI i)), (0, .ref (adG G 0))] → W p l e { frames := 3, cells := 139, slots := 1985, locals := 61 } s m args below meth c H locs (119 + i) (1905 + 4 * i) (MQ below (zQ G 0 140 E (Ef G)) args s 139 1985 (gA G)) (F0 m 139 ls []) := by
            intro r
            induction r with
            | zero =>
              intro i hi H locs hO ls hl
              have hiM : i = 20 := by omega
              subst hiM
              refine lv_iload_n S.1 S.2.1 d_PR_init_139 rfl (lv_at hl 0 rfl) ?_
              refine lv_bipush (v := 20) S.1 S.2.1 d_PR_init_140 (by decide) ?_
              refine lv_icmp_ge (tgt := 164) S.1 S.2.1 d_PR_init_142 (by decide) (fun _ => ?_) (fun hc => absurd (by decide) hc)
              have hO := hO.q (k := 3) (by omega) vu_s (g := fun j => some (adG G (120 + j))) flq_n
              rw [vu_2] at hO
              refine z_ret S hk hr hO (fun k hk2 => ?_) (Nat.le_of_ble_eq_true rfl) (Nat.le_of_ble_eq_true rfl) d_PR_init_164
              by_cases h1 : k = 3
              · subst h1
                rw [vu_s, if_neg (by omega)]
                rfl
              · rw [vu_n h1]
            | succ r ih =>
              intro i hi H locs hO ls hl
              refine lv_iload_n S.1 S.2.1 d_PR_init_139 rfl (lv_at hl 0 rfl) ?_
              refine lv_bipush (v := 20) S.1 S.2.1 d_PR_init_140 (by decide) ?_
              refine lv_icmp_ge (tgt := 164) S.1 S.2.1 d_PR_init_142 (by decide) (fun hc => absurd hc (nI_ge (a := i) (b := 20) (by omega) (by decide))) (fun _ => ?_)
              refine lv_aload_n S.1 S.2.1 d_PR_init_145 rfl (lv_at hl 1 rfl) ?_
              refine g_get S hO.1 fl_PR_23 (by omega) (k := 0) (fs := fs_PR G (adG G) (s00 0) (t00 0)) (by (repeat (first | rw [vu_s] | rw [vu_n (by omega)] | rw [if_pos (by omega)] | rw [if_neg (by omega)])) <;> rfl) (v := .ref (adG G 3)) rfl d_PR_init_146 ?_
              refine lv_iload_n S.1 S.2.1 d_PR_init_149 rfl (lv_at hl 0 rfl) ?_
              refine z_new (ci := 9) (fs := [.int 0, .int 0, .int 0, .int 0]) S hO rfl in_WV tk_WV kk_PR_21 kn_WV kt_WV (fun j hj => by match j, hj with | 0, _ => rfl | 1, _ => rfl | 2, _ => rfl | 3, _ => rfl | j + 4, hj => exact absurd hj (by show ¬ j + 4 < 4; omega)) ⟨by show 119 + i + 1 ≤ 139; omega, by show 1905 + 4 * i + 4 ≤ 1985; omega⟩ d_PR_init_150 (fun H hO => ?_)
              refine lv_dup S.1 S.2.1 d_PR_init_153 rfl ?_
              refine z_iniN (host := "PlaceRules") (rest := [.ref (adG G (120 + i)), .int (nI i), .ref (adG G 3)]) (k0 := 120 + i) S hO (k_WV_init l G (120 + i) _ vu_s) rfl rfl kc_WV_init kt_WV (gd_2 94 rfl) ki_WV_init rfl ⟨by decide, by decide, by decide⟩ hl.1 (Nat.le_of_ble_eq_true rfl) ⟨(Nat.le_of_ble_eq_true rfl), (Nat.le_of_ble_eq_true rfl)⟩ ⟨by show 119 + i + 1 + 0 ≤ 139; omega, by show 1905 + 4 * i + 4 + 0 ≤ 1985; omega⟩ d_PR_init_154 (fun H locs hO => ?_)
              refine z_aas (k := 3) (k2 := 120 + i) (N := 20) (ci := 9) (t0 := 5) (cA := G.2.1 5) (f := flq G 120 i) (vs := [.int 0, .int 0, .int 0, .int 0]) S hO (by omega) (by rw [if_pos (by omega), vu_n (by omega), vu_s]) rfl (by omega) (by rw [if_neg (by omega)]) rfl (vp_in_nI (by omega) (by decide)) d_PR_init_157 (fun H locs hO => ?_)
              rw [flq_s (by omega)] at hO
              have hO := hO.c (E1 := va_up (fun k => if k < 0 then E k else Ef G k) 3 (.inl (G.2.1 5, 20, .inr (.inr (.inr (.inr (flq G 120 (i + 1)))))))) (fun k hk2 => by
                  by_cases h1 : k = 3
                  · subst h1
                    rw [vu_s, vu_s]
                  · rw [vu_n h1, vu_n h1]
                    by_cases h2 : k < 120 + i
                    · rw [if_pos h2, vu_n (by omega), vu_n h1]
                    · have h3 : k = 120 + i := by omega
                      subst h3
                      rw [if_neg h2]
                      rw [if_neg (by omega)]; exact (ef_WV (by omega)).symm)
              obtain ⟨x_3, ex_3⟩ : ∃ z : Int32, z = (nI i) + 1 := ⟨_, rfl⟩
              refine lv_iinc (v := x_3) (lv' := [(1, .int x_3), (0, .ref (adG G 0))]) S.1 S.2.1 d_PR_init_158 hl (k := 0) rfl (by rw [ex_3]; rfl) (by decide) rfl (fun ls hl => ?_)
              refine lv_goto (tgt := 139) S.1 S.2.1 d_PR_init_161 (by decide) ?_
              obtain rfl : x_3 = nI (i + 1) := by rw [ex_3]; exact nI_1 i
              exact W.widen (by omega) (by show 1905 + 4 * i + 4 + 0 ≤ 1905 + 4 * (i + 1); omega) (ih (i + 1) (by omega) _ _ hO ls hl)
          exact W.widen (Nat.le_of_ble_eq_true rfl) (Nat.le_of_ble_eq_true rfl) (K139 20 0 rfl _ _ hO ls hl)
        | succ r ih =>
          intro i hi H locs hO ls hl
          refine lv_iload_n S.1 S.2.1 d_PR_init_112 rfl (lv_at hl 0 rfl) ?_
          refine lv_bipush (v := 40) S.1 S.2.1 d_PR_init_113 (by decide) ?_
          refine lv_icmp_ge (tgt := 137) S.1 S.2.1 d_PR_init_115 (by decide) (fun hc => absurd hc (nI_ge (a := i) (b := 40) (by omega) (by decide))) (fun _ => ?_)
          refine lv_aload_n S.1 S.2.1 d_PR_init_118 rfl (lv_at hl 1 rfl) ?_
          refine g_get S hO.1 fl_PR_17 (by omega) (k := 0) (fs := fs_PR G (adG G) (s00 0) (t00 0)) (by (repeat (first | rw [vu_s] | rw [vu_n (by omega)] | rw [if_pos (by omega)] | rw [if_neg (by omega)])) <;> rfl) (v := .ref (adG G 2)) rfl d_PR_init_119 ?_
          refine lv_iload_n S.1 S.2.1 d_PR_init_122 rfl (lv_at hl 0 rfl) ?_
          refine z_new (ci := 8) (fs := [.int 0, .int 0, .int 0, .int 0, .int 0, .int 0, .int 0, .int 0, .int 0, .int 0, .int 0]) S hO rfl in_UN tk_UN kk_PR_15 kn_UN kt_UN (fun j hj => by match j, hj with | 0, _ => rfl | 1, _ => rfl | 2, _ => rfl | 3, _ => rfl | 4, _ => rfl | 5, _ => rfl | 6, _ => rfl | 7, _ => rfl | 8, _ => rfl | 9, _ => rfl | 10, _ => rfl | j + 11, hj => exact absurd hj (by show ¬ j + 11 < 11; omega)) ⟨by show 79 + i + 1 ≤ 139; omega, by show 1465 + 11 * i + 11 ≤ 1985; omega⟩ d_PR_init_123 (fun H hO => ?_)
          refine lv_dup S.1 S.2.1 d_PR_init_126 rfl ?_
          refine z_iniN (host := "PlaceRules") (rest := [.ref (adG G (80 + i)), .int (nI i), .ref (adG G 2)]) (k0 := 80 + i) S hO (k_UN_init l G (80 + i) _ vu_s) rfl rfl kc_UN_init kt_UN (gd_2 39 rfl) ki_UN_init rfl ⟨by decide, by decide, by decide⟩ hl.1 (Nat.le_of_ble_eq_true rfl) ⟨(Nat.le_of_ble_eq_true rfl), (Nat.le_of_ble_eq_true rfl)⟩ ⟨by show 79 + i + 1 + 0 ≤ 139; omega, by show 1465 + 11 * i + 11 + 0 ≤ 1985; omega⟩ d_PR_init_127 (fun H locs hO => ?_)
          refine z_aas (k := 2) (k2 := 80 + i) (N := 40) (ci := 8) (t0 := 4) (cA := G.2.1 4) (f := flq G 80 i) (vs := [.int 0, .int 0, .int 0, .int 100, .int 100, .int 100, .int 1000, .int 0, .int 0, .int 1000, .int (-1)]) S hO (by omega) (by rw [if_pos (by omega), vu_n (by omega), vu_s]) rfl (by omega) (by rw [if_neg (by omega)]) rfl (vp_in_nI (by omega) (by decide)) d_PR_init_130 (fun H locs hO => ?_)
          rw [flq_s (by omega)] at hO
          have hO := hO.c (E1 := va_up (va_up (fun k => if k < 0 then E k else Ef G k) 3 (.inl (G.2.1 5, 20, .inr (.inr (.inr (.inr (fun _ => none))))))) 2 (.inl (G.2.1 4, 40, .inr (.inr (.inr (.inr (flq G 80 (i + 1)))))))) (fun k hk2 => by
              by_cases h1 : k = 2
              · subst h1
                rw [vu_s, vu_s]
              · rw [vu_n h1, vu_n h1]
                by_cases h2 : k < 80 + i
                · rw [if_pos h2, vu_n (by omega), vu_n h1]
                · have h3 : k = 80 + i := by omega
                  subst h3
                  rw [if_neg h2]
                  rw [vu_n (by omega), if_neg (by omega)]; exact (ef_UN (by omega)).symm)
          obtain ⟨x_3, ex_3⟩ : ∃ z : Int32, z = (nI i) + 1 := ⟨_, rfl⟩
          refine lv_iinc (v := x_3) (lv' := [(1, .int x_3), (0, .ref (adG G 0))]) S.1 S.2.1 d_PR_init_131 hl (k := 0) rfl (by rw [ex_3]; rfl) (by decide) rfl (fun ls hl => ?_)
          refine lv_goto (tgt := 112) S.1 S.2.1 d_PR_init_134 (by decide) ?_
          obtain rfl : x_3 = nI (i + 1) := by rw [ex_3]; exact nI_1 i
          exact W.widen (by omega) (by show 1465 + 11 * i + 11 + 0 ≤ 1465 + 11 * (i + 1); omega) (ih (i + 1) (by omega) _ _ hO ls hl)
      exact W.widen (Nat.le_of_ble_eq_true rfl) (Nat.le_of_ble_eq_true rfl) (K112 40 0 rfl _ _ hO ls hl)
    | succ r ih =>
      intro i hi H locs hO ls hl
      refine lv_iload_n S.1 S.2.1 d_PR_init_85 rfl (lv_at hl 0 rfl) ?_
      refine lv_bipush (v := 12) S.1 S.2.1 d_PR_init_86 (by decide) ?_
      refine lv_icmp_ge (tgt := 110) S.1 S.2.1 d_PR_init_88 (by decide) (fun hc => absurd hc (nI_ge (a := i) (b := 12) (by omega) (by decide))) (fun _ => ?_)
      refine lv_aload_n S.1 S.2.1 d_PR_init_91 rfl (lv_at hl 1 rfl) ?_
      refine g_get S hO.1 fl_PR_11 (by omega) (k := 0) (fs := fs_PR G (adG G) (s00 0) (t00 0)) (by (repeat (first | rw [vu_s] | rw [vu_n (by omega)] | rw [if_pos (by omega)] | rw [if_neg (by omega)])) <;> rfl) (v := .ref (adG G 1)) rfl d_PR_init_92 ?_
      refine lv_iload_n S.1 S.2.1 d_PR_init_95 rfl (lv_at hl 0 rfl) ?_
      refine z_new (ci := 7) (fs := [.int 0, .int 0, .int 0, .int 0, .int 0]) S hO rfl in_PL tk_PL kk_PR_9 kn_PL kt_PL (fun j hj => by match j, hj with | 0, _ => rfl | 1, _ => rfl | 2, _ => rfl | 3, _ => rfl | 4, _ => rfl | j + 5, hj => exact absurd hj (by show ¬ j + 5 < 5; omega)) ⟨by show 67 + i + 1 ≤ 139; omega, by show 1405 + 5 * i + 5 ≤ 1985; omega⟩ d_PR_init_96 (fun H hO => ?_)
      refine lv_dup S.1 S.2.1 d_PR_init_99 rfl ?_
      refine z_iniN (host := "PlaceRules") (rest := [.ref (adG G (68 + i)), .int (nI i), .ref (adG G 1)]) (k0 := 68 + i) S hO (k_PL_init l G (68 + i) _ vu_s) rfl rfl kc_PL_init kt_PL (gd_2 11 rfl) ki_PL_init rfl ⟨by decide, by decide, by decide⟩ hl.1 (Nat.le_of_ble_eq_true rfl) ⟨(Nat.le_of_ble_eq_true rfl), (Nat.le_of_ble_eq_true rfl)⟩ ⟨by show 67 + i + 1 + 0 ≤ 139; omega, by show 1405 + 5 * i + 5 + 0 ≤ 1985; omega⟩ d_PR_init_100 (fun H locs hO => ?_)
      refine z_aas (k := 1) (k2 := 68 + i) (N := 12) (ci := 7) (t0 := 3) (cA := G.2.1 3) (f := flq G 68 i) (vs := [.int 1000, .int 1000, .int 1000, .int 100000, .int 0]) S hO (by omega) (by rw [if_pos (by omega), vu_n (by omega), vu_s]) rfl (by omega) (by rw [if_neg (by omega)]) rfl (vp_in_nI (by omega) (by decide)) d_PR_init_103 (fun H locs hO => ?_)
      rw [flq_s (by omega)] at hO
      have hO := hO.c (E1 := va_up (va_up (va_up (fun k => if k < 0 then E k else Ef G k) 3 (.inl (G.2.1 5, 20, .inr (.inr (.inr (.inr (fun _ => none))))))) 2 (.inl (G.2.1 4, 40, .inr (.inr (.inr (.inr (fun _ => none))))))) 1 (.inl (G.2.1 3, 12, .inr (.inr (.inr (.inr (flq G 68 (i + 1)))))))) (fun k hk2 => by
          by_cases h1 : k = 1
          · subst h1
            rw [vu_s, vu_s]
          · rw [vu_n h1, vu_n h1]
            by_cases h2 : k < 68 + i
            · rw [if_pos h2, vu_n (by omega), vu_n h1]
            · have h3 : k = 68 + i := by omega
              subst h3
              rw [if_neg h2]
              rw [vu_n (by omega), vu_n (by omega), if_neg (by omega)]; exact (ef_PL (by omega)).symm)
      obtain ⟨x_3, ex_3⟩ : ∃ z : Int32, z = (nI i) + 1 := ⟨_, rfl⟩
      refine lv_iinc (v := x_3) (lv' := [(1, .int x_3), (0, .ref (adG G 0))]) S.1 S.2.1 d_PR_init_104 hl (k := 0) rfl (by rw [ex_3]; rfl) (by decide) rfl (fun ls hl => ?_)
      refine lv_goto (tgt := 85) S.1 S.2.1 d_PR_init_107 (by decide) ?_
      obtain rfl : x_3 = nI (i + 1) := by rw [ex_3]; exact nI_1 i
      exact W.widen (by omega) (by show 1405 + 5 * i + 5 + 0 ≤ 1405 + 5 * (i + 1); omega) (ih (i + 1) (by omega) _ _ hO ls hl)
  exact W.widen (Nat.le_of_ble_eq_true rfl) (Nat.le_of_ble_eq_true rfl) (K85 12 0 rfl _ _ hO ls hl)
section ZIL
variable {p : Program} {l : Launch} {e : Env} {R : Room} {s : State} {m : MethodId} {args : Array Value} {below : List Frame} {meth : Method} {c : Code} {H : Heap} {locs : List Loc} {cells slots : Nat} {Q : State → Prop}
variable {cc : ByteArray} {pc nL : Nat} {ls : Array Slot} {rest : List Value} {own : String} {G : gP} {n : Nat} {E : Nat → va_E}
theorem z_iasl (S : CallFix p m c cc nL s args gts own) {k N j : Nat} {f : Nat → Int32} (hO : gN G n (va_up E k (.inl (G.2.1 0, N, .inl f))) s H locs) (hk : k < n) {i x : Int32} (hi : vp_in i N) (hj : i.toNatClampNeg = j) (hdg : decode cc pc = .ok (.iastore, 1))
    (kk : ∀ (H1 : Heap) (locs1 : List Loc), gN G n (va_up E k (.inl (G.2.1 0, N, .inl (upd f j x)))) s H1 locs1 → W p l e R s m args below meth c H1 locs1 cells slots Q (F0 m (pc + 1) ls rest)) : W p l e R s m args below meth c H locs cells slots Q (F0 m pc ls (.int x :: .int i :: .ref (adG G k) :: rest)) := by
  subst hj
  refine z_ias S hO hk vu_s hi hdg (fun H1 locs1 h => kk H1 locs1 ?_)
  rw [vu_2] at h
  exact h
end ZIL
theorem k_MD_init (l : Launch) (G : gP) (E : Nat → va_E) (hE : E 140 = .inr (10, [.int 0, .null, .int 0, .null, .null, .int 0, .null, .null, .null, .null, .null, .int 0, .null, .null, .null, .null, .null, .int 0, .int 0, .null, .int 0, .null, .int 0, .null, .int 0, .int 0, .int 0, .null])) : gCt l y_MD_init c_MD_init 2 { frames := 1, cells := 17, slots := 1768, locals := 20 } G 140 158 17 1768 E (Ef G) := by
  refine z_of (by decide) rfl (Nat.le_of_ble_eq_true rfl) ?_
  intro p e s m args below meth c ls S hk hr hin hl hO
  refine lv_aload_n S.1 S.2.1 d_MD_init_0 rfl (lv_at hl 0 rfl) ?_
  refine z_obj (rest := []) S km_MD_1 ki_java_lang_Object_init kc_java_lang_Object_init hl.1 (Nat.le_of_ble_eq_true rfl) (Nat.le_of_ble_eq_true rfl) (Nat.le_of_ble_eq_true rfl) d_MD_init_1 ?_
  refine lv_aload_n S.1 S.2.1 d_MD_init_4 rfl (lv_at hl 0 rfl) ?_
  refine lv_bipush (v := 60) S.1 S.2.1 d_MD_init_5 (by decide) ?_
  refine z_newa (N' := 60) (t0 := 0) (a0 := (60, .inl (fun _ => 0))) (atype := .int) (ty := .int) S hO rfl ka_int rfl (fun C h => by cases h) (fun _ => rfl) (by decide) (by decide) (by decide) ⟨(Nat.le_of_ble_eq_true rfl), (Nat.le_of_ble_eq_true rfl)⟩ d_MD_init_7 (fun H hO => ?_)
  refine z_putF (ty0 := ty_MD) (fs := [.int 0, .null, .int 0, .null, .null, .int 0, .null, .null, .null, .null, .null, .int 0, .null, .null, .null, .null, .null, .int 0, .int 0, .null, .int 0, .null, .int 0, .null, .int 0, .int 0, .int 0, .null]) (v := .ref (adG G 141)) S hO hin fl_MD_7 tk_MD nm_MD rfl rfl (Nat.le_of_ble_eq_true rfl) (by (repeat (first | rw [vu_s] | rw [vu_n (by omega)] | rw [if_pos (by omega)] | rw [if_neg (by omega)])) <;> first | rfl | assumption) rfl rfl (Nat.le_of_ble_eq_true rfl) d_MD_init_9 (fun H locs hO => ?_)
  refine lv_aload_n S.1 S.2.1 d_MD_init_12 rfl (lv_at hl 0 rfl) ?_
  refine lv_sipush (v := 400) S.1 S.2.1 d_MD_init_13 (by decide) ?_
  refine z_newa (N' := 400) (t0 := 0) (a0 := (400, .inl (fun _ => 0))) (atype := .int) (ty := .int) S hO rfl ka_int rfl (fun C h => by cases h) (fun _ => rfl) (by decide) (by decide) (by decide) ⟨(Nat.le_of_ble_eq_true rfl), (Nat.le_of_ble_eq_true rfl)⟩ d_MD_init_16 (fun H hO => ?_)
  refine z_putF (ty0 := ty_MD) (fs := [.int 0, .ref (adG G 141), .int 0, .null, .null, .int 0, .null, .null, .null, .null, .null, .int 0, .null, .null, .null, .null, .null, .int 0, .int 0, .null, .int 0, .null, .int 0, .null, .int 0, .int 0, .int 0, .null]) (v := .ref (adG G 142)) S hO hin fl_MD_13 tk_MD nm_MD rfl rfl (Nat.le_of_ble_eq_true rfl) (by (repeat (first | rw [vu_s] | rw [vu_n (by omega)] | rw [if_pos (by omega)] | rw [if_neg (by omega)])) <;> first | rfl | assumption) rfl rfl (Nat.le_of_ble_eq_true rfl) d_MD_init_18 (fun H locs hO => ?_)
  refine lv_aload_n S.1 S.2.1 d_MD_init_21 rfl (lv_at hl 0 rfl) ?_
  refine lv_bipush (v := 40) S.1 S.2.1 d_MD_init_22 (by decide) ?_
  refine z_newa (N' := 40) (t0 := 0) (a0 := (40, .inl (fun _ => 0))) (atype := .int) (ty := .int) S hO rfl ka_int rfl (fun C h => by cases h) (fun _ => rfl) (by decide) (by decide) (by decide) ⟨(Nat.le_of_ble_eq_true rfl), (Nat.le_of_ble_eq_true rfl)⟩ d_MD_init_24 (fun H hO => ?_)
  refine z_putF (ty0 := ty_MD) (fs := [.int 0, .ref (adG G 141), .int 0, .ref (adG G 142), .null, .int 0, .null, .null, .null, .null, .null, .int 0, .null, .null, .null, .null, .null, .int 0, .int 0, .null, .int 0, .null, .int 0, .null, .int 0, .int 0, .int 0, .null]) (v := .ref (adG G 143)) S hO hin fl_MD_16 tk_MD nm_MD rfl rfl (Nat.le_of_ble_eq_true rfl) (by (repeat (first | rw [vu_s] | rw [vu_n (by omega)] | rw [if_pos (by omega)] | rw [if_neg (by omega)])) <;> first | rfl | assumption) rfl rfl (Nat.le_of_ble_eq_true rfl) d_MD_init_26 (fun H locs hO => ?_)
  refine lv_aload_n S.1 S.2.1 d_MD_init_29 rfl (lv_at hl 0 rfl) ?_
  refine lv_bipush (v := 24) S.1 S.2.1 d_MD_init_30 (by decide) ?_
  refine z_newa (N' := 24) (t0 := 0) (a0 := (24, .inl (fun _ => 0))) (atype := .int) (ty := .int) S hO rfl ka_int rfl (fun C h => by cases h) (fun _ => rfl) (by decide) (by decide) (by decide) ⟨(Nat.le_of_ble_eq_true rfl), (Nat.le_of_ble_eq_true rfl)⟩ d_MD_init_32 (fun H hO => ?_)
  refine z_putF (ty0 := ty_MD) (fs := [.int 0, .ref (adG G 141), .int 0, .ref (adG G 142), .ref (adG G 143), .int 0, .null, .null, .null, .null, .null, .int 0, .null, .null, .null, .null, .null, .int 0, .int 0, .null, .int 0, .null, .int 0, .null, .int 0, .int 0, .int 0, .null]) (v := .ref (adG G 144)) S hO hin fl_MD_19 tk_MD nm_MD rfl rfl (Nat.le_of_ble_eq_true rfl) (by (repeat (first | rw [vu_s] | rw [vu_n (by omega)] | rw [if_pos (by omega)] | rw [if_neg (by omega)])) <;> first | rfl | assumption) rfl rfl (Nat.le_of_ble_eq_true rfl) d_MD_init_34 (fun H locs hO => ?_)
  refine lv_aload_n S.1 S.2.1 d_MD_init_37 rfl (lv_at hl 0 rfl) ?_
  refine lv_bipush (v := 24) S.1 S.2.1 d_MD_init_38 (by decide) ?_
  refine z_newa (N' := 24) (t0 := 0) (a0 := (24, .inl (fun _ => 0))) (atype := .int) (ty := .int) S hO rfl ka_int rfl (fun C h => by cases h) (fun _ => rfl) (by decide) (by decide) (by decide) ⟨(Nat.le_of_ble_eq_true rfl), (Nat.le_of_ble_eq_true rfl)⟩ d_MD_init_40 (fun H hO => ?_)
  refine z_putF (ty0 := ty_MD) (fs := [.int 0, .ref (adG G 141), .int 0, .ref (adG G 142), .ref (adG G 143), .int 0, .ref (adG G 144), .null, .null, .null, .null, .int 0, .null, .null, .null, .null, .null, .int 0, .int 0, .null, .int 0, .null, .int 0, .null, .int 0, .int 0, .int 0, .null]) (v := .ref (adG G 145)) S hO hin fl_MD_22 tk_MD nm_MD rfl rfl (Nat.le_of_ble_eq_true rfl) (by (repeat (first | rw [vu_s] | rw [vu_n (by omega)] | rw [if_pos (by omega)] | rw [if_neg (by omega)])) <;> first | rfl | assumption) rfl rfl (Nat.le_of_ble_eq_true rfl) d_MD_init_42 (fun H locs hO => ?_)
  refine lv_aload_n S.1 S.2.1 d_MD_init_45 rfl (lv_at hl 0 rfl) ?_
  refine lv_bipush (v := 24) S.1 S.2.1 d_MD_init_46 (by decide) ?_
  refine z_newa (N' := 24) (t0 := 0) (a0 := (24, .inl (fun _ => 0))) (atype := .int) (ty := .int) S hO rfl ka_int rfl (fun C h => by cases h) (fun _ => rfl) (by decide) (by decide) (by decide) ⟨(Nat.le_of_ble_eq_true rfl), (Nat.le_of_ble_eq_true rfl)⟩ d_MD_init_48 (fun H hO => ?_)
  refine z_putF (ty0 := ty_MD) (fs := [.int 0, .ref (adG G 141), .int 0, .ref (adG G 142), .ref (adG G 143), .int 0, .ref (adG G 144), .ref (adG G 145), .null, .null, .null, .int 0, .null, .null, .null, .null, .null, .int 0, .int 0, .null, .int 0, .null, .int 0, .null, .int 0, .int 0, .int 0, .null]) (v := .ref (adG G 146)) S hO hin fl_MD_25 tk_MD nm_MD rfl rfl (Nat.le_of_ble_eq_true rfl) (by (repeat (first | rw [vu_s] | rw [vu_n (by omega)] | rw [if_pos (by omega)] | rw [if_neg (by omega)])) <;> first | rfl | assumption) rfl rfl (Nat.le_of_ble_eq_true rfl) d_MD_init_50 (fun H locs hO => ?_)
  refine lv_aload_n S.1 S.2.1 d_MD_init_53 rfl (lv_at hl 0 rfl) ?_
  refine lv_bipush (v := 24) S.1 S.2.1 d_MD_init_54 (by decide) ?_
  refine z_newa (N' := 24) (t0 := 0) (a0 := (24, .inl (fun _ => 0))) (atype := .int) (ty := .int) S hO rfl ka_int rfl (fun C h => by cases h) (fun _ => rfl) (by decide) (by decide) (by decide) ⟨(Nat.le_of_ble_eq_true rfl), (Nat.le_of_ble_eq_true rfl)⟩ d_MD_init_56 (fun H hO => ?_)
  refine z_putF (ty0 := ty_MD) (fs := [.int 0, .ref (adG G 141), .int 0, .ref (adG G 142), .ref (adG G 143), .int 0, .ref (adG G 144), .ref (adG G 145), .ref (adG G 146), .null, .null, .int 0, .null, .null, .null, .null, .null, .int 0, .int 0, .null, .int 0, .null, .int 0, .null, .int 0, .int 0, .int 0, .null]) (v := .ref (adG G 147)) S hO hin fl_MD_28 tk_MD nm_MD rfl rfl (Nat.le_of_ble_eq_true rfl) (by (repeat (first | rw [vu_s] | rw [vu_n (by omega)] | rw [if_pos (by omega)] | rw [if_neg (by omega)])) <;> first | rfl | assumption) rfl rfl (Nat.le_of_ble_eq_true rfl) d_MD_init_58 (fun H locs hO => ?_)
  refine lv_aload_n S.1 S.2.1 d_MD_init_61 rfl (lv_at hl 0 rfl) ?_
  refine lv_bipush (v := 24) S.1 S.2.1 d_MD_init_62 (by decide) ?_
  refine z_newa (N' := 24) (t0 := 2) (a0 := (24, .inl (fun _ => 0))) (atype := .boolean) (ty := .boolean) S hO rfl ka_boolean rfl (fun C h => by cases h) (fun _ => rfl) (by decide) (by decide) (by decide) ⟨(Nat.le_of_ble_eq_true rfl), (Nat.le_of_ble_eq_true rfl)⟩ d_MD_init_64 (fun H hO => ?_)
  refine z_putF (ty0 := ty_MD) (fs := [.int 0, .ref (adG G 141), .int 0, .ref (adG G 142), .ref (adG G 143), .int 0, .ref (adG G 144), .ref (adG G 145), .ref (adG G 146), .ref (adG G 147), .null, .int 0, .null, .null, .null, .null, .null, .int 0, .int 0, .null, .int 0, .null, .int 0, .null, .int 0, .int 0, .int 0, .null]) (v := .ref (adG G 148)) S hO hin fl_MD_31 tk_MD nm_MD rfl rfl (Nat.le_of_ble_eq_true rfl) (by (repeat (first | rw [vu_s] | rw [vu_n (by omega)] | rw [if_pos (by omega)] | rw [if_neg (by omega)])) <;> first | rfl | assumption) rfl rfl (Nat.le_of_ble_eq_true rfl) d_MD_init_66 (fun H locs hO => ?_)
  refine lv_aload_n S.1 S.2.1 d_MD_init_69 rfl (lv_at hl 0 rfl) ?_
  refine lv_bipush (v := 20) S.1 S.2.1 d_MD_init_70 (by decide) ?_
  refine z_newa (N' := 20) (t0 := 0) (a0 := (20, .inl (fun _ => 0))) (atype := .int) (ty := .int) S hO rfl ka_int rfl (fun C h => by cases h) (fun _ => rfl) (by decide) (by decide) (by decide) ⟨(Nat.le_of_ble_eq_true rfl), (Nat.le_of_ble_eq_true rfl)⟩ d_MD_init_72 (fun H hO => ?_)
  refine z_putF (ty0 := ty_MD) (fs := [.int 0, .ref (adG G 141), .int 0, .ref (adG G 142), .ref (adG G 143), .int 0, .ref (adG G 144), .ref (adG G 145), .ref (adG G 146), .ref (adG G 147), .ref (adG G 148), .int 0, .null, .null, .null, .null, .null, .int 0, .int 0, .null, .int 0, .null, .int 0, .null, .int 0, .int 0, .int 0, .null]) (v := .ref (adG G 149)) S hO hin fl_MD_35 tk_MD nm_MD rfl rfl (Nat.le_of_ble_eq_true rfl) (by (repeat (first | rw [vu_s] | rw [vu_n (by omega)] | rw [if_pos (by omega)] | rw [if_neg (by omega)])) <;> first | rfl | assumption) rfl rfl (Nat.le_of_ble_eq_true rfl) d_MD_init_74 (fun H locs hO => ?_)
  refine lv_aload_n S.1 S.2.1 d_MD_init_77 rfl (lv_at hl 0 rfl) ?_
  refine lv_bipush (v := 20) S.1 S.2.1 d_MD_init_78 (by decide) ?_
  refine z_newa (N' := 20) (t0 := 0) (a0 := (20, .inl (fun _ => 0))) (atype := .int) (ty := .int) S hO rfl ka_int rfl (fun C h => by cases h) (fun _ => rfl) (by decide) (by decide) (by decide) ⟨(Nat.le_of_ble_eq_true rfl), (Nat.le_of_ble_eq_true rfl)⟩ d_MD_init_80 (fun H hO => ?_)
  refine z_putF (ty0 := ty_MD) (fs := [.int 0, .ref (adG G 141), .int 0, .ref (adG G 142), .ref (adG G 143), .int 0, .ref (adG G 144), .ref (adG G 145), .ref (adG G 146), .ref (adG G 147), .ref (adG G 148), .int 0, .ref (adG G 149), .null, .null, .null, .null, .int 0, .int 0, .null, .int 0, .null, .int 0, .null, .int 0, .int 0, .int 0, .null]) (v := .ref (adG G 150)) S hO hin fl_MD_38 tk_MD nm_MD rfl rfl (Nat.le_of_ble_eq_true rfl) (by (repeat (first | rw [vu_s] | rw [vu_n (by omega)] | rw [if_pos (by omega)] | rw [if_neg (by omega)])) <;> first | rfl | assumption) rfl rfl (Nat.le_of_ble_eq_true rfl) d_MD_init_82 (fun H locs hO => ?_)
  refine lv_aload_n S.1 S.2.1 d_MD_init_85 rfl (lv_at hl 0 rfl) ?_
  refine lv_bipush (v := 20) S.1 S.2.1 d_MD_init_86 (by decide) ?_
  refine z_newa (N' := 20) (t0 := 0) (a0 := (20, .inl (fun _ => 0))) (atype := .int) (ty := .int) S hO rfl ka_int rfl (fun C h => by cases h) (fun _ => rfl) (by decide) (by decide) (by decide) ⟨(Nat.le_of_ble_eq_true rfl), (Nat.le_of_ble_eq_true rfl)⟩ d_MD_init_88 (fun H hO => ?_)
  refine z_putF (ty0 := ty_MD) (fs := [.int 0, .ref (adG G 141), .int 0, .ref (adG G 142), .ref (adG G 143), .int 0, .ref (adG G 144), .ref (adG G 145), .ref (adG G 146), .ref (adG G 147), .ref (adG G 148), .int 0, .ref (adG G 149), .ref (adG G 150), .null, .null, .null, .int 0, .int 0, .null, .int 0, .null, .int 0, .null, .int 0, .int 0, .int 0, .null]) (v := .ref (adG G 151)) S hO hin fl_MD_41 tk_MD nm_MD rfl rfl (Nat.le_of_ble_eq_true rfl) (by (repeat (first | rw [vu_s] | rw [vu_n (by omega)] | rw [if_pos (by omega)] | rw [if_neg (by omega)])) <;> first | rfl | assumption) rfl rfl (Nat.le_of_ble_eq_true rfl) d_MD_init_90 (fun H locs hO => ?_)
  refine lv_aload_n S.1 S.2.1 d_MD_init_93 rfl (lv_at hl 0 rfl) ?_
  refine lv_bipush (v := 20) S.1 S.2.1 d_MD_init_94 (by decide) ?_
  refine z_newa (N' := 20) (t0 := 0) (a0 := (20, .inl (fun _ => 0))) (atype := .int) (ty := .int) S hO rfl ka_int rfl (fun C h => by cases h) (fun _ => rfl) (by decide) (by decide) (by decide) ⟨(Nat.le_of_ble_eq_true rfl), (Nat.le_of_ble_eq_true rfl)⟩ d_MD_init_96 (fun H hO => ?_)
  refine z_putF (ty0 := ty_MD) (fs := [.int 0, .ref (adG G 141), .int 0, .ref (adG G 142), .ref (adG G 143), .int 0, .ref (adG G 144), .ref (adG G 145), .ref (adG G 146), .ref (adG G 147), .ref (adG G 148), .int 0, .ref (adG G 149), .ref (adG G 150), .ref (adG G 151), .null, .null, .int 0, .int 0, .null, .int 0, .null, .int 0, .null, .int 0, .int 0, .int 0, .null]) (v := .ref (adG G 152)) S hO hin fl_MD_44 tk_MD nm_MD rfl rfl (Nat.le_of_ble_eq_true rfl) (by (repeat (first | rw [vu_s] | rw [vu_n (by omega)] | rw [if_pos (by omega)] | rw [if_neg (by omega)])) <;> first | rfl | assumption) rfl rfl (Nat.le_of_ble_eq_true rfl) d_MD_init_98 (fun H locs hO => ?_)
  refine lv_aload_n S.1 S.2.1 d_MD_init_101 rfl (lv_at hl 0 rfl) ?_
  refine lv_iconst (v := 4) S.1 S.2.1 d_MD_init_102 (by decide) ?_
  refine z_newa (N' := 4) (t0 := 0) (a0 := (4, .inl (fun _ => 0))) (atype := .int) (ty := .int) S hO rfl ka_int rfl (fun C h => by cases h) (fun _ => rfl) (by decide) (by decide) (by decide) ⟨(Nat.le_of_ble_eq_true rfl), (Nat.le_of_ble_eq_true rfl)⟩ d_MD_init_103 (fun H hO => ?_)
  refine z_putF (ty0 := ty_MD) (fs := [.int 0, .ref (adG G 141), .int 0, .ref (adG G 142), .ref (adG G 143), .int 0, .ref (adG G 144), .ref (adG G 145), .ref (adG G 146), .ref (adG G 147), .ref (adG G 148), .int 0, .ref (adG G 149), .ref (adG G 150), .ref (adG G 151), .ref (adG G 152), .null, .int 0, .int 0, .null, .int 0, .null, .int 0, .null, .int 0, .int 0, .int 0, .null]) (v := .ref (adG G 153)) S hO hin fl_MD_47 tk_MD nm_MD rfl rfl (Nat.le_of_ble_eq_true rfl) (by (repeat (first | rw [vu_s] | rw [vu_n (by omega)] | rw [if_pos (by omega)] | rw [if_neg (by omega)])) <;> first | rfl | assumption) rfl rfl (Nat.le_of_ble_eq_true rfl) d_MD_init_105 (fun H locs hO => ?_)
  refine lv_aload_n S.1 S.2.1 d_MD_init_108 rfl (lv_at hl 0 rfl) ?_
  refine lv_sipush (v := 552) S.1 S.2.1 d_MD_init_109 (by decide) ?_
  refine z_newa (N' := 552) (t0 := 0) (a0 := (552, .inl (fun _ => 0))) (atype := .int) (ty := .int) S hO rfl ka_int rfl (fun C h => by cases h) (fun _ => rfl) (by decide) (by decide) (by decide) ⟨(Nat.le_of_ble_eq_true rfl), (Nat.le_of_ble_eq_true rfl)⟩ d_MD_init_112 (fun H hO => ?_)
  refine z_putF (ty0 := ty_MD) (fs := [.int 0, .ref (adG G 141), .int 0, .ref (adG G 142), .ref (adG G 143), .int 0, .ref (adG G 144), .ref (adG G 145), .ref (adG G 146), .ref (adG G 147), .ref (adG G 148), .int 0, .ref (adG G 149), .ref (adG G 150), .ref (adG G 151), .ref (adG G 152), .ref (adG G 153), .int 0, .int 0, .null, .int 0, .null, .int 0, .null, .int 0, .int 0, .int 0, .null]) (v := .ref (adG G 154)) S hO hin fl_MD_50 tk_MD nm_MD rfl rfl (Nat.le_of_ble_eq_true rfl) (by (repeat (first | rw [vu_s] | rw [vu_n (by omega)] | rw [if_pos (by omega)] | rw [if_neg (by omega)])) <;> first | rfl | assumption) rfl rfl (Nat.le_of_ble_eq_true rfl) d_MD_init_114 (fun H locs hO => ?_)
  refine lv_aload_n S.1 S.2.1 d_MD_init_117 rfl (lv_at hl 0 rfl) ?_
  refine lv_bipush (v := 24) S.1 S.2.1 d_MD_init_118 (by decide) ?_
  refine z_newa (N' := 24) (t0 := 0) (a0 := (24, .inl (fun _ => 0))) (atype := .int) (ty := .int) S hO rfl ka_int rfl (fun C h => by cases h) (fun _ => rfl) (by decide) (by decide) (by decide) ⟨(Nat.le_of_ble_eq_true rfl), (Nat.le_of_ble_eq_true rfl)⟩ d_MD_init_120 (fun H hO => ?_)
  refine z_putF (ty0 := ty_MD) (fs := [.int 0, .ref (adG G 141), .int 0, .ref (adG G 142), .ref (adG G 143), .int 0, .ref (adG G 144), .ref (adG G 145), .ref (adG G 146), .ref (adG G 147), .ref (adG G 148), .int 0, .ref (adG G 149), .ref (adG G 150), .ref (adG G 151), .ref (adG G 152), .ref (adG G 153), .int 0, .int 0, .ref (adG G 154), .int 0, .null, .int 0, .null, .int 0, .int 0, .int 0, .null]) (v := .ref (adG G 155)) S hO hin fl_MD_53 tk_MD nm_MD rfl rfl (Nat.le_of_ble_eq_true rfl) (by (repeat (first | rw [vu_s] | rw [vu_n (by omega)] | rw [if_pos (by omega)] | rw [if_neg (by omega)])) <;> first | rfl | assumption) rfl rfl (Nat.le_of_ble_eq_true rfl) d_MD_init_122 (fun H locs hO => ?_)
  refine lv_aload_n S.1 S.2.1 d_MD_init_125 rfl (lv_at hl 0 rfl) ?_
  refine lv_sipush (v := 400) S.1 S.2.1 d_MD_init_126 (by decide) ?_
  refine z_newa (N' := 400) (t0 := 0) (a0 := (400, .inl (fun _ => 0))) (atype := .int) (ty := .int) S hO rfl ka_int rfl (fun C h => by cases h) (fun _ => rfl) (by decide) (by decide) (by decide) ⟨(Nat.le_of_ble_eq_true rfl), (Nat.le_of_ble_eq_true rfl)⟩ d_MD_init_129 (fun H hO => ?_)
  refine z_putF (ty0 := ty_MD) (fs := [.int 0, .ref (adG G 141), .int 0, .ref (adG G 142), .ref (adG G 143), .int 0, .ref (adG G 144), .ref (adG G 145), .ref (adG G 146), .ref (adG G 147), .ref (adG G 148), .int 0, .ref (adG G 149), .ref (adG G 150), .ref (adG G 151), .ref (adG G 152), .ref (adG G 153), .int 0, .int 0, .ref (adG G 154), .int 0, .ref (adG G 155), .int 0, .null, .int 0, .int 0, .int 0, .null]) (v := .ref (adG G 156)) S hO hin fl_MD_56 tk_MD nm_MD rfl rfl (Nat.le_of_ble_eq_true rfl) (by (repeat (first | rw [vu_s] | rw [vu_n (by omega)] | rw [if_pos (by omega)] | rw [if_neg (by omega)])) <;> first | rfl | assumption) rfl rfl (Nat.le_of_ble_eq_true rfl) d_MD_init_131 (fun H locs hO => ?_)
  refine lv_aload_n S.1 S.2.1 d_MD_init_134 rfl (lv_at hl 0 rfl) ?_
  refine lv_bipush (v := 88) S.1 S.2.1 d_MD_init_135 (by decide) ?_
  refine z_newa (N' := 88) (t0 := 0) (a0 := (88, .inl (fun _ => 0))) (atype := .int) (ty := .int) S hO rfl ka_int rfl (fun C h => by cases h) (fun _ => rfl) (by decide) (by decide) (by decide) ⟨(Nat.le_of_ble_eq_true rfl), (Nat.le_of_ble_eq_true rfl)⟩ d_MD_init_137 (fun H hO => ?_)
  refine lv_dup S.1 S.2.1 d_MD_init_139 rfl ?_
  refine lv_iconst (v := 0) S.1 S.2.1 d_MD_init_140 (by decide) ?_
  refine lv_bipush (v := 115) S.1 S.2.1 d_MD_init_141 (by decide) ?_
  refine z_iasl (j := 0) S hO (Nat.le_of_ble_eq_true rfl) (vp_in_nI (n := 0) (by decide) (by decide)) rfl d_MD_init_143 (fun H locs hO => ?_)
  refine lv_dup S.1 S.2.1 d_MD_init_144 rfl ?_
  refine lv_iconst (v := 1) S.1 S.2.1 d_MD_init_145 (by decide) ?_
  refine lv_bipush (v := 105) S.1 S.2.1 d_MD_init_146 (by decide) ?_
  refine z_iasl (j := 1) S hO (Nat.le_of_ble_eq_true rfl) (vp_in_nI (n := 1) (by decide) (by decide)) rfl d_MD_init_148 (fun H locs hO => ?_)
  refine lv_dup S.1 S.2.1 d_MD_init_149 rfl ?_
  refine lv_iconst (v := 2) S.1 S.2.1 d_MD_init_150 (by decide) ?_
  refine lv_bipush (v := 122) S.1 S.2.1 d_MD_init_151 (by decide) ?_
  refine z_iasl (j := 2) S hO (Nat.le_of_ble_eq_true rfl) (vp_in_nI (n := 2) (by decide) (by decide)) rfl d_MD_init_153 (fun H locs hO => ?_)
  refine lv_dup S.1 S.2.1 d_MD_init_154 rfl ?_
  refine lv_iconst (v := 3) S.1 S.2.1 d_MD_init_155 (by decide) ?_
  refine lv_bipush (v := 101) S.1 S.2.1 d_MD_init_156 (by decide) ?_
  refine z_iasl (j := 3) S hO (Nat.le_of_ble_eq_true rfl) (vp_in_nI (n := 3) (by decide) (by decide)) rfl d_MD_init_158 (fun H locs hO => ?_)
  refine lv_dup S.1 S.2.1 d_MD_init_159 rfl ?_
  refine lv_iconst (v := 4) S.1 S.2.1 d_MD_init_160 (by decide) ?_
  refine lv_iconst (v := 0) S.1 S.2.1 d_MD_init_161 (by decide) ?_
  refine z_iasl (j := 4) S hO (Nat.le_of_ble_eq_true rfl) (vp_in_nI (n := 4) (by decide) (by decide)) rfl d_MD_init_162 (fun H locs hO => ?_)
  refine lv_dup S.1 S.2.1 d_MD_init_163 rfl ?_
  refine lv_iconst (v := 5) S.1 S.2.1 d_MD_init_164 (by decide) ?_
  refine lv_iconst (v := 0) S.1 S.2.1 d_MD_init_165 (by decide) ?_
  refine z_iasl (j := 5) S hO (Nat.le_of_ble_eq_true rfl) (vp_in_nI (n := 5) (by decide) (by decide)) rfl d_MD_init_166 (fun H locs hO => ?_)
  refine lv_dup S.1 S.2.1 d_MD_init_167 rfl ?_
  refine lv_bipush (v := 6) S.1 S.2.1 d_MD_init_168 (by decide) ?_
  refine lv_iconst (v := 0) S.1 S.2.1 d_MD_init_170 (by decide) ?_
  refine z_iasl (j := 6) S hO (Nat.le_of_ble_eq_true rfl) (vp_in_nI (n := 6) (by decide) (by decide)) rfl d_MD_init_171 (fun H locs hO => ?_)
  refine lv_dup S.1 S.2.1 d_MD_init_172 rfl ?_
  refine lv_bipush (v := 7) S.1 S.2.1 d_MD_init_173 (by decide) ?_
  refine lv_iconst (v := 0) S.1 S.2.1 d_MD_init_175 (by decide) ?_
  refine z_iasl (j := 7) S hO (Nat.le_of_ble_eq_true rfl) (vp_in_nI (n := 7) (by decide) (by decide)) rfl d_MD_init_176 (fun H locs hO => ?_)
  refine lv_dup S.1 S.2.1 d_MD_init_177 rfl ?_
  refine lv_bipush (v := 8) S.1 S.2.1 d_MD_init_178 (by decide) ?_
  refine lv_bipush (v := 119) S.1 S.2.1 d_MD_init_180 (by decide) ?_
  refine z_iasl (j := 8) S hO (Nat.le_of_ble_eq_true rfl) (vp_in_nI (n := 8) (by decide) (by decide)) rfl d_MD_init_182 (fun H locs hO => ?_)
  refine lv_dup S.1 S.2.1 d_MD_init_183 rfl ?_
  refine lv_bipush (v := 9) S.1 S.2.1 d_MD_init_184 (by decide) ?_
  refine lv_bipush (v := 101) S.1 S.2.1 d_MD_init_186 (by decide) ?_
  refine z_iasl (j := 9) S hO (Nat.le_of_ble_eq_true rfl) (vp_in_nI (n := 9) (by decide) (by decide)) rfl d_MD_init_188 (fun H locs hO => ?_)
  refine lv_dup S.1 S.2.1 d_MD_init_189 rfl ?_
  refine lv_bipush (v := 10) S.1 S.2.1 d_MD_init_190 (by decide) ?_
  refine lv_bipush (v := 105) S.1 S.2.1 d_MD_init_192 (by decide) ?_
  refine z_iasl (j := 10) S hO (Nat.le_of_ble_eq_true rfl) (vp_in_nI (n := 10) (by decide) (by decide)) rfl d_MD_init_194 (fun H locs hO => ?_)
  refine lv_dup S.1 S.2.1 d_MD_init_195 rfl ?_
  refine lv_bipush (v := 11) S.1 S.2.1 d_MD_init_196 (by decide) ?_
  refine lv_bipush (v := 103) S.1 S.2.1 d_MD_init_198 (by decide) ?_
  refine z_iasl (j := 11) S hO (Nat.le_of_ble_eq_true rfl) (vp_in_nI (n := 11) (by decide) (by decide)) rfl d_MD_init_200 (fun H locs hO => ?_)
  refine lv_dup S.1 S.2.1 d_MD_init_201 rfl ?_
  refine lv_bipush (v := 12) S.1 S.2.1 d_MD_init_202 (by decide) ?_
  refine lv_bipush (v := 104) S.1 S.2.1 d_MD_init_204 (by decide) ?_
  refine z_iasl (j := 12) S hO (Nat.le_of_ble_eq_true rfl) (vp_in_nI (n := 12) (by decide) (by decide)) rfl d_MD_init_206 (fun H locs hO => ?_)
  refine lv_dup S.1 S.2.1 d_MD_init_207 rfl ?_
  refine lv_bipush (v := 13) S.1 S.2.1 d_MD_init_208 (by decide) ?_
  refine lv_bipush (v := 116) S.1 S.2.1 d_MD_init_210 (by decide) ?_
  refine z_iasl (j := 13) S hO (Nat.le_of_ble_eq_true rfl) (vp_in_nI (n := 13) (by decide) (by decide)) rfl d_MD_init_212 (fun H locs hO => ?_)
  refine lv_dup S.1 S.2.1 d_MD_init_213 rfl ?_
  refine lv_bipush (v := 14) S.1 S.2.1 d_MD_init_214 (by decide) ?_
  refine lv_iconst (v := 0) S.1 S.2.1 d_MD_init_216 (by decide) ?_
  refine z_iasl (j := 14) S hO (Nat.le_of_ble_eq_true rfl) (vp_in_nI (n := 14) (by decide) (by decide)) rfl d_MD_init_217 (fun H locs hO => ?_)
  refine lv_dup S.1 S.2.1 d_MD_init_218 rfl ?_
  refine lv_bipush (v := 15) S.1 S.2.1 d_MD_init_219 (by decide) ?_
  refine lv_iconst (v := 0) S.1 S.2.1 d_MD_init_221 (by decide) ?_
  refine z_iasl (j := 15) S hO (Nat.le_of_ble_eq_true rfl) (vp_in_nI (n := 15) (by decide) (by decide)) rfl d_MD_init_222 (fun H locs hO => ?_)
  refine lv_dup S.1 S.2.1 d_MD_init_223 rfl ?_
  refine lv_bipush (v := 16) S.1 S.2.1 d_MD_init_224 (by decide) ?_
  refine lv_bipush (v := 103) S.1 S.2.1 d_MD_init_226 (by decide) ?_
  refine z_iasl (j := 16) S hO (Nat.le_of_ble_eq_true rfl) (vp_in_nI (n := 16) (by decide) (by decide)) rfl d_MD_init_228 (fun H locs hO => ?_)
  refine lv_dup S.1 S.2.1 d_MD_init_229 rfl ?_
  refine lv_bipush (v := 17) S.1 S.2.1 d_MD_init_230 (by decide) ?_
  refine lv_bipush (v := 111) S.1 S.2.1 d_MD_init_232 (by decide) ?_
  refine z_iasl (j := 17) S hO (Nat.le_of_ble_eq_true rfl) (vp_in_nI (n := 17) (by decide) (by decide)) rfl d_MD_init_234 (fun H locs hO => ?_)
  refine lv_dup S.1 S.2.1 d_MD_init_235 rfl ?_
  refine lv_bipush (v := 18) S.1 S.2.1 d_MD_init_236 (by decide) ?_
  refine lv_bipush (v := 111) S.1 S.2.1 d_MD_init_238 (by decide) ?_
  refine z_iasl (j := 18) S hO (Nat.le_of_ble_eq_true rfl) (vp_in_nI (n := 18) (by decide) (by decide)) rfl d_MD_init_240 (fun H locs hO => ?_)
  refine lv_dup S.1 S.2.1 d_MD_init_241 rfl ?_
  refine lv_bipush (v := 19) S.1 S.2.1 d_MD_init_242 (by decide) ?_
  refine lv_bipush (v := 100) S.1 S.2.1 d_MD_init_244 (by decide) ?_
  refine z_iasl (j := 19) S hO (Nat.le_of_ble_eq_true rfl) (vp_in_nI (n := 19) (by decide) (by decide)) rfl d_MD_init_246 (fun H locs hO => ?_)
  refine lv_dup S.1 S.2.1 d_MD_init_247 rfl ?_
  refine lv_bipush (v := 20) S.1 S.2.1 d_MD_init_248 (by decide) ?_
  refine lv_bipush (v := 115) S.1 S.2.1 d_MD_init_250 (by decide) ?_
  refine z_iasl (j := 20) S hO (Nat.le_of_ble_eq_true rfl) (vp_in_nI (n := 20) (by decide) (by decide)) rfl d_MD_init_252 (fun H locs hO => ?_)
  refine lv_dup S.1 S.2.1 d_MD_init_253 rfl ?_
  refine lv_bipush (v := 21) S.1 S.2.1 d_MD_init_254 (by decide) ?_
  refine lv_iconst (v := 0) S.1 S.2.1 d_MD_init_256 (by decide) ?_
  refine z_iasl (j := 21) S hO (Nat.le_of_ble_eq_true rfl) (vp_in_nI (n := 21) (by decide) (by decide)) rfl d_MD_init_257 (fun H locs hO => ?_)
  refine lv_dup S.1 S.2.1 d_MD_init_258 rfl ?_
  refine lv_bipush (v := 22) S.1 S.2.1 d_MD_init_259 (by decide) ?_
  refine lv_iconst (v := 0) S.1 S.2.1 d_MD_init_261 (by decide) ?_
  refine z_iasl (j := 22) S hO (Nat.le_of_ble_eq_true rfl) (vp_in_nI (n := 22) (by decide) (by decide)) rfl d_MD_init_262 (fun H locs hO => ?_)
  refine lv_dup S.1 S.2.1 d_MD_init_263 rfl ?_
  refine lv_bipush (v := 23) S.1 S.2.1 d_MD_init_264 (by decide) ?_
  refine lv_iconst (v := 0) S.1 S.2.1 d_MD_init_266 (by decide) ?_
  refine z_iasl (j := 23) S hO (Nat.le_of_ble_eq_true rfl) (vp_in_nI (n := 23) (by decide) (by decide)) rfl d_MD_init_267 (fun H locs hO => ?_)
  refine lv_dup S.1 S.2.1 d_MD_init_268 rfl ?_
  refine lv_bipush (v := 24) S.1 S.2.1 d_MD_init_269 (by decide) ?_
  refine lv_bipush (v := 108) S.1 S.2.1 d_MD_init_271 (by decide) ?_
  refine z_iasl (j := 24) S hO (Nat.le_of_ble_eq_true rfl) (vp_in_nI (n := 24) (by decide) (by decide)) rfl d_MD_init_273 (fun H locs hO => ?_)
  refine lv_dup S.1 S.2.1 d_MD_init_274 rfl ?_
  refine lv_bipush (v := 25) S.1 S.2.1 d_MD_init_275 (by decide) ?_
  refine lv_bipush (v := 111) S.1 S.2.1 d_MD_init_277 (by decide) ?_
  refine z_iasl (j := 25) S hO (Nat.le_of_ble_eq_true rfl) (vp_in_nI (n := 25) (by decide) (by decide)) rfl d_MD_init_279 (fun H locs hO => ?_)
  refine lv_dup S.1 S.2.1 d_MD_init_280 rfl ?_
  refine lv_bipush (v := 26) S.1 S.2.1 d_MD_init_281 (by decide) ?_
  refine lv_bipush (v := 116) S.1 S.2.1 d_MD_init_283 (by decide) ?_
  refine z_iasl (j := 26) S hO (Nat.le_of_ble_eq_true rfl) (vp_in_nI (n := 26) (by decide) (by decide)) rfl d_MD_init_285 (fun H locs hO => ?_)
  refine lv_dup S.1 S.2.1 d_MD_init_286 rfl ?_
  refine lv_bipush (v := 27) S.1 S.2.1 d_MD_init_287 (by decide) ?_
  refine lv_bipush (v := 115) S.1 S.2.1 d_MD_init_289 (by decide) ?_
  refine z_iasl (j := 27) S hO (Nat.le_of_ble_eq_true rfl) (vp_in_nI (n := 27) (by decide) (by decide)) rfl d_MD_init_291 (fun H locs hO => ?_)
  refine lv_dup S.1 S.2.1 d_MD_init_292 rfl ?_
  refine lv_bipush (v := 28) S.1 S.2.1 d_MD_init_293 (by decide) ?_
  refine lv_iconst (v := 0) S.1 S.2.1 d_MD_init_295 (by decide) ?_
  refine z_iasl (j := 28) S hO (Nat.le_of_ble_eq_true rfl) (vp_in_nI (n := 28) (by decide) (by decide)) rfl d_MD_init_296 (fun H locs hO => ?_)
  refine lv_dup S.1 S.2.1 d_MD_init_297 rfl ?_
  refine lv_bipush (v := 29) S.1 S.2.1 d_MD_init_298 (by decide) ?_
  refine lv_iconst (v := 0) S.1 S.2.1 d_MD_init_300 (by decide) ?_
  refine z_iasl (j := 29) S hO (Nat.le_of_ble_eq_true rfl) (vp_in_nI (n := 29) (by decide) (by decide)) rfl d_MD_init_301 (fun H locs hO => ?_)
  refine lv_dup S.1 S.2.1 d_MD_init_302 rfl ?_
  refine lv_bipush (v := 30) S.1 S.2.1 d_MD_init_303 (by decide) ?_
  refine lv_iconst (v := 0) S.1 S.2.1 d_MD_init_305 (by decide) ?_
  refine z_iasl (j := 30) S hO (Nat.le_of_ble_eq_true rfl) (vp_in_nI (n := 30) (by decide) (by decide)) rfl d_MD_init_306 (fun H locs hO => ?_)
  refine lv_dup S.1 S.2.1 d_MD_init_307 rfl ?_
  refine lv_bipush (v := 31) S.1 S.2.1 d_MD_init_308 (by decide) ?_
  refine lv_iconst (v := 0) S.1 S.2.1 d_MD_init_310 (by decide) ?_
  refine z_iasl (j := 31) S hO (Nat.le_of_ble_eq_true rfl) (vp_in_nI (n := 31) (by decide) (by decide)) rfl d_MD_init_311 (fun H locs hO => ?_)
  refine lv_dup S.1 S.2.1 d_MD_init_312 rfl ?_
  refine lv_bipush (v := 32) S.1 S.2.1 d_MD_init_313 (by decide) ?_
  refine lv_bipush (v := 111) S.1 S.2.1 d_MD_init_315 (by decide) ?_
  refine z_iasl (j := 32) S hO (Nat.le_of_ble_eq_true rfl) (vp_in_nI (n := 32) (by decide) (by decide)) rfl d_MD_init_317 (fun H locs hO => ?_)
  refine lv_dup S.1 S.2.1 d_MD_init_318 rfl ?_
  refine lv_bipush (v := 33) S.1 S.2.1 d_MD_init_319 (by decide) ?_
  refine lv_bipush (v := 119) S.1 S.2.1 d_MD_init_321 (by decide) ?_
  refine z_iasl (j := 33) S hO (Nat.le_of_ble_eq_true rfl) (vp_in_nI (n := 33) (by decide) (by decide)) rfl d_MD_init_323 (fun H locs hO => ?_)
  refine lv_dup S.1 S.2.1 d_MD_init_324 rfl ?_
  refine lv_bipush (v := 34) S.1 S.2.1 d_MD_init_325 (by decide) ?_
  refine lv_bipush (v := 110) S.1 S.2.1 d_MD_init_327 (by decide) ?_
  refine z_iasl (j := 34) S hO (Nat.le_of_ble_eq_true rfl) (vp_in_nI (n := 34) (by decide) (by decide)) rfl d_MD_init_329 (fun H locs hO => ?_)
  refine lv_dup S.1 S.2.1 d_MD_init_330 rfl ?_
  refine lv_bipush (v := 35) S.1 S.2.1 d_MD_init_331 (by decide) ?_
  refine lv_bipush (v := 101) S.1 S.2.1 d_MD_init_333 (by decide) ?_
  refine z_iasl (j := 35) S hO (Nat.le_of_ble_eq_true rfl) (vp_in_nI (n := 35) (by decide) (by decide)) rfl d_MD_init_335 (fun H locs hO => ?_)
  refine lv_dup S.1 S.2.1 d_MD_init_336 rfl ?_
  refine lv_bipush (v := 36) S.1 S.2.1 d_MD_init_337 (by decide) ?_
  refine lv_bipush (v := 114) S.1 S.2.1 d_MD_init_339 (by decide) ?_
  refine z_iasl (j := 36) S hO (Nat.le_of_ble_eq_true rfl) (vp_in_nI (n := 36) (by decide) (by decide)) rfl d_MD_init_341 (fun H locs hO => ?_)
  refine lv_dup S.1 S.2.1 d_MD_init_342 rfl ?_
  refine lv_bipush (v := 37) S.1 S.2.1 d_MD_init_343 (by decide) ?_
  refine lv_bipush (v := 115) S.1 S.2.1 d_MD_init_345 (by decide) ?_
  refine z_iasl (j := 37) S hO (Nat.le_of_ble_eq_true rfl) (vp_in_nI (n := 37) (by decide) (by decide)) rfl d_MD_init_347 (fun H locs hO => ?_)
  refine lv_dup S.1 S.2.1 d_MD_init_348 rfl ?_
  refine lv_bipush (v := 38) S.1 S.2.1 d_MD_init_349 (by decide) ?_
  refine lv_iconst (v := 0) S.1 S.2.1 d_MD_init_351 (by decide) ?_
  refine z_iasl (j := 38) S hO (Nat.le_of_ble_eq_true rfl) (vp_in_nI (n := 38) (by decide) (by decide)) rfl d_MD_init_352 (fun H locs hO => ?_)
  refine lv_dup S.1 S.2.1 d_MD_init_353 rfl ?_
  refine lv_bipush (v := 39) S.1 S.2.1 d_MD_init_354 (by decide) ?_
  refine lv_iconst (v := 0) S.1 S.2.1 d_MD_init_356 (by decide) ?_
  refine z_iasl (j := 39) S hO (Nat.le_of_ble_eq_true rfl) (vp_in_nI (n := 39) (by decide) (by decide)) rfl d_MD_init_357 (fun H locs hO => ?_)
  refine lv_dup S.1 S.2.1 d_MD_init_358 rfl ?_
  refine lv_bipush (v := 40) S.1 S.2.1 d_MD_init_359 (by decide) ?_
  refine lv_bipush (v := 104) S.1 S.2.1 d_MD_init_361 (by decide) ?_
  refine z_iasl (j := 40) S hO (Nat.le_of_ble_eq_true rfl) (vp_in_nI (n := 40) (by decide) (by decide)) rfl d_MD_init_363 (fun H locs hO => ?_)
  refine lv_dup S.1 S.2.1 d_MD_init_364 rfl ?_
  refine lv_bipush (v := 41) S.1 S.2.1 d_MD_init_365 (by decide) ?_
  refine lv_bipush (v := 97) S.1 S.2.1 d_MD_init_367 (by decide) ?_
  refine z_iasl (j := 41) S hO (Nat.le_of_ble_eq_true rfl) (vp_in_nI (n := 41) (by decide) (by decide)) rfl d_MD_init_369 (fun H locs hO => ?_)
  refine lv_dup S.1 S.2.1 d_MD_init_370 rfl ?_
  refine lv_bipush (v := 42) S.1 S.2.1 d_MD_init_371 (by decide) ?_
  refine lv_bipush (v := 122) S.1 S.2.1 d_MD_init_373 (by decide) ?_
  refine z_iasl (j := 42) S hO (Nat.le_of_ble_eq_true rfl) (vp_in_nI (n := 42) (by decide) (by decide)) rfl d_MD_init_375 (fun H locs hO => ?_)
  refine lv_dup S.1 S.2.1 d_MD_init_376 rfl ?_
  refine lv_bipush (v := 43) S.1 S.2.1 d_MD_init_377 (by decide) ?_
  refine lv_bipush (v := 97) S.1 S.2.1 d_MD_init_379 (by decide) ?_
  refine z_iasl (j := 43) S hO (Nat.le_of_ble_eq_true rfl) (vp_in_nI (n := 43) (by decide) (by decide)) rfl d_MD_init_381 (fun H locs hO => ?_)
  refine lv_dup S.1 S.2.1 d_MD_init_382 rfl ?_
  refine lv_bipush (v := 44) S.1 S.2.1 d_MD_init_383 (by decide) ?_
  refine lv_bipush (v := 114) S.1 S.2.1 d_MD_init_385 (by decide) ?_
  refine z_iasl (j := 44) S hO (Nat.le_of_ble_eq_true rfl) (vp_in_nI (n := 44) (by decide) (by decide)) rfl d_MD_init_387 (fun H locs hO => ?_)
  refine lv_dup S.1 S.2.1 d_MD_init_388 rfl ?_
  refine lv_bipush (v := 45) S.1 S.2.1 d_MD_init_389 (by decide) ?_
  refine lv_bipush (v := 100) S.1 S.2.1 d_MD_init_391 (by decide) ?_
  refine z_iasl (j := 45) S hO (Nat.le_of_ble_eq_true rfl) (vp_in_nI (n := 45) (by decide) (by decide)) rfl d_MD_init_393 (fun H locs hO => ?_)
  refine lv_dup S.1 S.2.1 d_MD_init_394 rfl ?_
  refine lv_bipush (v := 46) S.1 S.2.1 d_MD_init_395 (by decide) ?_
  refine lv_iconst (v := 0) S.1 S.2.1 d_MD_init_397 (by decide) ?_
  refine z_iasl (j := 46) S hO (Nat.le_of_ble_eq_true rfl) (vp_in_nI (n := 46) (by decide) (by decide)) rfl d_MD_init_398 (fun H locs hO => ?_)
  refine lv_dup S.1 S.2.1 d_MD_init_399 rfl ?_
  refine lv_bipush (v := 47) S.1 S.2.1 d_MD_init_400 (by decide) ?_
  refine lv_iconst (v := 0) S.1 S.2.1 d_MD_init_402 (by decide) ?_
  refine z_iasl (j := 47) S hO (Nat.le_of_ble_eq_true rfl) (vp_in_nI (n := 47) (by decide) (by decide)) rfl d_MD_init_403 (fun H locs hO => ?_)
  refine lv_dup S.1 S.2.1 d_MD_init_404 rfl ?_
  refine lv_bipush (v := 48) S.1 S.2.1 d_MD_init_405 (by decide) ?_
  refine lv_bipush (v := 122) S.1 S.2.1 d_MD_init_407 (by decide) ?_
  refine z_iasl (j := 48) S hO (Nat.le_of_ble_eq_true rfl) (vp_in_nI (n := 48) (by decide) (by decide)) rfl d_MD_init_409 (fun H locs hO => ?_)
  refine lv_dup S.1 S.2.1 d_MD_init_410 rfl ?_
  refine lv_bipush (v := 49) S.1 S.2.1 d_MD_init_411 (by decide) ?_
  refine lv_bipush (v := 111) S.1 S.2.1 d_MD_init_413 (by decide) ?_
  refine z_iasl (j := 49) S hO (Nat.le_of_ble_eq_true rfl) (vp_in_nI (n := 49) (by decide) (by decide)) rfl d_MD_init_415 (fun H locs hO => ?_)
  refine lv_dup S.1 S.2.1 d_MD_init_416 rfl ?_
  refine lv_bipush (v := 50) S.1 S.2.1 d_MD_init_417 (by decide) ?_
  refine lv_bipush (v := 110) S.1 S.2.1 d_MD_init_419 (by decide) ?_
  refine z_iasl (j := 50) S hO (Nat.le_of_ble_eq_true rfl) (vp_in_nI (n := 50) (by decide) (by decide)) rfl d_MD_init_421 (fun H locs hO => ?_)
  refine lv_dup S.1 S.2.1 d_MD_init_422 rfl ?_
  refine lv_bipush (v := 51) S.1 S.2.1 d_MD_init_423 (by decide) ?_
  refine lv_bipush (v := 101) S.1 S.2.1 d_MD_init_425 (by decide) ?_
  refine z_iasl (j := 51) S hO (Nat.le_of_ble_eq_true rfl) (vp_in_nI (n := 51) (by decide) (by decide)) rfl d_MD_init_427 (fun H locs hO => ?_)
  refine lv_dup S.1 S.2.1 d_MD_init_428 rfl ?_
  refine lv_bipush (v := 52) S.1 S.2.1 d_MD_init_429 (by decide) ?_
  refine lv_iconst (v := 0) S.1 S.2.1 d_MD_init_431 (by decide) ?_
  refine z_iasl (j := 52) S hO (Nat.le_of_ble_eq_true rfl) (vp_in_nI (n := 52) (by decide) (by decide)) rfl d_MD_init_432 (fun H locs hO => ?_)
  refine lv_dup S.1 S.2.1 d_MD_init_433 rfl ?_
  refine lv_bipush (v := 53) S.1 S.2.1 d_MD_init_434 (by decide) ?_
  refine lv_iconst (v := 0) S.1 S.2.1 d_MD_init_436 (by decide) ?_
  refine z_iasl (j := 53) S hO (Nat.le_of_ble_eq_true rfl) (vp_in_nI (n := 53) (by decide) (by decide)) rfl d_MD_init_437 (fun H locs hO => ?_)
  refine lv_dup S.1 S.2.1 d_MD_init_438 rfl ?_
  refine lv_bipush (v := 54) S.1 S.2.1 d_MD_init_439 (by decide) ?_
  refine lv_iconst (v := 0) S.1 S.2.1 d_MD_init_441 (by decide) ?_
  refine z_iasl (j := 54) S hO (Nat.le_of_ble_eq_true rfl) (vp_in_nI (n := 54) (by decide) (by decide)) rfl d_MD_init_442 (fun H locs hO => ?_)
  refine lv_dup S.1 S.2.1 d_MD_init_443 rfl ?_
  refine lv_bipush (v := 55) S.1 S.2.1 d_MD_init_444 (by decide) ?_
  refine lv_iconst (v := 0) S.1 S.2.1 d_MD_init_446 (by decide) ?_
  refine z_iasl (j := 55) S hO (Nat.le_of_ble_eq_true rfl) (vp_in_nI (n := 55) (by decide) (by decide)) rfl d_MD_init_447 (fun H locs hO => ?_)
  refine lv_dup S.1 S.2.1 d_MD_init_448 rfl ?_
  refine lv_bipush (v := 56) S.1 S.2.1 d_MD_init_449 (by decide) ?_
  refine lv_bipush (v := 117) S.1 S.2.1 d_MD_init_451 (by decide) ?_
  refine z_iasl (j := 56) S hO (Nat.le_of_ble_eq_true rfl) (vp_in_nI (n := 56) (by decide) (by decide)) rfl d_MD_init_453 (fun H locs hO => ?_)
  refine lv_dup S.1 S.2.1 d_MD_init_454 rfl ?_
  refine lv_bipush (v := 57) S.1 S.2.1 d_MD_init_455 (by decide) ?_
  refine lv_bipush (v := 110) S.1 S.2.1 d_MD_init_457 (by decide) ?_
  refine z_iasl (j := 57) S hO (Nat.le_of_ble_eq_true rfl) (vp_in_nI (n := 57) (by decide) (by decide)) rfl d_MD_init_459 (fun H locs hO => ?_)
  refine lv_dup S.1 S.2.1 d_MD_init_460 rfl ?_
  refine lv_bipush (v := 58) S.1 S.2.1 d_MD_init_461 (by decide) ?_
  refine lv_bipush (v := 105) S.1 S.2.1 d_MD_init_463 (by decide) ?_
  refine z_iasl (j := 58) S hO (Nat.le_of_ble_eq_true rfl) (vp_in_nI (n := 58) (by decide) (by decide)) rfl d_MD_init_465 (fun H locs hO => ?_)
  refine lv_dup S.1 S.2.1 d_MD_init_466 rfl ?_
  refine lv_bipush (v := 59) S.1 S.2.1 d_MD_init_467 (by decide) ?_
  refine lv_bipush (v := 116) S.1 S.2.1 d_MD_init_469 (by decide) ?_
  refine z_iasl (j := 59) S hO (Nat.le_of_ble_eq_true rfl) (vp_in_nI (n := 59) (by decide) (by decide)) rfl d_MD_init_471 (fun H locs hO => ?_)
  refine lv_dup S.1 S.2.1 d_MD_init_472 rfl ?_
  refine lv_bipush (v := 60) S.1 S.2.1 d_MD_init_473 (by decide) ?_
  refine lv_bipush (v := 115) S.1 S.2.1 d_MD_init_475 (by decide) ?_
  refine z_iasl (j := 60) S hO (Nat.le_of_ble_eq_true rfl) (vp_in_nI (n := 60) (by decide) (by decide)) rfl d_MD_init_477 (fun H locs hO => ?_)
  refine lv_dup S.1 S.2.1 d_MD_init_478 rfl ?_
  refine lv_bipush (v := 61) S.1 S.2.1 d_MD_init_479 (by decide) ?_
  refine lv_iconst (v := 0) S.1 S.2.1 d_MD_init_481 (by decide) ?_
  refine z_iasl (j := 61) S hO (Nat.le_of_ble_eq_true rfl) (vp_in_nI (n := 61) (by decide) (by decide)) rfl d_MD_init_482 (fun H locs hO => ?_)
  refine lv_dup S.1 S.2.1 d_MD_init_483 rfl ?_
  refine lv_bipush (v := 62) S.1 S.2.1 d_MD_init_484 (by decide) ?_
  refine lv_iconst (v := 0) S.1 S.2.1 d_MD_init_486 (by decide) ?_
  refine z_iasl (j := 62) S hO (Nat.le_of_ble_eq_true rfl) (vp_in_nI (n := 62) (by decide) (by decide)) rfl d_MD_init_487 (fun H locs hO => ?_)
  refine lv_dup S.1 S.2.1 d_MD_init_488 rfl ?_
  refine lv_bipush (v := 63) S.1 S.2.1 d_MD_init_489 (by decide) ?_
  refine lv_iconst (v := 0) S.1 S.2.1 d_MD_init_491 (by decide) ?_
  refine z_iasl (j := 63) S hO (Nat.le_of_ble_eq_true rfl) (vp_in_nI (n := 63) (by decide) (by decide)) rfl d_MD_init_492 (fun H locs hO => ?_)
  refine lv_dup S.1 S.2.1 d_MD_init_493 rfl ?_
  refine lv_bipush (v := 64) S.1 S.2.1 d_MD_init_494 (by decide) ?_
  refine lv_bipush (v := 100) S.1 S.2.1 d_MD_init_496 (by decide) ?_
  refine z_iasl (j := 64) S hO (Nat.le_of_ble_eq_true rfl) (vp_in_nI (n := 64) (by decide) (by decide)) rfl d_MD_init_498 (fun H locs hO => ?_)
  refine lv_dup S.1 S.2.1 d_MD_init_499 rfl ?_
  refine lv_bipush (v := 65) S.1 S.2.1 d_MD_init_500 (by decide) ?_
  refine lv_bipush (v := 97) S.1 S.2.1 d_MD_init_502 (by decide) ?_
  refine z_iasl (j := 65) S hO (Nat.le_of_ble_eq_true rfl) (vp_in_nI (n := 65) (by decide) (by decide)) rfl d_MD_init_504 (fun H locs hO => ?_)
  refine lv_dup S.1 S.2.1 d_MD_init_505 rfl ?_
  refine lv_bipush (v := 66) S.1 S.2.1 d_MD_init_506 (by decide) ?_
  refine lv_bipush (v := 116) S.1 S.2.1 d_MD_init_508 (by decide) ?_
  refine z_iasl (j := 66) S hO (Nat.le_of_ble_eq_true rfl) (vp_in_nI (n := 66) (by decide) (by decide)) rfl d_MD_init_510 (fun H locs hO => ?_)
  refine lv_dup S.1 S.2.1 d_MD_init_511 rfl ?_
  refine lv_bipush (v := 67) S.1 S.2.1 d_MD_init_512 (by decide) ?_
  refine lv_bipush (v := 101) S.1 S.2.1 d_MD_init_514 (by decide) ?_
  refine z_iasl (j := 67) S hO (Nat.le_of_ble_eq_true rfl) (vp_in_nI (n := 67) (by decide) (by decide)) rfl d_MD_init_516 (fun H locs hO => ?_)
  refine lv_dup S.1 S.2.1 d_MD_init_517 rfl ?_
  refine lv_bipush (v := 68) S.1 S.2.1 d_MD_init_518 (by decide) ?_
  refine lv_bipush (v := 115) S.1 S.2.1 d_MD_init_520 (by decide) ?_
  refine z_iasl (j := 68) S hO (Nat.le_of_ble_eq_true rfl) (vp_in_nI (n := 68) (by decide) (by decide)) rfl d_MD_init_522 (fun H locs hO => ?_)
  refine lv_dup S.1 S.2.1 d_MD_init_523 rfl ?_
  refine lv_bipush (v := 69) S.1 S.2.1 d_MD_init_524 (by decide) ?_
  refine lv_iconst (v := 0) S.1 S.2.1 d_MD_init_526 (by decide) ?_
  refine z_iasl (j := 69) S hO (Nat.le_of_ble_eq_true rfl) (vp_in_nI (n := 69) (by decide) (by decide)) rfl d_MD_init_527 (fun H locs hO => ?_)
  refine lv_dup S.1 S.2.1 d_MD_init_528 rfl ?_
  refine lv_bipush (v := 70) S.1 S.2.1 d_MD_init_529 (by decide) ?_
  refine lv_iconst (v := 0) S.1 S.2.1 d_MD_init_531 (by decide) ?_
  refine z_iasl (j := 70) S hO (Nat.le_of_ble_eq_true rfl) (vp_in_nI (n := 70) (by decide) (by decide)) rfl d_MD_init_532 (fun H locs hO => ?_)
  refine lv_dup S.1 S.2.1 d_MD_init_533 rfl ?_
  refine lv_bipush (v := 71) S.1 S.2.1 d_MD_init_534 (by decide) ?_
  refine lv_iconst (v := 0) S.1 S.2.1 d_MD_init_536 (by decide) ?_
  refine z_iasl (j := 71) S hO (Nat.le_of_ble_eq_true rfl) (vp_in_nI (n := 71) (by decide) (by decide)) rfl d_MD_init_537 (fun H locs hO => ?_)
  refine lv_dup S.1 S.2.1 d_MD_init_538 rfl ?_
  refine lv_bipush (v := 72) S.1 S.2.1 d_MD_init_539 (by decide) ?_
  refine lv_bipush (v := 100) S.1 S.2.1 d_MD_init_541 (by decide) ?_
  refine z_iasl (j := 72) S hO (Nat.le_of_ble_eq_true rfl) (vp_in_nI (n := 72) (by decide) (by decide)) rfl d_MD_init_543 (fun H locs hO => ?_)
  refine lv_dup S.1 S.2.1 d_MD_init_544 rfl ?_
  refine lv_bipush (v := 73) S.1 S.2.1 d_MD_init_545 (by decide) ?_
  refine lv_bipush (v := 97) S.1 S.2.1 d_MD_init_547 (by decide) ?_
  refine z_iasl (j := 73) S hO (Nat.le_of_ble_eq_true rfl) (vp_in_nI (n := 73) (by decide) (by decide)) rfl d_MD_init_549 (fun H locs hO => ?_)
  refine lv_dup S.1 S.2.1 d_MD_init_550 rfl ?_
  refine lv_bipush (v := 74) S.1 S.2.1 d_MD_init_551 (by decide) ?_
  refine lv_bipush (v := 121) S.1 S.2.1 d_MD_init_553 (by decide) ?_
  refine z_iasl (j := 74) S hO (Nat.le_of_ble_eq_true rfl) (vp_in_nI (n := 74) (by decide) (by decide)) rfl d_MD_init_555 (fun H locs hO => ?_)
  refine lv_dup S.1 S.2.1 d_MD_init_556 rfl ?_
  refine lv_bipush (v := 75) S.1 S.2.1 d_MD_init_557 (by decide) ?_
  refine lv_bipush (v := 115) S.1 S.2.1 d_MD_init_559 (by decide) ?_
  refine z_iasl (j := 75) S hO (Nat.le_of_ble_eq_true rfl) (vp_in_nI (n := 75) (by decide) (by decide)) rfl d_MD_init_561 (fun H locs hO => ?_)
  refine lv_dup S.1 S.2.1 d_MD_init_562 rfl ?_
  refine lv_bipush (v := 76) S.1 S.2.1 d_MD_init_563 (by decide) ?_
  refine lv_iconst (v := 0) S.1 S.2.1 d_MD_init_565 (by decide) ?_
  refine z_iasl (j := 76) S hO (Nat.le_of_ble_eq_true rfl) (vp_in_nI (n := 76) (by decide) (by decide)) rfl d_MD_init_566 (fun H locs hO => ?_)
  refine lv_dup S.1 S.2.1 d_MD_init_567 rfl ?_
  refine lv_bipush (v := 77) S.1 S.2.1 d_MD_init_568 (by decide) ?_
  refine lv_iconst (v := 0) S.1 S.2.1 d_MD_init_570 (by decide) ?_
  refine z_iasl (j := 77) S hO (Nat.le_of_ble_eq_true rfl) (vp_in_nI (n := 77) (by decide) (by decide)) rfl d_MD_init_571 (fun H locs hO => ?_)
  refine lv_dup S.1 S.2.1 d_MD_init_572 rfl ?_
  refine lv_bipush (v := 78) S.1 S.2.1 d_MD_init_573 (by decide) ?_
  refine lv_iconst (v := 0) S.1 S.2.1 d_MD_init_575 (by decide) ?_
  refine z_iasl (j := 78) S hO (Nat.le_of_ble_eq_true rfl) (vp_in_nI (n := 78) (by decide) (by decide)) rfl d_MD_init_576 (fun H locs hO => ?_)
  refine lv_dup S.1 S.2.1 d_MD_init_577 rfl ?_
  refine lv_bipush (v := 79) S.1 S.2.1 d_MD_init_578 (by decide) ?_
  refine lv_iconst (v := 0) S.1 S.2.1 d_MD_init_580 (by decide) ?_
  refine z_iasl (j := 79) S hO (Nat.le_of_ble_eq_true rfl) (vp_in_nI (n := 79) (by decide) (by decide)) rfl d_MD_init_581 (fun H locs hO => ?_)
  refine lv_dup S.1 S.2.1 d_MD_init_582 rfl ?_
  refine lv_bipush (v := 80) S.1 S.2.1 d_MD_init_583 (by decide) ?_
  refine lv_bipush (v := 111) S.1 S.2.1 d_MD_init_585 (by decide) ?_
  refine z_iasl (j := 80) S hO (Nat.le_of_ble_eq_true rfl) (vp_in_nI (n := 80) (by decide) (by decide)) rfl d_MD_init_587 (fun H locs hO => ?_)
  refine lv_dup S.1 S.2.1 d_MD_init_588 rfl ?_
  refine lv_bipush (v := 81) S.1 S.2.1 d_MD_init_589 (by decide) ?_
  refine lv_bipush (v := 119) S.1 S.2.1 d_MD_init_591 (by decide) ?_
  refine z_iasl (j := 81) S hO (Nat.le_of_ble_eq_true rfl) (vp_in_nI (n := 81) (by decide) (by decide)) rfl d_MD_init_593 (fun H locs hO => ?_)
  refine lv_dup S.1 S.2.1 d_MD_init_594 rfl ?_
  refine lv_bipush (v := 82) S.1 S.2.1 d_MD_init_595 (by decide) ?_
  refine lv_bipush (v := 110) S.1 S.2.1 d_MD_init_597 (by decide) ?_
  refine z_iasl (j := 82) S hO (Nat.le_of_ble_eq_true rfl) (vp_in_nI (n := 82) (by decide) (by decide)) rfl d_MD_init_599 (fun H locs hO => ?_)
  refine lv_dup S.1 S.2.1 d_MD_init_600 rfl ?_
  refine lv_bipush (v := 83) S.1 S.2.1 d_MD_init_601 (by decide) ?_
  refine lv_iconst (v := 0) S.1 S.2.1 d_MD_init_603 (by decide) ?_
  refine z_iasl (j := 83) S hO (Nat.le_of_ble_eq_true rfl) (vp_in_nI (n := 83) (by decide) (by decide)) rfl d_MD_init_604 (fun H locs hO => ?_)
  refine lv_dup S.1 S.2.1 d_MD_init_605 rfl ?_
  refine lv_bipush (v := 84) S.1 S.2.1 d_MD_init_606 (by decide) ?_
  refine lv_iconst (v := 0) S.1 S.2.1 d_MD_init_608 (by decide) ?_
  refine z_iasl (j := 84) S hO (Nat.le_of_ble_eq_true rfl) (vp_in_nI (n := 84) (by decide) (by decide)) rfl d_MD_init_609 (fun H locs hO => ?_)
  refine lv_dup S.1 S.2.1 d_MD_init_610 rfl ?_
  refine lv_bipush (v := 85) S.1 S.2.1 d_MD_init_611 (by decide) ?_
  refine lv_iconst (v := 0) S.1 S.2.1 d_MD_init_613 (by decide) ?_
  refine z_iasl (j := 85) S hO (Nat.le_of_ble_eq_true rfl) (vp_in_nI (n := 85) (by decide) (by decide)) rfl d_MD_init_614 (fun H locs hO => ?_)
  refine lv_dup S.1 S.2.1 d_MD_init_615 rfl ?_
  refine lv_bipush (v := 86) S.1 S.2.1 d_MD_init_616 (by decide) ?_
  refine lv_iconst (v := 0) S.1 S.2.1 d_MD_init_618 (by decide) ?_
  refine z_iasl (j := 86) S hO (Nat.le_of_ble_eq_true rfl) (vp_in_nI (n := 86) (by decide) (by decide)) rfl d_MD_init_619 (fun H locs hO => ?_)
  refine lv_dup S.1 S.2.1 d_MD_init_620 rfl ?_
  refine lv_bipush (v := 87) S.1 S.2.1 d_MD_init_621 (by decide) ?_
  refine lv_iconst (v := 0) S.1 S.2.1 d_MD_init_623 (by decide) ?_
  refine z_iasl (j := 87) S hO (Nat.le_of_ble_eq_true rfl) (vp_in_nI (n := 87) (by decide) (by decide)) rfl d_MD_init_624 (fun H locs hO => ?_)
  refine z_putF (ty0 := ty_MD) (fs := [.int 0, .ref (adG G 141), .int 0, .ref (adG G 142), .ref (adG G 143), .int 0, .ref (adG G 144), .ref (adG G 145), .ref (adG G 146), .ref (adG G 147), .ref (adG G 148), .int 0, .ref (adG G 149), .ref (adG G 150), .ref (adG G 151), .ref (adG G 152), .ref (adG G 153), .int 0, .int 0, .ref (adG G 154), .int 0, .ref (adG G 155), .int 0, .ref (adG G 156), .int 0, .int 0, .int 0, .null]) (v := .ref (adG G 157)) S hO hin fl_MD_59 tk_MD nm_MD rfl rfl (Nat.le_of_ble_eq_true rfl) (by (repeat (first | rw [vu_s] | rw [vu_n (by omega)] | rw [if_pos (by omega)] | rw [if_neg (by omega)])) <;> first | rfl | assumption) rfl rfl (Nat.le_of_ble_eq_true rfl) d_MD_init_625 (fun H locs hO => ?_)
  have hO := hO.c (E1 := va_up (fun k => if k < 140 then E k else Ef G k) 141 (.inl (G.2.1 0, 60, .inl (plF 0)))) (fun k hk2 => by
    rw [plF_0]
    rcases (show k < 140 ∨ k = 140 ∨ k = 141 ∨ k = 142 ∨ k = 143 ∨ k = 144 ∨ k = 145 ∨ k = 146 ∨ k = 147 ∨ k = 148 ∨ k = 149 ∨ k = 150 ∨ k = 151 ∨ k = 152 ∨ k = 153 ∨ k = 154 ∨ k = 155 ∨ k = 156 ∨ k = 157 by omega) with h | rfl | rfl | rfl | rfl | rfl | rfl | rfl | rfl | rfl | rfl | rfl | rfl | rfl | rfl | rfl | rfl | rfl | rfl
    · (repeat (first | rw [vu_s] | rw [vu_n (by omega)] | rw [if_pos (by omega)] | rw [if_neg (by omega)]))
    · (repeat (first | rw [vu_s] | rw [vu_n (by omega)] | rw [if_pos (by omega)] | rw [if_neg (by omega)])) <;> rfl
    · (repeat (first | rw [vu_s] | rw [vu_n (by omega)] | rw [if_pos (by omega)] | rw [if_neg (by omega)])) <;> rfl
    · (repeat (first | rw [vu_s] | rw [vu_n (by omega)] | rw [if_pos (by omega)] | rw [if_neg (by omega)])) <;> rfl
    · (repeat (first | rw [vu_s] | rw [vu_n (by omega)] | rw [if_pos (by omega)] | rw [if_neg (by omega)])) <;> rfl
    · (repeat (first | rw [vu_s] | rw [vu_n (by omega)] | rw [if_pos (by omega)] | rw [if_neg (by omega)])) <;> rfl
    · (repeat (first | rw [vu_s] | rw [vu_n (by omega)] | rw [if_pos (by omega)] | rw [if_neg (by omega)])) <;> rfl
    · (repeat (first | rw [vu_s] | rw [vu_n (by omega)] | rw [if_pos (by omega)] | rw [if_neg (by omega)])) <;> rfl
    · (repeat (first | rw [vu_s] | rw [vu_n (by omega)] | rw [if_pos (by omega)] | rw [if_neg (by omega)])) <;> rfl
    · (repeat (first | rw [vu_s] | rw [vu_n (by omega)] | rw [if_pos (by omega)] | rw [if_neg (by omega)])) <;> rfl
    · (repeat (first | rw [vu_s] | rw [vu_n (by omega)] | rw [if_pos (by omega)] | rw [if_neg (by omega)])) <;> rfl
    · (repeat (first | rw [vu_s] | rw [vu_n (by omega)] | rw [if_pos (by omega)] | rw [if_neg (by omega)])) <;> rfl
    · (repeat (first | rw [vu_s] | rw [vu_n (by omega)] | rw [if_pos (by omega)] | rw [if_neg (by omega)])) <;> rfl
    · (repeat (first | rw [vu_s] | rw [vu_n (by omega)] | rw [if_pos (by omega)] | rw [if_neg (by omega)])) <;> rfl
    · (repeat (first | rw [vu_s] | rw [vu_n (by omega)] | rw [if_pos (by omega)] | rw [if_neg (by omega)])) <;> rfl
    · (repeat (first | rw [vu_s] | rw [vu_n (by omega)] | rw [if_pos (by omega)] | rw [if_neg (by omega)])) <;> rfl
    · (repeat (first | rw [vu_s] | rw [vu_n (by omega)] | rw [if_pos (by omega)] | rw [if_neg (by omega)])) <;> rfl
    · (repeat (first | rw [vu_s] | rw [vu_n (by omega)] | rw [if_pos (by omega)] | rw [if_neg (by omega)])) <;> rfl
    · (repeat (first | rw [vu_s] | rw [vu_n (by omega)] | rw [if_pos (by omega)] | rw [if_neg (by omega)])) <;> rfl)
  refine lv_iconst (v := 0) S.1 S.2.1 d_MD_init_628 (by decide) ?_
  refine lv_istore_n (lv' := [(1, .int 0), (0, .ref (adG G 140))]) S.1 S.2.1 d_MD_init_629 rfl hl (by decide) rfl (fun ls hl => ?_)
  have K630 : ∀ (r i : Nat), i + r = 12 → ∀ (H : Heap) (locs : List Loc), gN G 158 (va_up (fun k => if k < 140 then E k else Ef G k) 141 (.inl (G.2.1 0, 60, .inl (plF i)))) s H locs → ∀ ls : Array Slot, lv_has ls 2 [(1, .int (nI i)), (0, .ref (adG G 140))] → W p l e { frames := 1, cells := 17, slots := 1768, locals := 20 } s m args below meth c H locs 17 1768 (MQ below (zQ G 140 158 E (Ef G)) args s 17 1768 (gA G)) (F0 m 630 ls []) := by
    intro r
    induction r with
    | zero =>
      intro i hi H locs hO ls hl
      have hiM : i = 12 := by omega
      subst hiM
      refine lv_iload_n S.1 S.2.1 d_MD_init_630 rfl (lv_at hl 0 rfl) ?_
      refine lv_bipush (v := 12) S.1 S.2.1 d_MD_init_631 (by decide) ?_
      refine lv_icmp_ge (tgt := 691) S.1 S.2.1 d_MD_init_633 (by decide) (fun _ => ?_) (fun hc => absurd (by decide) hc)
      refine z_ret S hk hr hO (fun k hk2 => ?_) (Nat.le_of_ble_eq_true rfl) (Nat.le_of_ble_eq_true rfl) d_MD_init_691
      by_cases h1 : k = 141
      · subst h1
        rw [vu_s, if_neg (by omega)]
        rfl
      · rw [vu_n h1]
    | succ r ih =>
      intro i hi H locs hO ls hl
      refine lv_iload_n S.1 S.2.1 d_MD_init_630 rfl (lv_at hl 0 rfl) ?_
      refine lv_bipush (v := 12) S.1 S.2.1 d_MD_init_631 (by decide) ?_
      refine lv_icmp_ge (tgt := 691) S.1 S.2.1 d_MD_init_633 (by decide) (fun hc => absurd hc (nI_ge (a := i) (b := 12) (by omega) (by decide))) (fun _ => ?_)
      refine lv_aload_n S.1 S.2.1 d_MD_init_636 rfl (lv_at hl 1 rfl) ?_
      refine g_get S hO.1 fl_MD_7 (by decide) (k := 140) (fs := fs_MD G (adG G) (s00 140) (t00 140)) (by (repeat (first | rw [vu_s] | rw [vu_n (by omega)] | rw [if_pos (by omega)] | rw [if_neg (by omega)])) <;> rfl) (v := .ref (adG G 141)) rfl d_MD_init_637 ?_
      refine lv_iconst (v := 5) S.1 S.2.1 d_MD_init_640 (by decide) ?_
      refine lv_iload_n S.1 S.2.1 d_MD_init_641 rfl (lv_at hl 0 rfl) ?_
      refine lv_imul S.1 S.2.1 d_MD_init_642 ?_
      refine lv_sipush (v := 1000) S.1 S.2.1 d_MD_init_643 (by decide) ?_
      have e0 : 5 * nI i = nI (5 * i) := by
        have h5 : (5 : Int32) * nI i = nI (5 * i) := pk_mul 5 i
        exact h5
      refine z_iasl (k := 141) (j := 5 * i) (N := 60) S hO (by decide) (by rw [e0]; exact vp_in_nI (by omega) (by decide)) (by rw [e0]; exact nI_clamp (by omega)) d_MD_init_646 (fun H locs hO => ?_)
      refine lv_aload_n S.1 S.2.1 d_MD_init_647 rfl (lv_at hl 1 rfl) ?_
      refine g_get S hO.1 fl_MD_7 (by decide) (k := 140) (fs := fs_MD G (adG G) (s00 140) (t00 140)) (by (repeat (first | rw [vu_s] | rw [vu_n (by omega)] | rw [if_pos (by omega)] | rw [if_neg (by omega)])) <;> rfl) (v := .ref (adG G 141)) rfl d_MD_init_648 ?_
      refine lv_iconst (v := 5) S.1 S.2.1 d_MD_init_651 (by decide) ?_
      refine lv_iload_n S.1 S.2.1 d_MD_init_652 rfl (lv_at hl 0 rfl) ?_
      refine lv_imul S.1 S.2.1 d_MD_init_653 ?_
      refine lv_iconst (v := 1) S.1 S.2.1 d_MD_init_654 (by decide) ?_
      refine lv_iadd S.1 S.2.1 d_MD_init_655 ?_
      refine lv_sipush (v := 1000) S.1 S.2.1 d_MD_init_656 (by decide) ?_
      have e1 : 5 * nI i + 1 = nI (5 * i + 1) := by
        have h5 : (5 : Int32) * nI i = nI (5 * i) := pk_mul 5 i
        rw [h5]
        exact nI_add (5 * i) 1
      refine z_iasl (k := 141) (j := 5 * i + 1) (N := 60) S hO (by decide) (by rw [e1]; exact vp_in_nI (by omega) (by decide)) (by rw [e1]; exact nI_clamp (by omega)) d_MD_init_659 (fun H locs hO => ?_)
      refine lv_aload_n S.1 S.2.1 d_MD_init_660 rfl (lv_at hl 1 rfl) ?_
      refine g_get S hO.1 fl_MD_7 (by decide) (k := 140) (fs := fs_MD G (adG G) (s00 140) (t00 140)) (by (repeat (first | rw [vu_s] | rw [vu_n (by omega)] | rw [if_pos (by omega)] | rw [if_neg (by omega)])) <;> rfl) (v := .ref (adG G 141)) rfl d_MD_init_661 ?_
      refine lv_iconst (v := 5) S.1 S.2.1 d_MD_init_664 (by decide) ?_
      refine lv_iload_n S.1 S.2.1 d_MD_init_665 rfl (lv_at hl 0 rfl) ?_
      refine lv_imul S.1 S.2.1 d_MD_init_666 ?_
      refine lv_iconst (v := 2) S.1 S.2.1 d_MD_init_667 (by decide) ?_
      refine lv_iadd S.1 S.2.1 d_MD_init_668 ?_
      refine lv_sipush (v := 1000) S.1 S.2.1 d_MD_init_669 (by decide) ?_
      have e2 : 5 * nI i + 2 = nI (5 * i + 2) := by
        have h5 : (5 : Int32) * nI i = nI (5 * i) := pk_mul 5 i
        rw [h5]
        exact nI_add (5 * i) 2
      refine z_iasl (k := 141) (j := 5 * i + 2) (N := 60) S hO (by decide) (by rw [e2]; exact vp_in_nI (by omega) (by decide)) (by rw [e2]; exact nI_clamp (by omega)) d_MD_init_672 (fun H locs hO => ?_)
      refine lv_aload_n S.1 S.2.1 d_MD_init_673 rfl (lv_at hl 1 rfl) ?_
      refine g_get S hO.1 fl_MD_7 (by decide) (k := 140) (fs := fs_MD G (adG G) (s00 140) (t00 140)) (by (repeat (first | rw [vu_s] | rw [vu_n (by omega)] | rw [if_pos (by omega)] | rw [if_neg (by omega)])) <;> rfl) (v := .ref (adG G 141)) rfl d_MD_init_674 ?_
      refine lv_iconst (v := 5) S.1 S.2.1 d_MD_init_677 (by decide) ?_
      refine lv_iload_n S.1 S.2.1 d_MD_init_678 rfl (lv_at hl 0 rfl) ?_
      refine lv_imul S.1 S.2.1 d_MD_init_679 ?_
      refine lv_iconst (v := 3) S.1 S.2.1 d_MD_init_680 (by decide) ?_
      refine lv_iadd S.1 S.2.1 d_MD_init_681 ?_
      refine lv_ldc (v := 100000) S.1 S.2.1 S.2.2.2.1 (S.2.2.2.2 _ kv_MD_62) d_MD_init_682 ?_
      have e3 : 5 * nI i + 3 = nI (5 * i + 3) := by
        have h5 : (5 : Int32) * nI i = nI (5 * i) := pk_mul 5 i
        rw [h5]
        exact nI_add (5 * i) 3
      refine z_iasl (k := 141) (j := 5 * i + 3) (N := 60) S hO (by decide) (by rw [e3]; exact vp_in_nI (by omega) (by decide)) (by rw [e3]; exact nI_clamp (by omega)) d_MD_init_684 (fun H locs hO => ?_)
      rw [plF_s] at hO
      obtain ⟨x_3, ex_3⟩ : ∃ z : Int32, z = (nI i) + 1 := ⟨_, rfl⟩
      refine lv_iinc (v := x_3) (lv' := [(1, .int x_3), (0, .ref (adG G 140))]) S.1 S.2.1 d_MD_init_685 hl (k := 0) rfl (by rw [ex_3]; rfl) (by decide) rfl (fun ls hl => ?_)
      refine lv_goto (tgt := 630) S.1 S.2.1 d_MD_init_688 (by decide) ?_
      obtain rfl : x_3 = nI (i + 1) := by rw [ex_3]; exact nI_1 i
      exact ih (i + 1) (by omega) _ _ hO ls hl
  exact W.widen (Nat.le_of_ble_eq_true rfl) (Nat.le_of_ble_eq_true rfl) (K630 12 0 rfl _ _ hO ls hl)
