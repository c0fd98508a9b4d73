/-! What is given at the start, by its places; the parameters G out of it. Written by wip/tools/m57.py. -/
def gvL : List Cond := flatC (Jvm.Cond.and given_1 narrow_1)
def gks : List Nat := [75, 81, 85, 88, 91, 94, 97, 100, 103, 106, 109]
theorem q_ex : ∀ i, i < 11 → gvL[([4, 47, 54, 62, 71, 81, 92, 104, 117, 131, 146] : List Nat).getD i 0]? = some (Cond.exactly (.static "PlaceRules$Kind" (gkn.getD i "") "LPlaceRules$Kind;") "PlaceRules$Kind") := by decide +kernel
theorem q_f0 : ∀ i, i < 11 → gvL[([5, 48, 55, 63, 72, 82, 93, 105, 118, 132, 147] : List Nat).getD i 0]? = some (Cond.eq (.field (.static "PlaceRules$Kind" (gkn.getD i "") "LPlaceRules$Kind;") "java/lang/Enum" "ordinal" "I") (.int (([0, 1, 2, 3, 4, 5, 6, 7, 8, 9, 10] : List Int32).getD i 0))) := by decide +kernel
theorem q_f1 : ∀ i, i < 11 → gvL[([7, 50, 57, 65, 74, 84, 95, 107, 120, 134, 149] : List Nat).getD i 0]? = some (Cond.eq (.field (.static "PlaceRules$Kind" (gkn.getD i "") "LPlaceRules$Kind;") "PlaceRules$Kind" "numbers" "I") (.int (([1, 1, 1, 1, 1, 2, 2, 1, 1, 1, 1] : List Int32).getD i 0))) := by decide +kernel
theorem q_f2 : ∀ i, i < 11 → gvL[([8, 51, 58, 66, 75, 85, 96, 108, 121, 135, 150] : List Nat).getD i 0]? = some (Cond.eq (.field (.static "PlaceRules$Kind" (gkn.getD i "") "LPlaceRules$Kind;") "PlaceRules$Kind" "least" "I") (.int (([0, 0, 1, 1, 1, 0, 0, 1, 0, 0, 0] : List Int32).getD i 0))) := by decide +kernel
theorem q_f3 : ∀ i, i < 11 → gvL[([9, 52, 59, 67, 76, 86, 97, 109, 122, 136, 151] : List Nat).getD i 0]? = some (Cond.eq (.field (.static "PlaceRules$Kind" (gkn.getD i "") "LPlaceRules$Kind;") "PlaceRules$Kind" "most" "I") (.int (([1, 100000, 20, 20, 20, 7, 7, 40, 1000, 1000, 3] : List Int32).getD i 0))) := by decide +kernel
def qM : List (List Nat) := [[0, 53, 60, 68, 77, 87, 98, 110, 123, 137, 152], [100000, 0, 61, 69, 78, 88, 99, 111, 124, 138, 153], [100000, 100000, 0, 70, 79, 89, 100, 112, 125, 139, 154], [100000, 100000, 100000, 0, 80, 90, 101, 113, 126, 140, 155], [100000, 100000, 100000, 100000, 0, 91, 102, 114, 127, 141, 156], [100000, 100000, 100000, 100000, 100000, 0, 103, 115, 128, 142, 157], [100000, 100000, 100000, 100000, 100000, 100000, 0, 116, 129, 143, 158], [100000, 100000, 100000, 100000, 100000, 100000, 100000, 0, 130, 144, 159], [100000, 100000, 100000, 100000, 100000, 100000, 100000, 100000, 0, 145, 160], [100000, 100000, 100000, 100000, 100000, 100000, 100000, 100000, 100000, 0, 161], [100000, 100000, 100000, 100000, 100000, 100000, 100000, 100000, 100000, 100000, 0]]
theorem q_d : ∀ i, i < 11 → ∀ j, j < 11 → i ≠ j → (gvL[(qM.getD i []).getD j 0]? = some (Cond.not (.eq (.static "PlaceRules$Kind" (gkn.getD i "") "LPlaceRules$Kind;") (.static "PlaceRules$Kind" (gkn.getD j "") "LPlaceRules$Kind;"))) ∨ gvL[(qM.getD j []).getD i 0]? = some (Cond.not (.eq (.static "PlaceRules$Kind" (gkn.getD j "") "LPlaceRules$Kind;") (.static "PlaceRules$Kind" (gkn.getD i "") "LPlaceRules$Kind;")))) := by decide +kernel
theorem q_w : ∀ i, i < 11 → gvL[([6, 49, 56, 64, 73, 83, 94, 106, 119, 133, 148] : List Nat).getD i 0]? = some (Cond.eq (.field (.static "PlaceRules$Kind" (gkn.getD i "") "LPlaceRules$Kind;") "PlaceRules$Kind" "word" "Ljava/lang/String;") (.string "PlaceRules$Kind" (gks.getD i 0))) := by decide +kernel
theorem q_ke : ∀ i, i < 11 → gvL[([15, 16, 17, 18, 19, 20, 21, 22, 23, 24, 25] : List Nat).getD i 0]? = some (Cond.eq (.elem (.static "PlaceRules" "KINDS" "[LPlaceRules$Kind;") (.int (Int32.ofNat i))) (.static "PlaceRules$Kind" (gkn.getD i "") "LPlaceRules$Kind;")) := by decide +kernel
theorem q_se : ∀ i, i < 11 → gvL[([36, 37, 38, 39, 40, 41, 42, 43, 44, 45, 46] : List Nat).getD i 0]? = some (Cond.eq (.elem (.static "PlaceRules$1" "$SwitchMap$PlaceRules$Kind" "[I") (.int (Int32.ofNat i))) (.int (nI (i + 1)))) := by decide +kernel
theorem q_ka : gvL[12]? = some (Cond.arrayOf (.static "PlaceRules" "KINDS" "[LPlaceRules$Kind;") (.object "PlaceRules$Kind")) := by decide +kernel
theorem q_kl : gvL[13]? = some (Cond.eq (.length (.static "PlaceRules" "KINDS" "[LPlaceRules$Kind;")) (.int 11)) := by decide +kernel
theorem q_sa : gvL[34]? = some (Cond.arrayOf (.static "PlaceRules$1" "$SwitchMap$PlaceRules$Kind" "[I") .int) := by decide +kernel
theorem q_sl : gvL[35]? = some (Cond.eq (.length (.static "PlaceRules$1" "$SwitchMap$PlaceRules$Kind" "[I")) (.int 11)) := by decide +kernel
theorem q_cs : gvL[26]? = some (Cond.eq (.static "java/lang/String" "COMPACT_STRINGS" "Z") (.int 1)) := by decide +kernel
theorem q_pf : gvL[27]? = some (Cond.isRef (.static "jdk/internal/util/Preconditions" "SIOOBE_FORMATTER" "Ljava/util/function/BiFunction;")) := by decide +kernel
theorem q_us : gvL[31]? = some (Cond.isRef (.static "java/lang/Throwable" "UNASSIGNED_STACK" "[Ljava/lang/StackTraceElement;")) := by decide +kernel
theorem q_ss : gvL[32]? = some (Cond.isRef (.static "java/lang/Throwable" "SUPPRESSED_SENTINEL" "Ljava/util/List;")) := by decide +kernel
theorem q_sx : ∀ i, i < 11 → gvL[([508, 526, 547, 568, 589, 613, 638, 662, 688, 715, 742] : List Nat).getD i 0]? = some (Cond.exactly (.string "PlaceRules$Kind" (gks.getD i 0)) "java/lang/String") := by decide +kernel
theorem q_sc : ∀ i, i < 11 → gvL[([509, 527, 548, 569, 590, 614, 639, 663, 689, 716, 743] : List Nat).getD i 0]? = some (Cond.eq (.field (.string "PlaceRules$Kind" (gks.getD i 0)) "java/lang/String" "coder" "B") (.int 0)) := by decide +kernel
theorem q_sv : ∀ i, i < 11 → gvL[([510, 528, 549, 570, 591, 615, 640, 664, 690, 717, 744] : List Nat).getD i 0]? = some (Cond.arrayOf (.field (.string "PlaceRules$Kind" (gks.getD i 0)) "java/lang/String" "value" "[B") .byte) := by decide +kernel
theorem q_sn : ∀ i, i < 11 → gvL[([511, 529, 550, 571, 592, 616, 641, 665, 691, 718, 745] : List Nat).getD i 0]? = some (Cond.eq (.length (.field (.string "PlaceRules$Kind" (gks.getD i 0)) "java/lang/String" "value" "[B")) (.int (Int32.ofNat (gkl.getD i 0)))) := by decide +kernel
def qB : List (List Nat) := [[512, 513, 514, 515], [530, 531, 532, 533, 534, 535], [551, 552, 553, 554, 555], [572, 573, 574, 575], [593, 594, 595, 596, 597, 598], [617, 618, 619, 620, 621, 622], [642, 643, 644, 645], [666, 667, 668, 669, 670], [692, 693, 694, 695, 696], [719, 720, 721, 722], [746, 747, 748]]
theorem q_sb : ∀ i, i < 11 → ∀ j, j < gkl.getD i 0 → gvL[(qB.getD i []).getD j 0]? = some (Cond.eq (.elem (.field (.string "PlaceRules$Kind" (gks.getD i 0)) "java/lang/String" "value" "[B") (.int (Int32.ofNat j))) (.int ((gkb.getD i []).getD j 0))) := by decide +kernel
def qM2 : List (List Nat) := [[0, 546, 566, 586, 609, 633, 656, 681, 707, 733, 759], [100000, 0, 567, 587, 610, 634, 657, 682, 708, 734, 760], [100000, 100000, 0, 588, 611, 635, 658, 683, 709, 735, 761], [100000, 100000, 100000, 0, 612, 636, 659, 684, 710, 736, 762], [100000, 100000, 100000, 100000, 0, 637, 660, 685, 711, 737, 763], [100000, 100000, 100000, 100000, 100000, 0, 661, 686, 712, 738, 764], [100000, 100000, 100000, 100000, 100000, 100000, 0, 687, 713, 739, 765], [100000, 100000, 100000, 100000, 100000, 100000, 100000, 0, 714, 740, 766], [100000, 100000, 100000, 100000, 100000, 100000, 100000, 100000, 0, 741, 767], [100000, 100000, 100000, 100000, 100000, 100000, 100000, 100000, 100000, 0, 768], [100000, 100000, 100000, 100000, 100000, 100000, 100000, 100000, 100000, 100000, 0]]
theorem q_sd : ∀ i, i < 11 → ∀ j, j < 11 → i ≠ j → (gvL[(qM2.getD i []).getD j 0]? = some (Cond.not (.eq (.string "PlaceRules$Kind" (gks.getD i 0)) (.string "PlaceRules$Kind" (gks.getD j 0)))) ∨ gvL[(qM2.getD j []).getD i 0]? = some (Cond.not (.eq (.string "PlaceRules$Kind" (gks.getD j 0)) (.string "PlaceRules$Kind" (gks.getD i 0))))) := by decide +kernel
theorem q_mx : ∀ i, i < 10 → gvL[([252, 328, 363, 384, 439, 472, 278, 296, 421, 222] : List Nat).getD i 0]? = some (Cond.exactly (.string "PlaceRules" (gms.getD i (0, "")).1) "java/lang/String") := by decide +kernel
theorem q_n0 : gvL[174]? = some (Cond.not (.castable "java/lang/UnsupportedOperationException" "java/lang/IllegalArgumentException")) := by decide +kernel
theorem q_n1 : gvL[204]? = some (Cond.not (.castable "java/lang/IllegalArgumentException" "java/util/NoSuchElementException")) := by decide +kernel
theorem q_n2 : gvL[206]? = some (Cond.not (.castable "java/lang/IllegalStateException" "java/util/NoSuchElementException")) := by decide +kernel
theorem q_n3 : gvL[176]? = some (Cond.not (.castable "java/lang/IllegalStateException" "java/lang/IllegalArgumentException")) := by decide +kernel
theorem q_n4 : gvL[205]? = some (Cond.not (.castable "java/lang/UnsupportedOperationException" "java/util/NoSuchElementException")) := by decide +kernel
theorem t_ls : ∀ i, i < 11 → Cond.laysStatic "PlaceRules$Kind" (gkn.getD i "") "LPlaceRules$Kind;" ∈ lw_tbl := by
  intro i hi
  match i, hi with
  | 0, _ => exact gd_1 56 rfl
  | 1, _ => exact gd_6 0 rfl
  | 2, _ => exact gd_6 1 rfl
  | 3, _ => exact gd_6 2 rfl
  | 4, _ => exact gd_6 3 rfl
  | 5, _ => exact gd_6 4 rfl
  | 6, _ => exact gd_6 5 rfl
  | 7, _ => exact gd_6 6 rfl
  | 8, _ => exact gd_6 7 rfl
  | 9, _ => exact gd_6 8 rfl
  | 10, _ => exact gd_6 9 rfl
  | i + 11, hi => exact absurd hi (by omega)
theorem t_sr : ∀ i, i < 10 → Cond.stringRef "PlaceRules" (gms.getD i (0, "")).1 (gms.getD i (0, "")).2 ∈ lw_tbl := by
  intro i hi
  match i, hi with
  | 0, _ => exact gd_3 158 rfl
  | 1, _ => exact gd_3 232 rfl
  | 2, _ => exact gd_4 7 rfl
  | 3, _ => exact gd_4 15 rfl
  | 4, _ => exact gd_4 134 rfl
  | 5, _ => exact gd_4 142 rfl
  | 6, _ => exact gd_3 187 rfl
  | 7, _ => exact gd_3 208 rfl
  | 8, _ => exact gd_4 126 rfl
  | 9, _ => exact gd_3 103 rfl
  | i + 10, hi => exact absurd hi (by omega)
theorem t_lK : Cond.laysStatic "PlaceRules" "KINDS" "[LPlaceRules$Kind;" ∈ lw_tbl := gd_2 201 rfl
theorem t_lS : Cond.laysStatic "PlaceRules$1" "$SwitchMap$PlaceRules$Kind" "[I" ∈ lw_tbl := gd_4 87 rfl
theorem t_lC : Cond.laysStatic "java/lang/String" "COMPACT_STRINGS" "Z" ∈ lw_tbl := gd_2 215 rfl
theorem t_lP : Cond.laysStatic "jdk/internal/util/Preconditions" "SIOOBE_FORMATTER" "Ljava/util/function/BiFunction;" ∈ lw_tbl := gd_2 231 rfl
theorem t_lU : Cond.laysStatic "java/lang/Throwable" "UNASSIGNED_STACK" "[Ljava/lang/StackTraceElement;" ∈ lw_tbl := gd_3 88 rfl
theorem t_lN : Cond.laysStatic "java/lang/Throwable" "SUPPRESSED_SENTINEL" "Ljava/util/List;" ∈ lw_tbl := gd_3 90 rfl
theorem t_iK : Cond.initialized "PlaceRules$Kind" ∈ lw_tbl := gd_1 5 rfl
theorem t_i0 : Cond.initialized "PlaceRules" ∈ lw_tbl := gd_1 1 rfl
theorem t_i1 : Cond.initialized "PlaceRules$1" ∈ lw_tbl := gd_1 26 rfl
theorem t_iS : Cond.initialized "java/lang/String" ∈ lw_tbl := gd_1 21 rfl
theorem t_iP : Cond.initialized "jdk/internal/util/Preconditions" ∈ lw_tbl := gd_1 23 rfl
theorem t_iT : Cond.initialized "java/lang/Throwable" ∈ lw_tbl := gd_1 14 rfl
theorem t_aP : Cond.arrayOver (.object "PlaceRules$Place") ∈ lw_tbl := gd_1 37 rfl
theorem t_aU : Cond.arrayOver (.object "PlaceRules$Unit") ∈ lw_tbl := gd_1 39 rfl
theorem t_aW : Cond.arrayOver (.object "PlaceRules$Waiver") ∈ lw_tbl := gd_1 41 rfl
theorem t_aR : Cond.arrayOver (.object "PlaceRules$Rule") ∈ lw_tbl := gd_1 49 rfl
