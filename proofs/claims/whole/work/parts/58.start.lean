/-! The start: the parameters out of what is given; the walk from the law's entry. Written by wip/tools/m58.py; the rows behind whole_start are the skeleton's, with the launch's flag handed on. -/
theorem gq {args : Array Value} {s : State} (h : (Jvm.Cond.and given_1 narrow_1).before args s = true) {k : Nat} {w : Cond} (hk : gvL[k]? = some w) : w.before args s = true := flat_of_before _ h w (List.mem_of_getElem? hk)
theorem va_En_c {E d : String} {nm : List String} {F : List (String × String × String × List Int32)} {ad ad2 : Nat → Nat} {A : Nat → Prop} {U : State} {H : Heap} (h : va_En E d nm F ad A U H) (he : ∀ i, i < nm.length → ad2 i = ad i) : va_En E d nm F ad2 A U H :=
  ⟨fun i hi => by rw [he i hi]; exact h.1 i hi, fun i j hi hj hh => h.2 i j hi hj (by rw [← he i hi, ← he j hj]; exact hh)⟩
theorem va_T_c {ty : FieldType} {t N : Nat} {f g : Nat → Value} {A : Nat → Prop} {U : State} {H : Heap} (h : va_T ty t N f A U H) (he : ∀ j, j < N → g j = f j) : va_T ty t N g A U H := by
  obtain ⟨cell, h1, h2, h3, h4, h5, h6, h7⟩ := h
  exact ⟨cell, h1, h2, h3, h4, h5, fun j hj => by rw [he j hj]; exact h6 j hj, h7⟩
theorem vk_S_c {N : Nat} {len : List Nat} {byt : List (List Int32)} {adK adV k2 v2 : Nat → Nat} {A : Nat → Prop} {U : State} {H : Heap} (h : vk_S N len byt adK adV A U H) (he : ∀ i, i < N → k2 i = adK i) (hv : ∀ i, i < N → v2 i = adV i) : vk_S N len byt k2 v2 A U H :=
  ⟨fun i hi => by rw [he i hi, hv i hi]; exact h.1 i hi, fun i j hi hj hh => h.2 i j hi hj (by rw [← he i hi, ← he j hj]; exact hh)⟩
theorem vk_R_at {own tx : String} {k a : Nat} {A : Array Value} {U : State} (h1 : (Cond.stringRef own k tx).before A U = true) (h2 : (Term.string own k).eval A U none [] U = some (.ref a)) : vk_R own k tx a U := vk_R.of h1 h2
def tyL : List FieldType := [.int, .long, .boolean, .object "PlaceRules$Place", .object "PlaceRules$Unit", .object "PlaceRules$Waiver", .object "PlaceRules$Rule"]
set_option maxHeartbeats 4000000 in
theorem gstart {s : State} {b : Nat} (hts : ∀ w ∈ lw_tbl, w.before #[Value.ref b] s = true) (hgv : (Jvm.Cond.and given_1 narrow_1).before #[Value.ref b] s = true) (E : Nat → va_E) : ∃ G : gP, gb G = s.heap.size ∧ gJ G 0 E s ∧ ncJ s := by
  have hA : ∀ a : Nat, a < s.heap.size → ¬ (fun q : Nat => s.heap.size ≤ q) a := fun a h => Nat.not_le.mpr h
  have hg : ∀ w ∈ gts, w.before #[Value.ref b] s = true := fun w hw => hts w (List.mem_filter.mp hw).1
  have hk : ∀ k : Nat, ∃ cd : ClassId × (Nat → Nat), ∀ q, gcl[k]? = some q → u_Kn s q.1 q.2.1 q.2.2 cd.1 cd.2 := by
    intro k
    match k with
    | 0 =>
      obtain ⟨c0, i0, h0⟩ := u_known (C := "PlaceRules") (T := T_PR) (N := 11) (n := 11) hg in_PR (hg _ kn_PR)
      exact ⟨(c0, i0), fun q hq => by cases hq; exact h0⟩
    | 1 =>
      obtain ⟨c0, i0, h0⟩ := u_known (C := "PlaceRules$RuleBook") (T := T_RB) (N := 6) (n := 6) hg in_RB (hg _ kn_RB)
      exact ⟨(c0, i0), fun q hq => by cases hq; exact h0⟩
    | 2 =>
      obtain ⟨c0, i0, h0⟩ := u_known (C := "PlaceRules$Rule") (T := T_RU) (N := 5) (n := 5) hg in_RU (hg _ kn_RU)
      exact ⟨(c0, i0), fun q hq => by cases hq; exact h0⟩
    | 3 =>
      obtain ⟨c0, i0, h0⟩ := u_known (C := "PlaceRules$OwnRules") (T := T_OW) (N := 2) (n := 2) hg in_OW (hg _ kn_OW)
      exact ⟨(c0, i0), fun q hq => by cases hq; exact h0⟩
    | 4 =>
      obtain ⟨c0, i0, h0⟩ := u_known (C := "PlaceRules$Text") (T := T_TX) (N := 7) (n := 7) hg in_TX (hg _ kn_TX)
      exact ⟨(c0, i0), fun q hq => by cases hq; exact h0⟩
    | 5 =>
      obtain ⟨c0, i0, h0⟩ := u_known (C := "PlaceRules$Question") (T := T_QU) (N := 18) (n := 18) hg in_QU (hg _ kn_QU)
      exact ⟨(c0, i0), fun q hq => by cases hq; exact h0⟩
    | 6 =>
      obtain ⟨c0, i0, h0⟩ := u_known (C := "PlaceRules$NumberSet") (T := T_NS) (N := 2) (n := 2) hg in_NS (hg _ kn_NS)
      exact ⟨(c0, i0), fun q hq => by cases hq; exact h0⟩
    | 7 =>
      obtain ⟨c0, i0, h0⟩ := u_known (C := "PlaceRules$Place") (T := T_PL) (N := 5) (n := 5) hg in_PL (hg _ kn_PL)
      exact ⟨(c0, i0), fun q hq => by cases hq; exact h0⟩
    | 8 =>
      obtain ⟨c0, i0, h0⟩ := u_known (C := "PlaceRules$Unit") (T := T_UN) (N := 11) (n := 11) hg in_UN (hg _ kn_UN)
      exact ⟨(c0, i0), fun q hq => by cases hq; exact h0⟩
    | 9 =>
      obtain ⟨c0, i0, h0⟩ := u_known (C := "PlaceRules$Waiver") (T := T_WV) (N := 4) (n := 4) hg in_WV (hg _ kn_WV)
      exact ⟨(c0, i0), fun q hq => by cases hq; exact h0⟩
    | 10 =>
      obtain ⟨c0, i0, h0⟩ := u_known (C := "PlaceRulesModel") (T := T_MD) (N := 28) (n := 28) hg in_MD (hg _ kn_MD)
      exact ⟨(c0, i0), fun q hq => by cases hq; exact h0⟩
    | k + 11 => exact ⟨(0, fun _ => 0), fun q hq => by simp at hq⟩
  obtain ⟨fd, hfd⟩ := Classical.axiomOfChoice hk
  have ha : ∀ k : Nat, ∃ cA : ClassId, ∀ ty, tyL[k]? = some ty → ArrOfT s cA ty ∧ va_RA s cA ty := by
    intro k
    match k with
    | 0 =>
      obtain ⟨c0, k0, comp, h1, h2, h3⟩ := Cond.arrayClass_spec (hg _ ka_int)
      exact ⟨c0, fun ty hty => by cases hty; exact ⟨fun n z => ⟨fun k h => (by cases h), k0, h2, comp, h3⟩, h1⟩⟩
    | 1 =>
      obtain ⟨c0, k0, comp, h1, h2, h3⟩ := Cond.arrayClass_spec (hg _ ka_long)
      exact ⟨c0, fun ty hty => by cases hty; exact ⟨fun n z => ⟨fun k h => (by cases h), k0, h2, comp, h3⟩, h1⟩⟩
    | 2 =>
      obtain ⟨c0, k0, comp, h1, h2, h3⟩ := Cond.arrayClass_spec (hg _ ka_boolean)
      exact ⟨c0, fun ty hty => by cases hty; exact ⟨fun n z => ⟨fun k h => (by cases h), k0, h2, comp, h3⟩, h1⟩⟩
    | 3 =>
      obtain ⟨comp, c0, k0, h1, h2, h3, h4, h5⟩ := Cond.arrayOver_spec (hts _ t_aP)
      exact ⟨c0, fun ty hty => by cases hty; exact ⟨fun n z => ⟨fun k h => (by cases h), k0, h3, comp, h4⟩, k0, comp, h3, h4, h1, h5⟩⟩
    | 4 =>
      obtain ⟨comp, c0, k0, h1, h2, h3, h4, h5⟩ := Cond.arrayOver_spec (hts _ t_aU)
      exact ⟨c0, fun ty hty => by cases hty; exact ⟨fun n z => ⟨fun k h => (by cases h), k0, h3, comp, h4⟩, k0, comp, h3, h4, h1, h5⟩⟩
    | 5 =>
      obtain ⟨comp, c0, k0, h1, h2, h3, h4, h5⟩ := Cond.arrayOver_spec (hts _ t_aW)
      exact ⟨c0, fun ty hty => by cases hty; exact ⟨fun n z => ⟨fun k h => (by cases h), k0, h3, comp, h4⟩, k0, comp, h3, h4, h1, h5⟩⟩
    | 6 =>
      obtain ⟨comp, c0, k0, h1, h2, h3, h4, h5⟩ := Cond.arrayOver_spec (hts _ t_aR)
      exact ⟨c0, fun ty hty => by cases hty; exact ⟨fun n z => ⟨fun k h => (by cases h), k0, h3, comp, h4⟩, k0, comp, h3, h4, h1, h5⟩⟩
    | k + 7 => exact ⟨0, fun ty hty => by simp [tyL] at hty⟩
  obtain ⟨fa, hfa⟩ := Classical.axiomOfChoice ha
  obtain ⟨adE, hEn, hEv⟩ := va_Enof2 (E := "PlaceRules$Kind") (d := "LPlaceRules$Kind;") (nm := gkn) (F := gkF) (A := fun q : Nat => s.heap.size ≤ q) (fun i hi => hts _ (t_ls i hi)) (hts _ t_iK) (fun i hi => gq hgv (q_ex i hi)) (fun q hq i hi => by
    simp only [gkF, List.mem_cons, List.not_mem_nil, or_false] at hq
    rcases hq with rfl | rfl | rfl | rfl
    · exact gq hgv (q_f0 i hi)
    · exact gq hgv (q_f1 i hi)
    · exact gq hgv (q_f2 i hi)
    · exact gq hgv (q_f3 i hi)) (fun i j hi hj hij => (q_d i hi j hj hij).imp (gq hgv) (gq hgv)) hA
  obtain ⟨tK, eK, hTK⟩ := va_Tof (tm := (.static "PlaceRules" "KINDS" "[LPlaceRules$Kind;")) (ty := .object "PlaceRules$Kind") (N := 11) (f := fun j => .ref (adE j)) (A := fun q : Nat => s.heap.size ≤ q) (by decide) (gq hgv q_ka) (va_eqv (gq hgv q_kl) rfl) (fun j hj => va_eqv (gq hgv (q_ke j hj)) (hEv j hj)) hA
  obtain ⟨tS, eS, hTS⟩ := va_Tof (tm := (.static "PlaceRules$1" "$SwitchMap$PlaceRules$Kind" "[I")) (ty := .int) (N := 11) (f := fun j => .int (nI (j + 1))) (A := fun q : Nat => s.heap.size ≤ q) (by decide) (gq hgv q_sa) (va_eqv (gq hgv q_sl) rfl) (fun j hj => va_eqv (gq hgv (q_se j hj)) rfl) hA
  obtain ⟨adK, adV, hS, hSv⟩ := vk_Sof (N := 11) (tm := fun i => .string "PlaceRules$Kind" (gks.getD i 0)) (len := gkl) (byt := gkb) (A := fun q : Nat => s.heap.size ≤ q) (by decide) (fun i hi => gq hgv (q_sx i hi)) (fun i hi => gq hgv (q_sc i hi)) (fun i hi => gq hgv (q_sv i hi)) (fun i hi => gq hgv (q_sn i hi)) (fun i hi j hj => gq hgv (q_sb i hi j hj)) (fun i j hi hj hij => (q_sd i hi j hj hij).imp (gq hgv) (gq hgv)) hA
  have hW := va_Efof (N := 11) (E := "PlaceRules$Kind") (d0 := "LPlaceRules$Kind;") (o := "PlaceRules$Kind") (n := "word") (d := "Ljava/lang/String;") (nm := gkn) (v := fun i => .ref (adK i)) (tm := fun i => .string "PlaceRules$Kind" (gks.getD i 0)) (ad := adE) (A := fun q : Nat => s.heap.size ≤ q) hEv (fun i hi => gq hgv (q_w i hi)) (fun i hi => hSv i hi) hA
  have hm : ∀ i : Nat, ∃ t : Nat, i < 10 → (Term.string "PlaceRules" (gms.getD i (0, "")).1).eval #[Value.ref b] s none [] s = some (.ref t) := by
    intro i
    by_cases hi : i < 10
    · obtain ⟨t, c0, cell, k0, h1, -⟩ := Cond.exactly_spec (gq hgv (q_mx i hi))
      exact ⟨t, fun _ => h1⟩
    · exact ⟨0, fun h => absurd h hi⟩
  obtain ⟨adM, hM⟩ := Classical.axiomOfChoice hm
  refine ⟨((fun k => (fd k).1, fun k => (fd k).2), fa, fun k => if k < 11 then adE k else if k = 11 then tK else if k = 12 then tS else if k < 31 then adK (k - 20) else if k < 51 then adV (k - 40) else adM (k - 60), s.heap.size), rfl, ⟨⟨⟨fun k q hq => hfd k q hq, ?_⟩, fun k q hq => by simp [gw] at hq, adG_D, Nat.le_refl _, fun w hw => word_at (State.WarmedH.refl s) (good_of_word (List.mem_filter.mp hw).2) (hg w hw), fun w hw hgk => va_Nw.of (gnk_on hgk) (hts w hw), fun i hi => ?_, ?_, ?_, ?_, ?_, ?_, ?_, ?_, ?_, ?_, ?_, ?_, ?_⟩, rfl, va_AO.of (hts _ t_aP), va_AO.of (hts _ t_aU), va_AO.of (hts _ t_aW), va_AO.of (hts _ t_aR)⟩, va_Nc.of (gq hgv q_n0), va_Nc.of (gq hgv q_n1), va_Nc.of (gq hgv q_n2), va_Nc.of (gq hgv q_n3), va_Nc.of (gq hgv q_n4)⟩
  · intro k q hq
    match k, hq with
    | 0, hq => cases hq; exact hfa 0 _ rfl
    | 1, hq => cases hq; exact hfa 1 _ rfl
    | 2, hq => cases hq; exact hfa 2 _ rfl
    | 3, hq => cases hq; exact hfa 3 _ rfl
    | 4, hq => cases hq; exact hfa 4 _ rfl
    | 5, hq => cases hq; exact hfa 5 _ rfl
    | 6, hq => cases hq; exact hfa 6 _ rfl
    | k + 7, hq => simp [gtys] at hq
  · have e : (if 60 + i < 11 then adE (60 + i) else if 60 + i = 11 then tK else if 60 + i = 12 then tS else if 60 + i < 31 then adK (60 + i - 20) else if 60 + i < 51 then adV (60 + i - 40) else adM (60 + i - 60)) = adM i := by
      rw [if_neg (by omega), if_neg (by omega), if_neg (by omega), if_neg (by omega), if_neg (by omega), show 60 + i - 60 = i by omega]
    show vk_R _ _ _ (if 60 + i < 11 then adE (60 + i) else if 60 + i = 11 then tK else if 60 + i = 12 then tS else if 60 + i < 31 then adK (60 + i - 20) else if 60 + i < 51 then adV (60 + i - 40) else adM (60 + i - 60)) s
    rw [e]
    exact vk_R_at (hts _ (t_sr i hi)) (hM i hi)
  · exact va_En_c hEn (fun i hi => if_pos hi)
  · exact va_Zof (hts _ t_lK) (hts _ t_i0) eK hA
  · exact va_T_c hTK (fun j hj => congrArg Value.ref (if_pos hj))
  · exact va_Zof (hts _ t_lS) (hts _ t_i1) eS hA
  · exact hTS
  · intro i hi
    have e1 : (if 20 + i < 11 then adE (20 + i) else if 20 + i = 11 then tK else if 20 + i = 12 then tS else if 20 + i < 31 then adK (20 + i - 20) else if 20 + i < 51 then adV (20 + i - 40) else adM (20 + i - 60)) = adK i := by
      rw [if_neg (by omega), if_neg (by omega), if_neg (by omega), if_pos (by omega), show 20 + i - 20 = i by omega]
    have e2 : (if i < 11 then adE i else if i = 11 then tK else if i = 12 then tS else if i < 31 then adK (i - 20) else if i < 51 then adV (i - 40) else adM (i - 60)) = adE i := if_pos hi
    show va_OF _ _ _ (.ref (if 20 + i < 11 then adE (20 + i) else if 20 + i = 11 then tK else if 20 + i = 12 then tS else if 20 + i < 31 then adK (20 + i - 20) else if 20 + i < 51 then adV (20 + i - 40) else adM (20 + i - 60))) (if i < 11 then adE i else if i = 11 then tK else if i = 12 then tS else if i < 31 then adK (i - 20) else if i < 51 then adV (i - 40) else adM (i - 60)) _ s s.heap
    rw [e1, e2]
    exact hW i hi
  · refine vk_S_c hS (fun i hi => ?_) (fun i hi => ?_)
    · show (if 20 + i < 11 then adE (20 + i) else if 20 + i = 11 then tK else if 20 + i = 12 then tS else if 20 + i < 31 then adK (20 + i - 20) else if 20 + i < 51 then adV (20 + i - 40) else adM (20 + i - 60)) = adK i
      rw [if_neg (by omega), if_neg (by omega), if_neg (by omega), if_pos (by omega), show 20 + i - 20 = i by omega]
    · show (if 40 + i < 11 then adE (40 + i) else if 40 + i = 11 then tK else if 40 + i = 12 then tS else if 40 + i < 31 then adK (40 + i - 20) else if 40 + i < 51 then adV (40 + i - 40) else adM (40 + i - 60)) = adV i
      rw [if_neg (by omega), if_neg (by omega), if_neg (by omega), if_neg (by omega), if_pos (by omega), show 40 + i - 40 = i by omega]
  · exact ⟨va_Zof (hts _ t_lC) (hts _ t_iS) (va_eqv (gq hgv q_cs) rfl) hA, va_Zqof (hts _ t_lP) (hts _ t_iP) (gq hgv q_pf) hA⟩
  · exact va_Zqof (hts _ t_lU) (hts _ t_iT) (gq hgv q_us) hA
  · exact va_Zqof (hts _ t_lN) (hts _ t_iT) (gq hgv q_ss) hA
  · exact gl.of (hts _ t_lU) hA
  · exact gl.of (hts _ t_lN) hA
set_option maxHeartbeats 4000000 in
theorem whole_start {p : Program} {e : Env} {s : State} {m : MethodId} {below : List Frame} {meth : Method} {c : Code} (l : Launch) (hst : l.stackTraces = false) {b L : Nat} {xs : Nat → Int32} (hL : L ≤ 3072) (C0 : lw_At p s m meth c b L xs) : W p l e room_1 s m #[Value.ref b] below meth c s.heap [] 0 0 (lw_Z below #[Value.ref b] s) (entryFrame m ([Value.ref b] : List Value).toArray 7) := by
  obtain ⟨hx, hb, hr, hml, hown, hts, hX, hbl, hlocks, hgv⟩ := id C0
  obtain ⟨G, hgb, ⟨hI, hz, hao⟩, hN⟩ := gstart hts hgv (fun _ => .inr (0, []))
  have hbA : ¬ gA G b := by
    show ¬ gb G ≤ b
    rw [hgb]
    exact Nat.not_le.mpr hbl
  have S : CallFix p m c code 7 s #[Value.ref b] gts "PlaceRulesLaw" := ⟨hx, hb, hml, hown, fun w hw => hts w (List.mem_filter.mp hw).1⟩
  have hl := lv_entry ([.ref b]) (n := 7) (Nat.le_of_ble_eq_true rfl)
  rw [lg_entry_eq]
  generalize (lg_sl ([.ref b]) ++ List.replicate (7 - (lg_sl ([.ref b])).length) Slot.unset).toArray = ls at hl ⊢
  have hl : lv_has ls 7 [(0, .ref b)] := hl
  have hO : gN G 0 (fun _ => .inr (0, [])) s s.heap [] := ⟨hI.start (fun _ h => h), hz, hao⟩
  refine z_new (ci := 0) (fs := [.null, .null, .int 0, .null, .int 0, .null, .null, .null, .null, .null, .int 0]) S hO rfl in_PR tk_PR kk_LW_8 kn_PR kt_PR (fun j hj => by match j, hj with | 0, _ => rfl | 1, _ => rfl | 2, _ => rfl | 3, _ => rfl | 4, _ => rfl | 5, _ => rfl | 6, _ => rfl | 7, _ => rfl | 8, _ => rfl | 9, _ => rfl | 10, _ => rfl | j + 11, hj => exact absurd hj (by show ¬ j + 11 < 11; omega)) ⟨(Nat.le_of_ble_eq_true rfl), (Nat.le_of_ble_eq_true rfl)⟩ d_LW_law_0 (fun H hO => ?_)
  refine lv_dup S.1 S.2.1 d_LW_law_3 rfl ?_
  refine z_ini (rest := [.ref (adG G 0)]) (k0 := 0) S hO (k_PR_init l G _ vu_s) rfl rfl kc_PR_init kt_PR km_LW_74 ki_PR_init rfl ⟨by decide, by decide, by decide⟩ hl.1 (Nat.le_of_ble_eq_true rfl) ⟨(Nat.le_of_ble_eq_true rfl), (Nat.le_of_ble_eq_true rfl)⟩ ⟨(Nat.le_of_ble_eq_true rfl), (Nat.le_of_ble_eq_true rfl)⟩ d_LW_law_4 (fun H locs hO => ?_)
  refine lv_astore_n (lv' := [(1, .ref (adG G 0)), (0, .ref b)]) S.1 S.2.1 d_LW_law_7 rfl hl (by decide) rfl (fun ls hl => ?_)
  refine z_new (ci := 10) (fs := [.int 0, .null, .int 0, .null, .null, .int 0, .null, .null, .null, .null, .null, .int 0, .null, .null, .null, .null, .null, .int 0, .int 0, .null, .int 0, .null, .int 0, .null, .int 0, .int 0, .int 0, .null]) S hO rfl in_MD tk_MD kk_LW_75 kn_MD kt_MD (fun j hj => by match j, hj with | 0, _ => rfl | 1, _ => rfl | 2, _ => rfl | 3, _ => rfl | 4, _ => rfl | 5, _ => rfl | 6, _ => rfl | 7, _ => rfl | 8, _ => rfl | 9, _ => rfl | 10, _ => rfl | 11, _ => rfl | 12, _ => rfl | 13, _ => rfl | 14, _ => rfl | 15, _ => rfl | 16, _ => rfl | 17, _ => rfl | 18, _ => rfl | 19, _ => rfl | 20, _ => rfl | 21, _ => rfl | 22, _ => rfl | 23, _ => rfl | 24, _ => rfl | 25, _ => rfl | 26, _ => rfl | 27, _ => rfl | j + 28, hj => exact absurd hj (by show ¬ j + 28 < 28; omega)) ⟨(Nat.le_of_ble_eq_true rfl), (Nat.le_of_ble_eq_true rfl)⟩ d_LW_law_8 (fun H hO => ?_)
  refine lv_dup S.1 S.2.1 d_LW_law_11 rfl ?_
  refine z_ini (rest := [.ref (adG G 140)]) (k0 := 140) S hO (k_MD_init l G _ vu_s) rfl rfl kc_MD_init kt_MD km_LW_77 ki_MD_init rfl ⟨by decide, by decide, by decide⟩ hl.1 (Nat.le_of_ble_eq_true rfl) ⟨(Nat.le_of_ble_eq_true rfl), (Nat.le_of_ble_eq_true rfl)⟩ ⟨(Nat.le_of_ble_eq_true rfl), (Nat.le_of_ble_eq_true rfl)⟩ d_LW_law_12 (fun H locs hO => ?_)
  refine lv_astore_n (lv' := [(2, .ref (adG G 140)), (1, .ref (adG G 0)), (0, .ref b)]) S.1 S.2.1 d_LW_law_15 rfl hl (by decide) rfl (fun ls hl => ?_)
  refine lv_iconst (v := 1) S.1 S.2.1 d_LW_law_16 (by decide) ?_
  refine z_newa (N' := 1) (t0 := 1) (a0 := (1, .inr (.inl (fun _ => 0)))) (atype := .long) (ty := .long) S hO rfl ka_long rfl (fun C h => by cases h) (fun _ => rfl) (by decide) (by decide) (by decide) ⟨(Nat.le_of_ble_eq_true rfl), (Nat.le_of_ble_eq_true rfl)⟩ d_LW_law_17 (fun H hO => ?_)
  refine lv_astore_n (lv' := [(3, .ref (adG G 158)), (2, .ref (adG G 140)), (1, .ref (adG G 0)), (0, .ref b)]) S.1 S.2.1 d_LW_law_19 rfl hl (by decide) rfl (fun ls hl => ?_)
  refine lv_iconst (v := 0) S.1 S.2.1 d_LW_law_20 (by decide) ?_
  refine lv_istore (lv' := [(4, .int 0), (3, .ref (adG G 158)), (2, .ref (adG G 140)), (1, .ref (adG G 0)), (0, .ref b)]) S.1 S.2.1 d_LW_law_21 hl (by decide) rfl (fun ls hl => ?_)
  have hO2 : gN G 159 (Ef G) s H locs := hO.c (fun k hk => by
    by_cases h8 : k = 158
    · subst h8
      rw [vu_s]
      rfl
    · rw [vu_n h8]
      by_cases h4 : k < 140
      · rw [if_pos h4, vu_n (by omega), if_neg (by omega)]
      · rw [if_neg h4])
  exact W.widen (Nat.le_of_ble_eq_true rfl) (Nat.le_of_ble_eq_true rfl) (law_loop l hst S hr hlocks hX hbl hbA hgb hN hL (L + 7) 0 (by omega) (by omega) s00 t00 H locs ls RR_0 hO2.1 hl)
set_option maxHeartbeats 4000000 in
theorem lw_walk (l : Launch) (hst : l.stackTraces = false) (b : Addr) (xs : List Int32) : MetFree l x (headSpec (Jvm.Cond.code x code maxLocals ret :: tables_1) room_1) (lw_P b xs) (fun _ _ _ _ _ => True) lw_Q := by
  refine MetFree.of_bodyS (code := code) (maxLocals := maxLocals) (ret := ret) (by decide) ?_ ?_
  · intro args s m h hn
    obtain ⟨meth, c, h1, h2, h3, h4, h5, h6, -, -⟩ := Cond.code_spec hn (atoms_spec (ws := Jvm.Cond.code x code maxLocals ret :: tables_1) h _ List.mem_cons_self)
    exact ⟨meth, c, h1, h2, h3, h4, h5, h6⟩
  · intro p e s m args below meth c s₁ B hml0 hP _
    obtain ⟨rfl, hx, hbd, hgv⟩ := hP
    obtain ⟨scr, harrAt, hlist, hof, hsmall⟩ := hx
    obtain ⟨hcb, hkn, -, -⟩ := State.arrayAt?_spec harrAt
    have hown : s.vm.findClass R_law = some m.cls := findClass_of_methodNamed B.named
    have hts0 : ∀ c ∈ (Jvm.Cond.code x code maxLocals ret :: tables_1), c.before #[Value.ref b] s = true := atoms_spec (ws := Jvm.Cond.code x code maxLocals ret :: tables_1) B.pre
    have hts : ∀ w ∈ lw_tbl, w.before #[Value.ref b] s = true := k2_hts_sels lw_privs (fun w hw => hts0 w (List.mem_cons_of_mem _ hw)) lw_privs_ok
    have hml : c.maxLocals = 7 := B.maxLocals_eq (hts0 _ List.mem_cons_self)
    have X₀ : Stand p l e room_1 s m #[Value.ref b] below meth c s₁ [] 0 0 := Stand.of_body B
    have hh0 : s₁.heap = s.heap := by rw [B.state]; rfl
    have hsz : scr.slots.size = xs.length := by rw [← Array.length_toList, hlist, List.length_map]
    have hval : ∀ j : Nat, j < xs.length → scr.slots[j]? = some (.int (xs.getD j 0)) := fun j hj => by
      rw [← Array.getElem?_toList, hlist]
      simp [hj]
    have hbl : b < s.heap.size := (Array.getElem?_eq_some_iff.mp hcb).1
    have hX : va_X b xs.length (fun j => xs.getD j 0) s s.heap := ⟨scr, hcb, hof, hkn, hsz, hval⟩
    have K : W p l e room_1 s m #[Value.ref b] below meth c s₁.heap [] 0 0 (lw_Z below #[Value.ref b] s) (entryFrame m ([Value.ref b] : List Value).toArray 7) := by
      rw [hh0]
      exact whole_start l hst hbd ⟨B.exec, B.bytes, B.returns, hml, hown, hts, hX, hbl, B.notSynchronized, hgv⟩
    obtain ⟨t, a1, o, b1, b2, b3⟩ := K s₁ rfl X₀
    exact ⟨t, o, a1, b1, b2, b3⟩
theorem lw_pre_spec {args : Array Value} {s : State} (h : (Jvm.Cond.and given_1 narrow_1).before args s = true) (hr : rest_1_c.before args s = true) : ∃ (b : Addr) (xs : List Int32), lw_P b xs args s := by
  have hs := flat_of_before _ h
  have hq := flat_of_before _ hr
  have hc : (Cond.count 1).before args s = true := hs _ (by decide +kernel)
  have harr : (Cond.arrayOf (.arg 0) .int).before args s = true := hs _ (by decide +kernel)
  have hle : (Cond.le (.length (.arg 0)) (.int 3072)).before args s = true := hs _ (by decide +kernel)
  have hlen : (Cond.isInt (.length (.arg 0))).before args s = true := hq _ (by decide +kernel)
  have hall : (Cond.all (.arg 0) (.isInt (.elem (.arg 0) (.index 0)))).before args s = true := hq _ (by decide +kernel)
  obtain ⟨b, xs, hb, hx⟩ := State.ints_of_pre rfl harr hlen hall
  have hsm : xs.length < 2 ^ 31 := hx.choose_spec.2.2.2
  have hev : (Term.length (.arg 0)).eval args s none [] s = some (.int xs.length.toInt32) := hx.length_eval hb
  have hv := Cond.le_ints hev (show (Term.int 3072).eval args s none [] s = some (.int 3072) from rfl)
  have hd : xs.length.toInt32 ≤ 3072 := by
    simpa [Cond.before, Cond.holds, hv] using hle
  have hN : xs.length ≤ 3072 := (Int32.ofNat_le_ofNat hsm (by decide)).mp (show Int32.ofNat xs.length ≤ Int32.ofNat 3072 from hd)
  exact ⟨b, xs, Cond.one_arg hc (show args[0]? = some (.ref b) from hb), hx, hN, h⟩
theorem lw_comes (l : Launch) (hst : l.stackTraces = false) : Comes l x (Jvm.Cond.code x code maxLocals ret :: tables_1) room_1 (fun tb e args s => Calls_1 tb e args s ∧ rest_1 tb e args s ∧ Pre_1 tb e args s)
    (fun _ _ args s o t => lw_Q args s o t) := by
  intro p e ha hc hk s m args below hf hfit hheap happ hpre
  obtain ⟨b, xs, hP⟩ := lw_pre_spec hpre.2.2 hpre.2.1
  obtain ⟨k, o, h1, h2, h3, hQ⟩ := lw_walk l hst b xs p e ha hc hk s m args below hf ((Spec.applies_iff_loose hf).mp happ).1 hP trivial
  exact ⟨k, o, h1, h2, h3, hQ⟩
theorem lw_frame {s t : State} {o : Outcome} {args : Array Value} (h : Framed s o t [] 601024 7293034) :
    Framed s o t (fieldLocs frame_1_writes args s ++ arrayLocs frame_1_arrays args s ++ staticLocs frame_1_statics s) 601024 7293034 := h
theorem lw_limb (L : Cond) (hL : ∀ (args : Array Value) (s t : State), L.after args s (.returned (some (.int 1))) t = true) :
    ArmFor flags0 classFile x code maxLocals ret World_1 tables_1 room_1 Calls_1 rest_1 Pre_1
      (fun tb e a s o t => postC L tb e a s o t ∧ Framed s o t (fieldLocs frame_1_writes a s ++ arrayLocs frame_1_arrays a s ++ staticLocs frame_1_statics s) 601024 7293034) := by
  intro l hfl _ _ p e ha hc hk s m args below hf hfit hheap happ hpre
  have hst : l.stackTraces = false := by
    show (!l.flags.contains noTraceFlag) = false
    rw [hfl]
    decide +kernel
  obtain ⟨k, o, h1, h2, h3, rfl, hF⟩ := lw_comes l hst p e ha hc hk s m args below hf hfit hheap happ hpre
  exact ⟨k, _, h1, h2, h3, hL args s _, lw_frame hF⟩
theorem i_vc : Claimed_1_1 ∧ Claimed_1_2 := ⟨lw_limb limb_1_1 (fun args s t => by simp [limb_1_1, Cond.after, Cond.holds, Cond.value]), lw_limb limb_1_2 (fun args s t => Cond.after_iff.mpr (by
  first | (rw [show limb_1_2 = Cond.eq .result (.int 1) from rfl, Cond.eq_ints (x := 1) (y := 1) rfl rfl]; simp; done) | (simp [limb_1_2, Cond.value, Term.eval]; done)))⟩
