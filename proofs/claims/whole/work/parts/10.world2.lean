/-! What holds all along: the tables' words, statics, constants (gZ), and the one world (gI at a method's entry, gO in its walk). -/
/-- G: numbers of classes and slots; array classes; addresses of constants (0..10 the kinds, 11 the array of them, 12 the switch's array, 20.. their words, 40.. the words' bytes, 60.. texts of exceptions); the first address of the world -/
abbrev gP : Type := va_G × (Nat → ClassId) × (Nat → Nat) × Nat
abbrev gb (G : gP) : Nat := G.2.2.2
abbrev ga (G : gP) : Nat → Nat := G.2.2.1
abbrev gA (G : gP) : Nat → Prop := fun q => G.2.2.2 ≤ q
def gtys (G : gP) : List (ClassId × FieldType) := [(G.2.1 0, .int), (G.2.1 1, .long), (G.2.1 2, .boolean), (G.2.1 3, .object "PlaceRules$Place"), (G.2.1 4, .object "PlaceRules$Unit"), (G.2.1 5, .object "PlaceRules$Waiver"), (G.2.1 6, .object "PlaceRules$Rule")]
/-- words that stay though they are no good ones: of a link between nest mates, of a cast, of a declaration -/
def gnk : Cond → Bool
  | .methodLinkNest .. => true
  | .fieldLinkNest .. => true
  | .castable .. => true
  | .declares _ => true
  | _ => false
theorem gnk_warm {w : Cond} (h : gnk w = true) {s U : State} (hW : s.WarmedH U.vm) (hZ : va_Nw w s) : va_Nw w U := by
  cases w <;> first | (exact va_Nw.warmM hW hZ) | (exact va_Nw.warmF hW hZ) | (exact va_Nw.warmC hW hZ) | (exact va_Nw.warmD hW hZ) | (simp [gnk] at h)
theorem gnk_on {w : Cond} (h : gnk w = true) : w.onTables = true := by
  cases w <;> first | rfl | (simp [gnk] at h)
def gkn : List String := ["SIZE", "WEIGHT", "GOODS", "LOTS", "OWNERS", "HAZARD", "ZONE", "UNITS", "DATES", "DAYS", "OWN"]
def gkF : List (String × String × String × List Int32) := [("java/lang/Enum", "ordinal", "I", [0, 1, 2, 3, 4, 5, 6, 7, 8, 9, 10]), ("PlaceRules$Kind", "numbers", "I", [1, 1, 1, 1, 1, 2, 2, 1, 1, 1, 1]), ("PlaceRules$Kind", "least", "I", [0, 0, 1, 1, 1, 0, 0, 1, 0, 0, 0]), ("PlaceRules$Kind", "most", "I", [1, 100000, 20, 20, 20, 7, 7, 40, 1000, 1000, 3])]
/-- the kinds' names: their lengths, their bytes -/
def gkl : List Nat := [4, 6, 5, 4, 6, 6, 4, 5, 5, 4, 3]
def gkb : List (List Int32) := [[115, 105, 122, 101], [119, 101, 105, 103, 104, 116], [103, 111, 111, 100, 115], [108, 111, 116, 115], [111, 119, 110, 101, 114, 115], [104, 97, 122, 97, 114, 100], [122, 111, 110, 101], [117, 110, 105, 116, 115], [100, 97, 116, 101, 115], [100, 97, 121, 115], [111, 119, 110]]
/-- the texts of the exceptions: entries of the class's pool -/
def gms : List (Nat × String) := [(95, "there are forty units"), (153, "there are twenty-four rules"), (196, "no such rule"), (215, "there are twenty exceptions"), (239, "the unit stands there"), (242, "the unit stands nowhere"), (298, "no such unit"), (300, "the unit stands somewhere"), (304, "below 0"), (307, "a number outside its range")]
/-- where a static field lies -/
def gl (C n d : String) (A : Nat → Prop) (U : State) (H : Heap) : Prop := ∃ (c : ClassId) (k : Class) (i : Nat) (f : Field) (a : Nat) (cell : Cell), U.vm.findClass C = some c ∧ U.fieldFound? C n d = some (c, k, i, f) ∧ f.isStatic = true ∧ k.statics = some a ∧ H[a]? = some cell ∧ cell.vm.isStatics = true ∧ cell.cls = c ∧ f.slot < cell.slots.size ∧ k.staticTypes[f.slot]? = some f.type ∧ ¬ A a
theorem gl.moved {C n d : String} {A : Nat → Prop} {u U : State} {H : Heap} (hvm : u.vm.Alike U.vm) (h : gl C n d A u H) : gl C n d A U H := by
  obtain ⟨c, k, i, f, a, cell, h1, h2, h3, h4, h5, h6, h7, h8, h9, h10⟩ := h
  obtain ⟨k', hi', he⟩ := State.fieldFound?_setVm hvm h2
  exact ⟨c, k', i, f, a, cell, by rw [hvm.findClass]; exact h1, hi', h3, by rw [he]; exact h4, h5, h6, h7, h8, by rw [he]; exact h9, h10⟩
theorem gl.kept {C n d : String} {A : Nat → Prop} {U : State} {H H1 : Heap} (h : gl C n d A U H) (hq : ∀ a : Nat, a < H.size → ¬ A a → H1[a]? = H[a]?) : gl C n d A U H1 := by
  obtain ⟨c, k, i, f, a, cell, h1, h2, h3, h4, h5, h6, h7, h8, h9, h10⟩ := h
  exact ⟨c, k, i, f, a, cell, h1, h2, h3, h4, by rw [hq a (Array.getElem?_eq_some_iff.mp h5).1 h10]; exact h5, h6, h7, h8, h9, h10⟩
theorem gl.word {C n d : String} {A : Nat → Prop} {s : State} {args : Array Value} (h : gl C n d A s s.heap) : (Cond.laysStatic C n d).before args s = true := by
  obtain ⟨c, k, i, f, a, cell, h1, h2, h3, h4, h5, h6, h7, h8, h9, -⟩ := h
  show (Cond.laysStatic C n d).holds args s none s [] = true
  exact Cond.laysStatic_of h1 h2 h3 h4 h5 h6 h7 h8 h9
theorem gl.of {args : Array Value} {s : State} {C n d : String} {A : Nat → Prop} (hl : (Cond.laysStatic C n d).before args s = true) (hA : ∀ a : Nat, a < s.heap.size → ¬ A a) : gl C n d A s s.heap := by
  obtain ⟨c, k, i, f, a, cell, h1, h2, h3, h4, h5, h6, h7, h8, h9⟩ := Cond.laysStatic_spec hl
  exact ⟨c, k, i, f, a, cell, h1, h2, h3, h4, h5, h6, h7, h8, h9, hA a (Array.getElem?_eq_some_iff.mp h5).1⟩
theorem gl_ref {C n d : String} {A : Nat → Prop} {s : State} {args : Array Value} (h : va_Zq C n d A s s.heap) : (Cond.isRef (.static C n d)).before args s = true := by
  rcases h with h | ⟨t, h⟩
  all_goals
    obtain ⟨cf, kf, fi, f, a, cell, h1, h2, h3, h4, h5, h6, h7, -⟩ := h
    simp [Cond.before, Cond.holds, Cond.value, Term.eval, State.fieldNamed?, h1, h2, h4, h5, h6, h7, Value.isRef]
/-- the heap's part of what stays -/
def gZh (G : gP) (U : State) (H : Heap) : Prop :=
  va_En "PlaceRules$Kind" "LPlaceRules$Kind;" gkn gkF (ga G) (gA G) U H ∧
  va_Z "PlaceRules" "KINDS" "[LPlaceRules$Kind;" (.ref (ga G 11)) (gA G) U H ∧ va_T (.object "PlaceRules$Kind") (ga G 11) 11 (fun j => .ref (ga G j)) (gA G) U H ∧
  va_Z "PlaceRules$1" "$SwitchMap$PlaceRules$Kind" "[I" (.ref (ga G 12)) (gA G) U H ∧ va_T .int (ga G 12) 11 (fun j => .int (nI (j + 1))) (gA G) U H ∧
  va_Ef 11 "PlaceRules$Kind" "word" "Ljava/lang/String;" (fun i => .ref (ga G (20 + i))) (ga G) (gA G) U H ∧ vk_S 11 gkl gkb (fun i => ga G (20 + i)) (fun i => ga G (40 + i)) (gA G) U H ∧
  (va_Z "java/lang/String" "COMPACT_STRINGS" "Z" (.int 1) (gA G) U H ∧ va_Zq "jdk/internal/util/Preconditions" "SIOOBE_FORMATTER" "Ljava/util/function/BiFunction;" (gA G) U H) ∧
  va_Zq "java/lang/Throwable" "UNASSIGNED_STACK" "[Ljava/lang/StackTraceElement;" (gA G) U H ∧ va_Zq "java/lang/Throwable" "SUPPRESSED_SENTINEL" "Ljava/util/List;" (gA G) U H ∧
  gl "java/lang/Throwable" "UNASSIGNED_STACK" "[Ljava/lang/StackTraceElement;" (gA G) U H ∧ gl "java/lang/Throwable" "SUPPRESSED_SENTINEL" "Ljava/util/List;" (gA G) U H
def gZ (G : gP) (U : State) (H : Heap) : Prop :=
  (∀ w ∈ gts, w.before #[] U = true) ∧ (∀ w ∈ lw_tbl, gnk w = true → va_Nw w U) ∧ (∀ i : Nat, i < 10 → vk_R "PlaceRules" (gms.getD i (0, "")).1 (gms.getD i (0, "")).2 (ga G (60 + i)) U) ∧ gZh G U H
theorem gZ.to {G : gP} {s U : State} {H H1 : Heap} (h : gZ G s H) (hW : s.WarmedH U.vm) (hq : ∀ a : Nat, a < H.size → ¬ gA G a → H1[a]? = H[a]?) : gZ G U H1 := by
  obtain ⟨h1, h2, h3, c1, c2, c3, c4, c5, c6, c7, c8, c9, c10, c11, c12⟩ := h
  have hv := hW.alike
  exact ⟨fun w hw => word_at hW (good_of_word (List.mem_filter.mp hw).2) (h1 w hw), fun w hw hk => gnk_warm hk hW (h2 w hw hk), fun i hi => (h3 i hi).warm hW,
    (c1.kept hq).moved hv, (c2.kept hq).moved hv, (c3.kept hq).moved hv, (c4.kept hq).moved hv, (c5.kept hq).moved hv, (c6.kept hq).moved hv, (c7.kept hq).moved hv, ⟨(c8.1.kept hq).moved hv, (c8.2.kept hq).moved hv⟩, (c9.kept hq).moved hv, (c10.kept hq).moved hv, (c11.kept hq).moved hv, (c12.kept hq).moved hv⟩
theorem gZ.at {G : gP} {s : State} {H : Heap} (h : gZ G s H) (args : Array Value) : ∀ w ∈ gts, w.before args s = true := fun w hw => word_at (State.WarmedH.refl s) (good_of_word (List.mem_filter.mp hw).2) (h.1 w hw)
/-- at a method's entry -/
def gI (G : gP) (n : Nat) (ad : Nat → Nat) (E : Nat → va_E) (U : State) : Prop :=
  va_K G.1 gcl (gtys G) U ∧ va_P G.1 gcl (gw n ad E) U.heap ∧ va_D (gA G) (gw n ad E) ∧ gb G ≤ U.heap.size ∧ gZ G U U.heap
/-- in a method's walk; A: what may have been written -/
def gO (G : gP) (A : Nat → Prop) (n : Nat) (ad : Nat → Nat) (E : Nat → va_E) (s : State) (H : Heap) (locs : List Loc) : Prop :=
  va_K G.1 gcl (gtys G) s ∧ va_P G.1 gcl (gw n ad E) H ∧ va_D (gA G) (gw n ad E) ∧ va_S A s.heap H locs ∧ (∀ q, A q → gA G q) ∧ gb G ≤ s.heap.size ∧ gZ G s s.heap
theorem gI.blind {G : gP} {n : Nat} {ad : Nat → Nat} {E : Nat → va_E} {av : List Value} : FrameBlind (va_Pc av (gI G n ad E)) := by
  intro a U g mk ⟨h0, h1, h2, h3, h4, h5⟩
  exact ⟨h0, va_K.moved (u := U) (U := U.calling g mk a) (Vm.Alike.refl U.vm) h1, h2, h3, h4, h5.to (U := U.calling g mk a) (State.WarmedH.refl U) (fun _ _ _ => rfl)⟩
theorem gI.start {G : gP} {n : Nat} {ad : Nat → Nat} {E : Nat → va_E} {s : State} {A : Nat → Prop} (h : gI G n ad E s) (hA : ∀ q, A q → gA G q) : gO G A n ad E s s.heap [] :=
  ⟨h.1, h.2.1, h.2.2.1, va_S.rf, hA, h.2.2.2.1, h.2.2.2.2⟩
section GOS
variable {G : gP} {A A1 : Nat → Prop} {n : Nat} {ad : Nat → Nat} {E E1 : Nat → va_E} {s : State} {H H1 : Heap} {locs locs1 : List Loc}
theorem gO.S (h : gO G A n ad E s H locs) : va_S A s.heap H locs := h.2.2.2.1
theorem gO.SG (h : gO G A n ad E s H locs) : va_S (gA G) s.heap H locs := ⟨h.S.1, fun q h1 h2 => h.S.2.1 q h1 (fun z => h2 (h.2.2.2.2.1 q z)), fun l hl => h.2.2.2.2.1 _ (h.S.2.2 l hl)⟩
theorem gO.to (h : gO G A n ad E s H locs) {U : State} (hU : U.heap = H) (hW : s.WarmedH U.vm) : gI G n ad E U := by
  refine ⟨va_K.moved hW.alike h.1, by rw [hU]; exact h.2.1, h.2.2.1, ?_, ?_⟩
  · rw [hU]; exact Nat.le_trans h.2.2.2.2.2.1 h.S.1
  · rw [hU]; exact h.2.2.2.2.2.2.to hW (fun a h1 h2 => h.SG.2.1 a h1 h2)
theorem gw_same {i : Nat} {q : Nat × va_E} (h : (gw n ad E1)[i]? = some q) : ∃ e, (gw n ad E)[i]? = some (q.1, e) := by
  have hi : i < n := by
    have h1 := (List.getElem?_eq_some_iff.mp h).1
    rw [gw_len] at h1
    exact h1
  rw [gw_at hi] at h
  cases h
  exact ⟨_, gw_at hi⟩
theorem gw_D (h : va_D (gA G) (gw n ad E)) : va_D (gA G) (gw n ad E1) := by
  refine ⟨fun i j p q hi hj hpq => ?_, fun k q hk => ?_⟩
  · obtain ⟨e1, h1⟩ := gw_same (E := E) hi
    obtain ⟨e2, h2⟩ := gw_same (E := E) hj
    exact h.1 i j _ _ h1 h2 hpq
  · obtain ⟨e1, h1⟩ := gw_same (E := E) hk
    exact h.2 k (q.1, e1) h1
/-- the world has moved on -/
theorem gO.next (h : gO G A n ad E s H locs) (hP : va_P G.1 gcl (gw n ad E1) H1) (hS : va_S A s.heap H1 locs1) : gO G A n ad E1 s H1 locs1 := ⟨h.1, hP, gw_D h.2.2.1, hS, h.2.2.2.2⟩
/-- .. nothing of it has changed -/
theorem gO.keep (h : gO G A n ad E s H locs) (hq : ∀ q : Nat, q < H.size → H1[q]? = H[q]?) (hS : va_S A s.heap H1 locs1) : gO G A n ad E s H1 locs1 :=
  h.next (h.2.1.kept (fun k q hk => hq q.1 ((h.2.1 k q hk).lt))) hS
theorem gO.hts (h : gO G A n ad E s H locs) (args : Array Value) : ∀ w ∈ gts, w.before args s = true := h.2.2.2.2.2.2.at args
theorem gO.recv (h : gO G A n ad E s H locs) {k ci : Nat} (hk : k < n) {fs : List Value} (hE : E k = .inr (ci, fs)) {q : vw_C} (hc : gcl[ci]? = some q) : ∃ cell : Cell, H[ad k]? = some cell ∧ cell.vm.isStatics = false ∧ s.vm.findClass q.1 = some cell.cls :=
  va_recv h.1 h.2.1 hc (q0 := k) (fs := fs) (by rw [gw_at hk, hE])
end GOS
