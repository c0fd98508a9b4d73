/-! The reference: loops. Written by wip/tools/m29.py. -/
/-- the last j below n that b takes -/
def lsf (b : Nat → Bool) : Nat → Option Nat
  | 0 => none
  | j + 1 => if b j = true then some j else lsf b j
theorem lsf_lt {b : Nat → Bool} : ∀ (n j : Nat), lsf b n = some j → j < n ∧ b j = true
  | 0, j, h => by simp [lsf] at h
  | n + 1, j, h => by
    unfold lsf at h
    split at h
    · cases h
      exact ⟨by omega, by assumption⟩
    · have := lsf_lt n j h
      exact ⟨by omega, this.2⟩
theorem oI_nn {o : Option Nat} (h : ¬ oI o < 0) : ∃ j, o = some j := by
  cases o with
  | none => exact absurd (by decide) h
  | some j => exact ⟨j, rfl⟩
theorem oI_ng {o : Option Nat} (h2 : ∀ j, o = some j → j < 2 ^ 31) (h : oI o < 0) : o = none := by
  cases o with
  | none => rfl
  | some j => exact absurd h (nI_pos (h2 j rfl))
/-- one below n is taken -/
def anB (b : Nat → Bool) : Nat → Bool
  | 0 => false
  | j + 1 => anB b j || b j
def meB (σ : Nat → Nat → Int32) (r p o : Int32) (j : Nat) : Bool := decide (σ 149 j = r) && decide (σ 150 j = p) && decide (σ 151 j = o)
def bdE (b d f : Int32) : Bool := !inB b (-1) 11 || !inB d (-1) 7 || !inB f 0 1000
def mxF (σ : Nat → Nat → Int32) (a b d : Int32) (ne : Nat) : Option Nat := lsf (meB σ a b d) ne
def mx3 (σ : Nat → Nat → Int32) (a b d : Int32) (ne : Nat) : Bool := !decide (0 ≤ oI (mxF σ a b d ne)) && decide (nI ne = 20)
def mX0 (σ : Nat → Nat → Int32) (a b d f : Int32) (nr ne : Nat) : Nat → Nat → Int32 := up2 σ 140 0 (fcd (!inB a 0 (nI nr - 1)) (bdE b d f) (mx3 σ a b d ne))
def mXc (σ : Nat → Nat → Int32) (a b d f : Int32) (nr ne : Nat) : Nat → Nat → Int32 :=
  if (!inB a 0 (nI nr - 1) || bdE b d f || mx3 σ a b d ne) = true then mX0 σ a b d f nr ne else (match mxF σ a b d ne with
    | some j => up2 (mX0 σ a b d f nr ne) 152 j (if mX0 σ a b d f nr ne 152 j < f then f else mX0 σ a b d f nr ne 152 j)
    | none => up2 (up2 (up2 (up2 (up2 (mX0 σ a b d f nr ne) 149 ne a) 150 ne b) 151 ne d) 152 ne f) 140 11 (nI (ne + 1)))
theorem mxF_s {σ : Nat → Nat → Int32} {a b d : Int32} {j : Nat} (h : meB σ a b d j = true) : mxF σ a b d (j + 1) = some j := by
  unfold mxF; rw [lsf, if_pos h]
theorem mxF_f {σ : Nat → Nat → Int32} {a b d : Int32} {j : Nat} (h : ¬ meB σ a b d j = true) : mxF σ a b d (j + 1) = mxF σ a b d j := by
  unfold mxF; rw [lsf, if_neg h]
theorem mXc_s {σ : Nat → Nat → Int32} {a b d f : Int32} {nr ne q : Nat} (h : (!inB a 0 (nI nr - 1) || bdE b d f || mx3 σ a b d ne) = false) (hq : mxF σ a b d ne = some q) : mXc σ a b d f nr ne = up2 (mX0 σ a b d f nr ne) 152 q (if mX0 σ a b d f nr ne 152 q < f then f else mX0 σ a b d f nr ne 152 q) := by
  unfold mXc
  rw [h, hq]
  rfl
theorem mXc_n {σ : Nat → Nat → Int32} {a b d f : Int32} {nr ne : Nat} (h : (!inB a 0 (nI nr - 1) || bdE b d f || mx3 σ a b d ne) = false) (hq : mxF σ a b d ne = none) : mXc σ a b d f nr ne = up2 (up2 (up2 (up2 (up2 (mX0 σ a b d f nr ne) 149 ne a) 150 ne b) 151 ne d) 152 ne f) 140 11 (nI (ne + 1)) := by
  unfold mXc
  rw [h, hq]
  rfl
set_option maxHeartbeats 4000000 in
set_option maxRecDepth 100000 in
theorem k_MD_except (l : Launch) (G : gP) (ad : Nat → Nat) (σ : Nat → Nat → Int32) (τ : Nat → Nat → Int64) (a b d f : Int32) (nr : Nat) (hmr : σ 140 5 = nI nr) (ne : Nat) (hme : σ 140 11 = nI ne) (hn2 : ne ≤ 20) : gim l y_MD_except c_MD_except 7 none { frames := 1, cells := 0, slots := 0, locals := 23 } G ad σ τ [.ref (ad 140), .int a, .int b, .int d, .int f] 0 0 (fun v σ1 τ1 => v = none ∧ σ1 = mXc σ a b d f nr ne ∧ τ1 = τ) (fun _ => False) := by
  refine gs_of (fun _ h => h) (by decide) (Nat.le_of_ble_eq_true rfl) ?_
  intro p e s m args below meth c ls S hk hr hx hl hO
  have hl : lv_has ls 7 [(0, .ref (ad 140)), (1, .int a), (2, .int b), (3, .int d), (4, .int f)] := hl
  refine lv_iconst (v := (-1)) S.1 S.2.1 d_MD_except_0 (by decide) ?_
  refine lv_istore (lv' := [(5, .int (-1)), (0, .ref (ad 140)), (1, .int a), (2, .int b), (3, .int d), (4, .int f)]) S.1 S.2.1 d_MD_except_1 hl (by decide) rfl (fun ls hl => ?_)
  refine lv_iconst (v := 0) S.1 S.2.1 d_MD_except_3 (by decide) ?_
  refine lv_istore (lv' := [(6, .int 0), (5, .int (-1)), (0, .ref (ad 140)), (1, .int a), (2, .int b), (3, .int d), (4, .int f)]) S.1 S.2.1 d_MD_except_4 hl (by decide) rfl (fun ls hl => ?_)
  have K_6 : ∀ (n9 : Nat) (j : Nat), ne - j < n9 → (j ≤ ne) → ∀ (H : Heap) (locs : List Loc), gO G (gA G) 159 ad (enc G ad σ τ) s H locs → ∀ ls : Array Slot, lv_has ls 7 [(6, .int (nI j)), (5, .int (oI (mxF σ a b d j))), (0, .ref (ad 140)), (1, .int a), (2, .int b), (3, .int d), (4, .int f)] → W p l e { frames := 1, cells := 0, slots := 0, locals := 23 } s m args below meth c H locs 0 0 (gM below (gA G) 0 0 (fun v t => ∃ E1, (∃ σ1 τ1, E1 = enc G ad σ1 τ1 ∧ (fun v σ1 τ1 => v = none ∧ σ1 = mXc σ a b d f nr ne ∧ τ1 = τ) v σ1 τ1) ∧ va_P G.1 gcl (gw 159 ad E1) t.heap) (fun x t => (fun _ => False) x ∧ va_P G.1 gcl (gw 159 ad (enc G ad σ τ)) t.heap) args s) (F0 m 6 ls []) := by
    intro n9
    induction n9 with
    | zero =>
      intro j hn9 hj H locs hO ls hl
      exact absurd hn9 (Nat.not_lt_zero _)
    | succ n9 ih_6 =>
      intro j hn9 hj H locs hO ls hl
      refine lv_iload S.1 S.2.1 d_MD_except_6 (lv_at hl 0 rfl) ?_
      refine lv_aload_n S.1 S.2.1 d_MD_except_8 rfl (lv_at hl 2 rfl) ?_
      refine g_get S hO fl_MD_156 (by decide) (sh_140 G ad _ _) (v := .int (σ 140 11)) rfl d_MD_except_9 ?_
      refine W.eq (g2 := F0 m 12 ls [.int (nI ne), .int (nI j)]) (by rw [show σ 140 11 = nI ne from hme]) ?_
      refine lv_icmp_ge (tgt := 63) S.1 S.2.1 d_MD_except_12 (by decide) (fun c_12 => ?_) (fun c_12 => ?_)
      · skip
        have hw : j = ne := by have h9 := ge_nI (x := nI ne) rfl rfl (by omega) (by omega) c_12; omega
        rw [hw] at hl
        have J_100 : ∀ (z : Int32), z = (bI (bdE b d f)) → ∀ (H : Heap) (locs : List Loc), gO G (gA G) 159 ad (enc G ad σ τ) s H locs → ∀ ls : Array Slot, lv_has ls 7 [(6, .int (nI ne)), (5, .int (oI (mxF σ a b d ne))), (0, .ref (ad 140)), (1, .int a), (2, .int b), (3, .int d), (4, .int f)] → W p l e { frames := 1, cells := 0, slots := 0, locals := 23 } s m args below meth c H locs 0 0 (gM below (gA G) 0 0 (fun v t => ∃ E1, (∃ σ1 τ1, E1 = enc G ad σ1 τ1 ∧ (fun v σ1 τ1 => v = none ∧ σ1 = mXc σ a b d f nr ne ∧ τ1 = τ) v σ1 τ1) ∧ va_P G.1 gcl (gw 159 ad E1) t.heap) (fun x t => (fun _ => False) x ∧ va_P G.1 gcl (gw 159 ad (enc G ad σ τ)) t.heap) args s) (F0 m 100 ls (.int z :: [])) := by
          intro z ez H locs hO ls hl
          subst ez
          refine lv_istore (lv' := [(6, .int (bI (bdE b d f))), (5, .int (oI (mxF σ a b d ne))), (0, .ref (ad 140)), (1, .int a), (2, .int b), (3, .int d), (4, .int f)]) S.1 S.2.1 d_MD_except_100 hl (by decide) rfl (fun ls hl => ?_)
          refine lv_aload_n S.1 S.2.1 d_MD_except_102 rfl (lv_at hl 2 rfl) ?_
          have J_122 : ∀ (z : Int32), z = (bI (!inB a 0 (nI nr - 1))) → ∀ (H : Heap) (locs : List Loc), gO G (gA G) 159 ad (enc G ad σ τ) s H locs → ∀ ls : Array Slot, lv_has ls 7 [(6, .int (bI (bdE b d f))), (5, .int (oI (mxF σ a b d ne))), (0, .ref (ad 140)), (1, .int a), (2, .int b), (3, .int d), (4, .int f)] → W p l e { frames := 1, cells := 0, slots := 0, locals := 23 } s m args below meth c H locs 0 0 (gM below (gA G) 0 0 (fun v t => ∃ E1, (∃ σ1 τ1, E1 = enc G ad σ1 τ1 ∧ (fun v σ1 τ1 => v = none ∧ σ1 = mXc σ a b d f nr ne ∧ τ1 = τ) v σ1 τ1) ∧ va_P G.1 gcl (gw 159 ad E1) t.heap) (fun x t => (fun _ => False) x ∧ va_P G.1 gcl (gw 159 ad (enc G ad σ τ)) t.heap) args s) (F0 m 122 ls (.int z :: [.ref (ad 140)])) := by
            intro z ez H locs hO ls hl
            subst ez
            refine lv_iload S.1 S.2.1 d_MD_except_122 (lv_at hl 0 rfl) ?_
            have J_143 : ∀ (z : Int32), z = (bI (mx3 σ a b d ne)) → ∀ (H : Heap) (locs : List Loc), gO G (gA G) 159 ad (enc G ad σ τ) s H locs → ∀ ls : Array Slot, lv_has ls 7 [(6, .int (bI (bdE b d f))), (5, .int (oI (mxF σ a b d ne))), (0, .ref (ad 140)), (1, .int a), (2, .int b), (3, .int d), (4, .int f)] → W p l e { frames := 1, cells := 0, slots := 0, locals := 23 } s m args below meth c H locs 0 0 (gM below (gA G) 0 0 (fun v t => ∃ E1, (∃ σ1 τ1, E1 = enc G ad σ1 τ1 ∧ (fun v σ1 τ1 => v = none ∧ σ1 = mXc σ a b d f nr ne ∧ τ1 = τ) v σ1 τ1) ∧ va_P G.1 gcl (gw 159 ad E1) t.heap) (fun x t => (fun _ => False) x ∧ va_P G.1 gcl (gw 159 ad (enc G ad σ τ)) t.heap) args s) (F0 m 143 ls (.int z :: [.int (bI (bdE b d f)), .int (bI (!inB a 0 (nI nr - 1))), .ref (ad 140)])) := by
              intro z ez H locs hO ls hl
              subst ez
              refine g_VI (As := [.int (bI (!inB a 0 (nI nr - 1))), .int (bI (bdE b d f)), .int (bI (mx3 σ a b d ne))]) (rest := []) S hO (fun _ h => h) (k_MD_fails l G ad σ τ (!inB a 0 (nI nr - 1)) (bdE b d f) (mx3 σ a b d ne)) cw_MD_78 (by decide) (sh_140 G ad _ _) rfl rfl hl.1 (Nat.le_of_ble_eq_true rfl) ⟨(Nat.le_of_ble_eq_true rfl), (Nat.le_of_ble_eq_true rfl)⟩ ⟨(Nat.le_of_ble_eq_true rfl), (Nat.le_of_ble_eq_true rfl)⟩ d_MD_except_143 (fun q x ce H locs h9 => h9.elim) (fun v E1 H locs v_1 hO => ?_)
              obtain ⟨sf, t_2, rfl, rfl, hsf, ht_2⟩ := v_1
              rw [ht_2] at hO
              refine W.eq (g2 := F0 m 146 ls [.int (bI ((!inB a 0 (nI nr - 1)) || (bdE b d f) || (mx3 σ a b d ne)))]) rfl ?_
              refine lv_if_eq (tgt := 150) S.1 S.2.1 d_MD_except_146 (by decide) (fun c_146 => ?_) (fun c_146 => ?_)
              · skip
                have q_146 : ((!inB a 0 (nI nr - 1)) || (bdE b d f) || (mx3 σ a b d ne)) = false := b_0 c_146
                refine lv_iload S.1 S.2.1 d_MD_except_150 (lv_at hl 1 rfl) ?_
                refine lv_if_lt (tgt := 187) S.1 S.2.1 d_MD_except_152 (by decide) (fun c_152 => ?_) (fun c_152 => ?_)
                · skip
                  have hN := oI_ng (fun j h => by have := lsf_lt _ _ h; omega) c_152
                  have hn3 : ne < 20 := by
                    rcases Nat.lt_or_ge ne 20 with q9 | q9
                    · exact q9
                    · exfalso
                      have e9 : ne = 20 := by omega
                      have h9 : mx3 σ a b d ne = true := by simp only [mx3, e9, Bool.and_eq_true, Bool.not_eq_true', decide_eq_false_iff_not, decide_eq_true_eq]; exact ⟨Int32.not_le.mpr (by rw [← e9]; exact c_152), rfl⟩
                      rw [h9] at q_146
                      simp at q_146
                  refine lv_aload_n S.1 S.2.1 d_MD_except_187 rfl (lv_at hl 2 rfl) ?_
                  refine g_get S hO fl_MD_35 (by decide) (sh_140 G ad _ _) (v := .ref (ad 149)) rfl d_MD_except_188 ?_
                  refine lv_aload_n S.1 S.2.1 d_MD_except_191 rfl (lv_at hl 2 rfl) ?_
                  refine g_get S hO fl_MD_156 (by decide) (sh_140 G ad _ _) (v := .int (sf 140 11)) rfl d_MD_except_192 ?_
                  refine W.eq (g2 := F0 m 195 ls [.int (nI ne), .ref (ad 149)]) (by rw [show sf 140 11 = nI ne from (by simp [hsf, up2_at, hme])]) ?_
                  refine lv_iload_n S.1 S.2.1 d_MD_except_195 rfl (lv_at hl 3 rfl) ?_
                  obtain ⟨s_3, hs_3⟩ : ∃ z : Nat → Nat → Int32, z = up2 sf 149 ne a := ⟨_, rfl⟩
                  refine g_ias S hO (fun _ h => h) (by decide) (sh_149 G ad _ _) (vp_in_nI (show ne < 20 by omega) (by decide)) (E2 := enc G ad s_3 τ) (by rw [hs_3, nI_clamp (show ne < 2 ^ 31 by omega)]; exact enc_i (sh_149 G ad _ _)) d_MD_except_196 (fun H locs hO => ?_)
                  refine lv_aload_n S.1 S.2.1 d_MD_except_197 rfl (lv_at hl 2 rfl) ?_
                  refine g_get S hO fl_MD_38 (by decide) (sh_140 G ad _ _) (v := .ref (ad 150)) rfl d_MD_except_198 ?_
                  refine lv_aload_n S.1 S.2.1 d_MD_except_201 rfl (lv_at hl 2 rfl) ?_
                  refine g_get S hO fl_MD_156 (by decide) (sh_140 G ad _ _) (v := .int (s_3 140 11)) rfl d_MD_except_202 ?_
                  refine W.eq (g2 := F0 m 205 ls [.int (nI ne), .ref (ad 150)]) (by rw [show s_3 140 11 = nI ne from (by simp [hs_3, hsf, up2_at, hme])]) ?_
                  refine lv_iload_n S.1 S.2.1 d_MD_except_205 rfl (lv_at hl 4 rfl) ?_
                  obtain ⟨s_4, hs_4⟩ : ∃ z : Nat → Nat → Int32, z = up2 s_3 150 ne b := ⟨_, rfl⟩
                  refine g_ias S hO (fun _ h => h) (by decide) (sh_150 G ad _ _) (vp_in_nI (show ne < 20 by omega) (by decide)) (E2 := enc G ad s_4 τ) (by rw [hs_4, nI_clamp (show ne < 2 ^ 31 by omega)]; exact enc_i (sh_150 G ad _ _)) d_MD_except_206 (fun H locs hO => ?_)
                  refine lv_aload_n S.1 S.2.1 d_MD_except_207 rfl (lv_at hl 2 rfl) ?_
                  refine g_get S hO fl_MD_41 (by decide) (sh_140 G ad _ _) (v := .ref (ad 151)) rfl d_MD_except_208 ?_
                  refine lv_aload_n S.1 S.2.1 d_MD_except_211 rfl (lv_at hl 2 rfl) ?_
                  refine g_get S hO fl_MD_156 (by decide) (sh_140 G ad _ _) (v := .int (s_4 140 11)) rfl d_MD_except_212 ?_
                  refine W.eq (g2 := F0 m 215 ls [.int (nI ne), .ref (ad 151)]) (by rw [show s_4 140 11 = nI ne from (by simp [hs_4, hs_3, hsf, up2_at, hme])]) ?_
                  refine lv_iload_n S.1 S.2.1 d_MD_except_215 rfl (lv_at hl 5 rfl) ?_
                  obtain ⟨s_5, hs_5⟩ : ∃ z : Nat → Nat → Int32, z = up2 s_4 151 ne d := ⟨_, rfl⟩
                  refine g_ias S hO (fun _ h => h) (by decide) (sh_151 G ad _ _) (vp_in_nI (show ne < 20 by omega) (by decide)) (E2 := enc G ad s_5 τ) (by rw [hs_5, nI_clamp (show ne < 2 ^ 31 by omega)]; exact enc_i (sh_151 G ad _ _)) d_MD_except_216 (fun H locs hO => ?_)
                  refine lv_aload_n S.1 S.2.1 d_MD_except_217 rfl (lv_at hl 2 rfl) ?_
                  refine g_get S hO fl_MD_44 (by decide) (sh_140 G ad _ _) (v := .ref (ad 152)) rfl d_MD_except_218 ?_
                  refine lv_aload_n S.1 S.2.1 d_MD_except_221 rfl (lv_at hl 2 rfl) ?_
                  refine g_get S hO fl_MD_156 (by decide) (sh_140 G ad _ _) (v := .int (s_5 140 11)) rfl d_MD_except_222 ?_
                  refine W.eq (g2 := F0 m 225 ls [.int (nI ne), .ref (ad 152)]) (by rw [show s_5 140 11 = nI ne from (by simp [hs_5, hs_4, hs_3, hsf, up2_at, hme])]) ?_
                  refine lv_iload S.1 S.2.1 d_MD_except_225 (lv_at hl 6 rfl) ?_
                  obtain ⟨s_6, hs_6⟩ : ∃ z : Nat → Nat → Int32, z = up2 s_5 152 ne f := ⟨_, rfl⟩
                  refine g_ias S hO (fun _ h => h) (by decide) (sh_152 G ad _ _) (vp_in_nI (show ne < 20 by omega) (by decide)) (E2 := enc G ad s_6 τ) (by rw [hs_6, nI_clamp (show ne < 2 ^ 31 by omega)]; exact enc_i (sh_152 G ad _ _)) d_MD_except_227 (fun H locs hO => ?_)
                  refine lv_aload_n S.1 S.2.1 d_MD_except_228 rfl (lv_at hl 2 rfl) ?_
                  refine lv_dup S.1 S.2.1 d_MD_except_229 rfl ?_
                  refine g_get S hO fl_MD_156 (by decide) (sh_140 G ad _ _) (v := .int (s_6 140 11)) rfl d_MD_except_230 ?_
                  refine W.eq (g2 := F0 m 233 ls [.int (nI ne), .ref (ad 140)]) (by rw [show s_6 140 11 = nI ne from (by simp [hs_6, hs_5, hs_4, hs_3, hsf, up2_at, hme])]) ?_
                  refine lv_iconst (v := 1) S.1 S.2.1 d_MD_except_233 (by decide) ?_
                  refine lv_iadd S.1 S.2.1 d_MD_except_234 ?_
                  refine W.eq (g2 := F0 m 235 ls [.int (nI (ne + 1)), .ref (ad 140)]) (by rw [show (nI ne) + (1 : Int32) = nI (ne + 1) from nI_add ne 1]) ?_
                  obtain ⟨s_7, hs_7⟩ : ∃ z : Nat → Nat → Int32, z = up2 s_6 140 11 (nI (ne + 1)) := ⟨_, rfl⟩
                  refine g_put S hO (fun _ h => h) fp_MD_156 (by decide) (sh_140 G ad _ _) (v := .int (nI (ne + 1))) rfl rfl (Nat.le_of_ble_eq_true rfl) (E2 := enc G ad s_7 τ) (by rw [hs_7]; exact enc_i (sh_140 G ad _ _)) d_MD_except_235 (fun H locs hO => ?_)
                  subst hs_7
                  subst hs_6
                  subst hs_5
                  subst hs_4
                  subst hs_3
                  subst hsf
                  exact im_v S hk hr hO ⟨rfl, (mXc_n q_146 hN).symm, rfl⟩ (Nat.le_of_ble_eq_true rfl) (Nat.le_of_ble_eq_true rfl) d_MD_except_238
                · skip
                  obtain ⟨q, hq⟩ := oI_nn c_152
                  have hq2 := lsf_lt _ _ hq
                  have eF : oI (mxF σ a b d ne) = nI q := by rw [hq]; rfl
                  rw [eF] at hl
                  refine lv_aload_n S.1 S.2.1 d_MD_except_155 rfl (lv_at hl 2 rfl) ?_
                  refine g_get S hO fl_MD_44 (by decide) (sh_140 G ad _ _) (v := .ref (ad 152)) rfl d_MD_except_156 ?_
                  refine lv_iload S.1 S.2.1 d_MD_except_159 (lv_at hl 1 rfl) ?_
                  have J_185 : ∀ (z : Int32), z = (if sf 152 q < f then f else sf 152 q) → ∀ (H : Heap) (locs : List Loc), gO G (gA G) 159 ad (enc G ad sf τ) s H locs → ∀ ls : Array Slot, lv_has ls 7 [(6, .int (bI (bdE b d f))), (5, .int (nI q)), (0, .ref (ad 140)), (1, .int a), (2, .int b), (3, .int d), (4, .int f)] → W p l e { frames := 1, cells := 0, slots := 0, locals := 23 } s m args below meth c H locs 0 0 (gM below (gA G) 0 0 (fun v t => ∃ E1, (∃ σ1 τ1, E1 = enc G ad σ1 τ1 ∧ (fun v σ1 τ1 => v = none ∧ σ1 = mXc σ a b d f nr ne ∧ τ1 = τ) v σ1 τ1) ∧ va_P G.1 gcl (gw 159 ad E1) t.heap) (fun x t => (fun _ => False) x ∧ va_P G.1 gcl (gw 159 ad (enc G ad σ τ)) t.heap) args s) (F0 m 185 ls (.int z :: [.int (nI q), .ref (ad 152)])) := by
                    intro z ez H locs hO ls hl
                    subst ez
                    obtain ⟨s_8, hs_8⟩ : ∃ z : Nat → Nat → Int32, z = up2 sf 152 q (if sf 152 q < f then f else sf 152 q) := ⟨_, rfl⟩
                    refine g_ias S hO (fun _ h => h) (by decide) (sh_152 G ad _ _) (vp_in_nI (show q < 20 by omega) (by decide)) (E2 := enc G ad s_8 τ) (by rw [hs_8, nI_clamp (show q < 2 ^ 31 by omega)]; exact enc_i (sh_152 G ad _ _)) d_MD_except_185 (fun H locs hO => ?_)
                    subst hs_8
                    subst hsf
                    exact im_v S hk hr hO ⟨rfl, (mXc_s q_146 hq).symm, rfl⟩ (Nat.le_of_ble_eq_true rfl) (Nat.le_of_ble_eq_true rfl) d_MD_except_186
                  refine lv_iload S.1 S.2.1 d_MD_except_161 (lv_at hl 6 rfl) ?_
                  refine lv_aload_n S.1 S.2.1 d_MD_except_163 rfl (lv_at hl 2 rfl) ?_
                  refine g_get S hO fl_MD_44 (by decide) (sh_140 G ad _ _) (v := .ref (ad 152)) rfl d_MD_except_164 ?_
                  refine lv_iload S.1 S.2.1 d_MD_except_167 (lv_at hl 1 rfl) ?_
                  refine g_ial S hO (by decide) (sh_152 G ad _ _) (vp_in_nI (show q < 20 by omega) (by decide)) d_MD_except_169 ?_
                  refine W.eq (g2 := F0 m 170 ls [.int (sf 152 q), .int f, .int (nI q), .ref (ad 152)]) (by rw [nI_clamp (show q < 2 ^ 31 by omega)]) ?_
                  refine lv_icmp_le (tgt := 178) S.1 S.2.1 d_MD_except_170 (by decide) (fun c_170 => ?_) (fun c_170 => ?_)
                  · skip
                    refine lv_aload_n S.1 S.2.1 d_MD_except_178 rfl (lv_at hl 2 rfl) ?_
                    refine g_get S hO fl_MD_44 (by decide) (sh_140 G ad _ _) (v := .ref (ad 152)) rfl d_MD_except_179 ?_
                    refine lv_iload S.1 S.2.1 d_MD_except_182 (lv_at hl 1 rfl) ?_
                    refine g_ial S hO (by decide) (sh_152 G ad _ _) (vp_in_nI (show q < 20 by omega) (by decide)) d_MD_except_184 ?_
                    refine W.eq (g2 := F0 m 185 ls [.int (sf 152 q), .int (nI q), .ref (ad 152)]) (by rw [nI_clamp (show q < 2 ^ 31 by omega)]) ?_
                    exact J_185 _ (by simp [bI, c_170, Int32.not_lt.mpr c_170]) _ _ hO ls (lv_sub hl [0, 1, 2, 3, 4, 5, 6] rfl)
                  · skip
                    refine lv_iload S.1 S.2.1 d_MD_except_173 (lv_at hl 6 rfl) ?_
                    refine lv_goto (tgt := 185) S.1 S.2.1 d_MD_except_175 (by decide) ?_
                    exact J_185 _ (by simp [bI, c_170, Int32.not_le.mp c_170]) _ _ hO ls (lv_sub hl [0, 1, 2, 3, 4, 5, 6] rfl)
              · skip
                have q_146 : ((!inB a 0 (nI nr - 1)) || (bdE b d f) || (mx3 σ a b d ne)) = true := b_1 c_146
                subst hsf
                exact im_v S hk hr hO ⟨rfl, by rw [mXc, if_pos q_146]; rfl, rfl⟩ (Nat.le_of_ble_eq_true rfl) (Nat.le_of_ble_eq_true rfl) d_MD_except_149
            refine lv_iload S.1 S.2.1 d_MD_except_124 (lv_at hl 1 rfl) ?_
            refine lv_if_ge (tgt := 142) S.1 S.2.1 d_MD_except_126 (by decide) (fun c_126 => ?_) (fun c_126 => ?_)
            · skip
              refine lv_iconst (v := 0) S.1 S.2.1 d_MD_except_142 (by decide) ?_
              exact J_143 _ (by simp [bI, mx3, c_126, Int32.not_lt.mpr c_126]) _ _ hO ls (lv_sub hl [0, 1, 2, 3, 4, 5, 6] rfl)
            · skip
              refine lv_aload_n S.1 S.2.1 d_MD_except_129 rfl (lv_at hl 2 rfl) ?_
              refine g_get S hO fl_MD_156 (by decide) (sh_140 G ad _ _) (v := .int (σ 140 11)) rfl d_MD_except_130 ?_
              refine W.eq (g2 := F0 m 133 ls [.int (nI ne), .int (bI (bdE b d f)), .int (bI (!inB a 0 (nI nr - 1))), .ref (ad 140)]) (by rw [show σ 140 11 = nI ne from hme]) ?_
              refine lv_bipush (v := 20) S.1 S.2.1 d_MD_except_133 (by decide) ?_
              refine lv_icmp_ne (tgt := 142) S.1 S.2.1 d_MD_except_135 (by decide) (fun c_135 => ?_) (fun c_135 => ?_)
              · skip
                refine lv_iconst (v := 0) S.1 S.2.1 d_MD_except_142 (by decide) ?_
                exact J_143 _ (by simp [bI, mx3, c_126, Int32.not_le.mp c_126, c_135]) _ _ hO ls (lv_sub hl [0, 1, 2, 3, 4, 5, 6] rfl)
              · skip
                refine lv_iconst (v := 1) S.1 S.2.1 d_MD_except_138 (by decide) ?_
                refine lv_goto (tgt := 143) S.1 S.2.1 d_MD_except_139 (by decide) ?_
                exact J_143 _ (by simp [bI, mx3, c_126, Int32.not_le.mp c_126, c_135]) _ _ hO ls (lv_sub hl [0, 1, 2, 3, 4, 5, 6] rfl)
          refine lv_iload_n S.1 S.2.1 d_MD_except_103 rfl (lv_at hl 3 rfl) ?_
          refine lv_iconst (v := 0) S.1 S.2.1 d_MD_except_104 (by decide) ?_
          refine lv_aload_n S.1 S.2.1 d_MD_except_105 rfl (lv_at hl 2 rfl) ?_
          refine g_get S hO fl_MD_94 (by decide) (sh_140 G ad _ _) (v := .int (σ 140 5)) rfl d_MD_except_106 ?_
          refine W.eq (g2 := F0 m 109 ls [.int (nI nr), .int 0, .int a, .ref (ad 140)]) (by rw [show σ 140 5 = nI nr from hmr]) ?_
          refine lv_iconst (v := 1) S.1 S.2.1 d_MD_except_109 (by decide) ?_
          refine lv_isub S.1 S.2.1 d_MD_except_110 ?_
          refine g_SP (As := [.int a, .int 0, .int ((nI nr) - 1)]) (rest := [.ref (ad 140)]) S hO (k_MD_in l G ad σ τ a 0 ((nI nr) - 1)) cw_MD_67 g_cfC hl.1 (Nat.le_of_ble_eq_true rfl) ⟨(Nat.le_of_ble_eq_true rfl), (Nat.le_of_ble_eq_true rfl)⟩ ⟨(Nat.le_of_ble_eq_true rfl), (Nat.le_of_ble_eq_true rfl)⟩ d_MD_except_111 (fun q x ce H h9 => h9.elim) (fun v H v_9 hO => ?_)
          subst v_9
          refine W.eq (g2 := F0 m 114 ls [.int (bI (inB a 0 ((nI nr) - 1))), .ref (ad 140)]) rfl ?_
          refine lv_if_ne (tgt := 121) S.1 S.2.1 d_MD_except_114 (by decide) (fun c_114 => ?_) (fun c_114 => ?_)
          · skip
            have q_114 : (inB a 0 ((nI nr) - 1)) = true := b_1 c_114
            refine lv_iconst (v := 0) S.1 S.2.1 d_MD_except_121 (by decide) ?_
            exact J_122 _ (by simp [bI, q_114]) _ _ hO ls (lv_sub hl [0, 1, 2, 3, 4, 5, 6] rfl)
          · skip
            have q_114 : (inB a 0 ((nI nr) - 1)) = false := b_0 c_114
            refine lv_iconst (v := 1) S.1 S.2.1 d_MD_except_117 (by decide) ?_
            refine lv_goto (tgt := 122) S.1 S.2.1 d_MD_except_118 (by decide) ?_
            exact J_122 _ (by simp [bI, q_114]) _ _ hO ls (lv_sub hl [0, 1, 2, 3, 4, 5, 6] rfl)
        refine lv_iload_n S.1 S.2.1 d_MD_except_63 rfl (lv_at hl 4 rfl) ?_
        refine lv_iconst (v := (-1)) S.1 S.2.1 d_MD_except_64 (by decide) ?_
        refine lv_bipush (v := 11) S.1 S.2.1 d_MD_except_65 (by decide) ?_
        refine g_SP (As := [.int b, .int (-1), .int 11]) (rest := []) S hO (k_MD_in l G ad σ τ b (-1) 11) cw_MD_67 g_cfC hl.1 (Nat.le_of_ble_eq_true rfl) ⟨(Nat.le_of_ble_eq_true rfl), (Nat.le_of_ble_eq_true rfl)⟩ ⟨(Nat.le_of_ble_eq_true rfl), (Nat.le_of_ble_eq_true rfl)⟩ d_MD_except_67 (fun q x ce H h9 => h9.elim) (fun v H v_10 hO => ?_)
        subst v_10
        refine W.eq (g2 := F0 m 70 ls [.int (bI (inB b (-1) 11))]) rfl ?_
        refine lv_if_eq (tgt := 95) S.1 S.2.1 d_MD_except_70 (by decide) (fun c_70 => ?_) (fun c_70 => ?_)
        · skip
          have q_70 : (inB b (-1) 11) = false := b_0 c_70
          refine lv_iconst (v := 1) S.1 S.2.1 d_MD_except_95 (by decide) ?_
          refine lv_goto (tgt := 100) S.1 S.2.1 d_MD_except_96 (by decide) ?_
          exact J_100 _ (by simp [bI, bdE, q_70]) _ _ hO ls (lv_sub hl [0, 1, 2, 3, 4, 5, 6] rfl)
        · skip
          have q_70 : (inB b (-1) 11) = true := b_1 c_70
          refine lv_iload_n S.1 S.2.1 d_MD_except_73 rfl (lv_at hl 5 rfl) ?_
          refine lv_iconst (v := (-1)) S.1 S.2.1 d_MD_except_74 (by decide) ?_
          refine lv_bipush (v := 7) S.1 S.2.1 d_MD_except_75 (by decide) ?_
          refine g_SP (As := [.int d, .int (-1), .int 7]) (rest := []) S hO (k_MD_in l G ad σ τ d (-1) 7) cw_MD_67 g_cfC hl.1 (Nat.le_of_ble_eq_true rfl) ⟨(Nat.le_of_ble_eq_true rfl), (Nat.le_of_ble_eq_true rfl)⟩ ⟨(Nat.le_of_ble_eq_true rfl), (Nat.le_of_ble_eq_true rfl)⟩ d_MD_except_77 (fun q x ce H h9 => h9.elim) (fun v H v_11 hO => ?_)
          subst v_11
          refine W.eq (g2 := F0 m 80 ls [.int (bI (inB d (-1) 7))]) rfl ?_
          refine lv_if_eq (tgt := 95) S.1 S.2.1 d_MD_except_80 (by decide) (fun c_80 => ?_) (fun c_80 => ?_)
          · skip
            have q_80 : (inB d (-1) 7) = false := b_0 c_80
            refine lv_iconst (v := 1) S.1 S.2.1 d_MD_except_95 (by decide) ?_
            refine lv_goto (tgt := 100) S.1 S.2.1 d_MD_except_96 (by decide) ?_
            exact J_100 _ (by simp [bI, bdE, q_70, q_80]) _ _ hO ls (lv_sub hl [0, 1, 2, 3, 4, 5, 6] rfl)
          · skip
            have q_80 : (inB d (-1) 7) = true := b_1 c_80
            refine lv_iload S.1 S.2.1 d_MD_except_83 (lv_at hl 6 rfl) ?_
            refine lv_iconst (v := 0) S.1 S.2.1 d_MD_except_85 (by decide) ?_
            refine lv_sipush (v := 1000) S.1 S.2.1 d_MD_except_86 (by decide) ?_
            refine g_SP (As := [.int f, .int 0, .int 1000]) (rest := []) S hO (k_MD_in l G ad σ τ f 0 1000) cw_MD_67 g_cfC hl.1 (Nat.le_of_ble_eq_true rfl) ⟨(Nat.le_of_ble_eq_true rfl), (Nat.le_of_ble_eq_true rfl)⟩ ⟨(Nat.le_of_ble_eq_true rfl), (Nat.le_of_ble_eq_true rfl)⟩ d_MD_except_89 (fun q x ce H h9 => h9.elim) (fun v H v_12 hO => ?_)
            subst v_12
            refine W.eq (g2 := F0 m 92 ls [.int (bI (inB f 0 1000))]) rfl ?_
            refine lv_if_ne (tgt := 99) S.1 S.2.1 d_MD_except_92 (by decide) (fun c_92 => ?_) (fun c_92 => ?_)
            · skip
              have q_92 : (inB f 0 1000) = true := b_1 c_92
              refine lv_iconst (v := 0) S.1 S.2.1 d_MD_except_99 (by decide) ?_
              exact J_100 _ (by simp [bI, bdE, q_70, q_80, q_92]) _ _ hO ls (lv_sub hl [0, 1, 2, 3, 4, 5, 6] rfl)
            · skip
              have q_92 : (inB f 0 1000) = false := b_0 c_92
              refine lv_iconst (v := 1) S.1 S.2.1 d_MD_except_95 (by decide) ?_
              refine lv_goto (tgt := 100) S.1 S.2.1 d_MD_except_96 (by decide) ?_
              exact J_100 _ (by simp [bI, bdE, q_70, q_80, q_92]) _ _ hO ls (lv_sub hl [0, 1, 2, 3, 4, 5, 6] rfl)
      · skip
        have hw : j < ne := ngt_nI (x := nI ne) rfl rfl (by omega) (by omega) c_12
        have J_55 : ∀ (z : Int32), z = (oI (mxF σ a b d (j + 1))) → ∀ (H : Heap) (locs : List Loc), gO G (gA G) 159 ad (enc G ad σ τ) s H locs → ∀ ls : Array Slot, lv_has ls 7 [(6, .int (nI j)), (5, .int (oI (mxF σ a b d j))), (0, .ref (ad 140)), (1, .int a), (2, .int b), (3, .int d), (4, .int f)] → W p l e { frames := 1, cells := 0, slots := 0, locals := 23 } s m args below meth c H locs 0 0 (gM below (gA G) 0 0 (fun v t => ∃ E1, (∃ σ1 τ1, E1 = enc G ad σ1 τ1 ∧ (fun v σ1 τ1 => v = none ∧ σ1 = mXc σ a b d f nr ne ∧ τ1 = τ) v σ1 τ1) ∧ va_P G.1 gcl (gw 159 ad E1) t.heap) (fun x t => (fun _ => False) x ∧ va_P G.1 gcl (gw 159 ad (enc G ad σ τ)) t.heap) args s) (F0 m 55 ls (.int z :: [])) := by
          intro z ez H locs hO ls hl
          subst ez
          refine lv_istore (lv' := [(5, .int (oI (mxF σ a b d (j + 1)))), (6, .int (nI j)), (0, .ref (ad 140)), (1, .int a), (2, .int b), (3, .int d), (4, .int f)]) S.1 S.2.1 d_MD_except_55 hl (by decide) rfl (fun ls hl => ?_)
          refine lv_iinc (v := nI (j + 1)) (lv' := [(6, .int (nI (j + 1))), (5, .int (oI (mxF σ a b d (j + 1)))), (0, .ref (ad 140)), (1, .int a), (2, .int b), (3, .int d), (4, .int f)]) S.1 S.2.1 d_MD_except_57 hl (k := 1) rfl (nI_1 _) (by decide) rfl (fun ls hl => ?_)
          refine lv_goto (tgt := 6) S.1 S.2.1 d_MD_except_60 (by decide) ?_
          exact ih_6 (j + 1) (by omega) (by omega) _ _ hO ls (lv_sub hl [0, 1, 2, 3, 4, 5, 6] rfl)
        refine lv_aload_n S.1 S.2.1 d_MD_except_15 rfl (lv_at hl 2 rfl) ?_
        refine g_get S hO fl_MD_35 (by decide) (sh_140 G ad _ _) (v := .ref (ad 149)) rfl d_MD_except_16 ?_
        refine lv_iload S.1 S.2.1 d_MD_except_19 (lv_at hl 0 rfl) ?_
        refine g_ial S hO (by decide) (sh_149 G ad _ _) (vp_in_nI (show j < 20 by omega) (by decide)) d_MD_except_21 ?_
        refine W.eq (g2 := F0 m 22 ls [.int (σ 149 j)]) (by rw [nI_clamp (show j < 2 ^ 31 by omega)]) ?_
        refine lv_iload_n S.1 S.2.1 d_MD_except_22 rfl (lv_at hl 3 rfl) ?_
        refine lv_icmp_ne (tgt := 53) S.1 S.2.1 d_MD_except_23 (by decide) (fun c_23 => ?_) (fun c_23 => ?_)
        · skip
          refine lv_iload S.1 S.2.1 d_MD_except_53 (lv_at hl 1 rfl) ?_
          exact J_55 _ (by rw [mxF_f (by simp [meB, c_23])]) _ _ hO ls (lv_sub hl [0, 1, 2, 3, 4, 5, 6] rfl)
        · skip
          refine lv_aload_n S.1 S.2.1 d_MD_except_26 rfl (lv_at hl 2 rfl) ?_
          refine g_get S hO fl_MD_38 (by decide) (sh_140 G ad _ _) (v := .ref (ad 150)) rfl d_MD_except_27 ?_
          refine lv_iload S.1 S.2.1 d_MD_except_30 (lv_at hl 0 rfl) ?_
          refine g_ial S hO (by decide) (sh_150 G ad _ _) (vp_in_nI (show j < 20 by omega) (by decide)) d_MD_except_32 ?_
          refine W.eq (g2 := F0 m 33 ls [.int (σ 150 j)]) (by rw [nI_clamp (show j < 2 ^ 31 by omega)]) ?_
          refine lv_iload_n S.1 S.2.1 d_MD_except_33 rfl (lv_at hl 4 rfl) ?_
          refine lv_icmp_ne (tgt := 53) S.1 S.2.1 d_MD_except_34 (by decide) (fun c_34 => ?_) (fun c_34 => ?_)
          · skip
            refine lv_iload S.1 S.2.1 d_MD_except_53 (lv_at hl 1 rfl) ?_
            exact J_55 _ (by rw [mxF_f (by simp [meB, c_23, c_34])]) _ _ hO ls (lv_sub hl [0, 1, 2, 3, 4, 5, 6] rfl)
          · skip
            refine lv_aload_n S.1 S.2.1 d_MD_except_37 rfl (lv_at hl 2 rfl) ?_
            refine g_get S hO fl_MD_41 (by decide) (sh_140 G ad _ _) (v := .ref (ad 151)) rfl d_MD_except_38 ?_
            refine lv_iload S.1 S.2.1 d_MD_except_41 (lv_at hl 0 rfl) ?_
            refine g_ial S hO (by decide) (sh_151 G ad _ _) (vp_in_nI (show j < 20 by omega) (by decide)) d_MD_except_43 ?_
            refine W.eq (g2 := F0 m 44 ls [.int (σ 151 j)]) (by rw [nI_clamp (show j < 2 ^ 31 by omega)]) ?_
            refine lv_iload_n S.1 S.2.1 d_MD_except_44 rfl (lv_at hl 5 rfl) ?_
            refine lv_icmp_ne (tgt := 53) S.1 S.2.1 d_MD_except_45 (by decide) (fun c_45 => ?_) (fun c_45 => ?_)
            · skip
              refine lv_iload S.1 S.2.1 d_MD_except_53 (lv_at hl 1 rfl) ?_
              exact J_55 _ (by rw [mxF_f (by simp [meB, c_23, c_34, c_45])]) _ _ hO ls (lv_sub hl [0, 1, 2, 3, 4, 5, 6] rfl)
            · skip
              refine lv_iload S.1 S.2.1 d_MD_except_48 (lv_at hl 0 rfl) ?_
              refine lv_goto (tgt := 55) S.1 S.2.1 d_MD_except_50 (by decide) ?_
              exact J_55 _ (by rw [mxF_s (by simp [meB, c_23, c_34, c_45])]; rfl) _ _ hO ls (lv_sub hl [0, 1, 2, 3, 4, 5, 6] rfl)
  exact K_6 (ne + 1) 0 (by omega) (by omega) _ _ hO ls (lv_sub hl [0, 1, 2, 3, 4, 5, 6] rfl)
def xpB (σ : Nat → Nat → Int32) (p : Int32) (j : Nat) : Bool := decide (σ 150 j < 0) || decide (σ 150 j = p)
def xoB (σ : Nat → Nat → Int32) (u j : Nat) : Bool := decide (σ 151 j < 0) || decide (σ 151 j = σ 142 (10 * u + 2))
def ixB (σ : Nat → Nat → Int32) (r : Int32) (u : Nat) (p d : Int32) (j : Nat) : Bool := decide (σ 149 j = r) && xpB σ p j && xoB σ u j && !decide (σ 152 j < d)
def ixA (σ : Nat → Nat → Int32) (r : Int32) (u : Nat) (p d : Int32) (n : Nat) : Bool := anB (ixB σ r u p d) n
theorem ixA_s {σ : Nat → Nat → Int32} {r : Int32} {u : Nat} {p d : Int32} {n : Nat} : ixA σ r u p d (n + 1) = (ixA σ r u p d n || ixB σ r u p d n) := rfl
def thB (σ : Nat → Nat → Int32) (u : Nat) (p : Int32) (v : Nat) : Bool := decide (nI v = nI u) || decide (σ 143 v = p)
set_option maxHeartbeats 4000000 in
set_option maxRecDepth 100000 in
theorem k_MD_isExcepted (l : Launch) (G : gP) (ad : Nat → Nat) (σ : Nat → Nat → Int32) (τ : Nat → Nat → Int64) (r : Int32) (u : Nat) (hu : u < 40) (pl d : Int32) (ne : Nat) (hme : σ 140 11 = nI ne) (hn2 : ne ≤ 20) : gpu l y_MD_isExcepted c_MD_isExcepted 9 (some .boolean) { frames := 0, cells := 0, slots := 0, locals := 0 } G ad σ τ [.ref (ad 140), .int r, .int (nI u), .int pl, .int d] 0 0 (fun v => v = some (.int (bI (ixA σ r u pl d ne)))) (fun _ => False) := by
  refine gs_of (fun _ h => h.elim) (by decide) (Nat.le_of_ble_eq_true rfl) ?_
  intro p e s m args below meth c ls S hk hr hx hl hO
  have hl : lv_has ls 9 [(0, .ref (ad 140)), (1, .int r), (2, .int (nI u)), (3, .int pl), (4, .int d)] := hl
  refine lv_iconst (v := 0) S.1 S.2.1 d_MD_isExcepted_0 (by decide) ?_
  refine lv_istore (lv' := [(5, .int 0), (0, .ref (ad 140)), (1, .int r), (2, .int (nI u)), (3, .int pl), (4, .int d)]) S.1 S.2.1 d_MD_isExcepted_1 hl (by decide) rfl (fun ls hl => ?_)
  refine lv_iconst (v := 0) S.1 S.2.1 d_MD_isExcepted_3 (by decide) ?_
  refine lv_istore (lv' := [(6, .int 0), (5, .int 0), (0, .ref (ad 140)), (1, .int r), (2, .int (nI u)), (3, .int pl), (4, .int d)]) S.1 S.2.1 d_MD_isExcepted_4 hl (by decide) rfl (fun ls hl => ?_)
  have K_6 : ∀ (n9 : Nat) (j : Nat), ne - j < n9 → (j ≤ ne) → ∀ (H : Heap) (locs : List Loc), gO G (fun _ => False) 159 ad (enc G ad σ τ) s H locs → ∀ ls : Array Slot, lv_has ls 9 [(6, .int (nI j)), (5, .int (bI (ixA σ r u pl d j))), (0, .ref (ad 140)), (1, .int r), (2, .int (nI u)), (3, .int pl), (4, .int d)] → W p l e { frames := 0, cells := 0, slots := 0, locals := 0 } s m args below meth c H locs 0 0 (gM below (fun _ => False) 0 0 (fun v _ => (fun v => v = some (.int (bI (ixA σ r u pl d ne)))) v) (fun x _ => (fun _ => False) x) args s) (F0 m 6 ls []) := by
    intro n9
    induction n9 with
    | zero =>
      intro j hn9 hj H locs hO ls hl
      exact absurd hn9 (Nat.not_lt_zero _)
    | succ n9 ih_6 =>
      intro j hn9 hj H locs hO ls hl
      refine lv_iload S.1 S.2.1 d_MD_isExcepted_6 (lv_at hl 0 rfl) ?_
      refine lv_aload_n S.1 S.2.1 d_MD_isExcepted_8 rfl (lv_at hl 2 rfl) ?_
      refine g_get S hO fl_MD_156 (by decide) (sh_140 G ad _ _) (v := .int (σ 140 11)) rfl d_MD_isExcepted_9 ?_
      refine W.eq (g2 := F0 m 12 ls [.int (nI ne), .int (nI j)]) (by rw [show σ 140 11 = nI ne from hme]) ?_
      refine lv_icmp_ge (tgt := 132) S.1 S.2.1 d_MD_isExcepted_12 (by decide) (fun c_12 => ?_) (fun c_12 => ?_)
      · skip
        have hw : j = ne := by have h9 := ge_nI (x := nI ne) rfl rfl (by omega) (by omega) c_12; omega
        rw [hw] at hl
        refine lv_iload S.1 S.2.1 d_MD_isExcepted_132 (lv_at hl 1 rfl) ?_
        exact pu_z S hk hr hO (by first | exact Or.inl rfl | exact Or.inr rfl | exact b_01) (by rfl) (Nat.le_of_ble_eq_true rfl) (Nat.le_of_ble_eq_true rfl) d_MD_isExcepted_134
      · skip
        have hw : j < ne := ngt_nI (x := nI ne) rfl rfl (by omega) (by omega) c_12
        have J_41 : ∀ (z : Int32), z = (bI (xpB σ pl j)) → ∀ (H : Heap) (locs : List Loc), gO G (fun _ => False) 159 ad (enc G ad σ τ) s H locs → ∀ ls : Array Slot, lv_has ls 9 [(6, .int (nI j)), (5, .int (bI (ixA σ r u pl d j))), (0, .ref (ad 140)), (1, .int r), (2, .int (nI u)), (3, .int pl), (4, .int d)] → W p l e { frames := 0, cells := 0, slots := 0, locals := 0 } s m args below meth c H locs 0 0 (gM below (fun _ => False) 0 0 (fun v _ => (fun v => v = some (.int (bI (ixA σ r u pl d ne)))) v) (fun x _ => (fun _ => False) x) args s) (F0 m 41 ls (.int z :: [])) := by
          intro z ez H locs hO ls hl
          subst ez
          refine lv_istore (lv' := [(7, .int (bI (xpB σ pl j))), (6, .int (nI j)), (5, .int (bI (ixA σ r u pl d j))), (0, .ref (ad 140)), (1, .int r), (2, .int (nI u)), (3, .int pl), (4, .int d)]) S.1 S.2.1 d_MD_isExcepted_41 hl (by decide) rfl (fun ls hl => ?_)
          have J_79 : ∀ (z : Int32), z = (bI (xoB σ u j)) → ∀ (H : Heap) (locs : List Loc), gO G (fun _ => False) 159 ad (enc G ad σ τ) s H locs → ∀ ls : Array Slot, lv_has ls 9 [(7, .int (bI (xpB σ pl j))), (6, .int (nI j)), (5, .int (bI (ixA σ r u pl d j))), (0, .ref (ad 140)), (1, .int r), (2, .int (nI u)), (3, .int pl), (4, .int d)] → W p l e { frames := 0, cells := 0, slots := 0, locals := 0 } s m args below meth c H locs 0 0 (gM below (fun _ => False) 0 0 (fun v _ => (fun v => v = some (.int (bI (ixA σ r u pl d ne)))) v) (fun x _ => (fun _ => False) x) args s) (F0 m 79 ls (.int z :: [])) := by
            intro z ez H locs hO ls hl
            subst ez
            refine lv_istore (lv' := [(8, .int (bI (xoB σ u j))), (7, .int (bI (xpB σ pl j))), (6, .int (nI j)), (5, .int (bI (ixA σ r u pl d j))), (0, .ref (ad 140)), (1, .int r), (2, .int (nI u)), (3, .int pl), (4, .int d)]) S.1 S.2.1 d_MD_isExcepted_79 hl (by decide) rfl (fun ls hl => ?_)
            have J_124 : ∀ (z : Int32), z = (bI (ixA σ r u pl d (j + 1))) → ∀ (H : Heap) (locs : List Loc), gO G (fun _ => False) 159 ad (enc G ad σ τ) s H locs → ∀ ls : Array Slot, lv_has ls 9 [(8, .int (bI (xoB σ u j))), (7, .int (bI (xpB σ pl j))), (6, .int (nI j)), (5, .int (bI (ixA σ r u pl d j))), (0, .ref (ad 140)), (1, .int r), (2, .int (nI u)), (3, .int pl), (4, .int d)] → W p l e { frames := 0, cells := 0, slots := 0, locals := 0 } s m args below meth c H locs 0 0 (gM below (fun _ => False) 0 0 (fun v _ => (fun v => v = some (.int (bI (ixA σ r u pl d ne)))) v) (fun x _ => (fun _ => False) x) args s) (F0 m 124 ls (.int z :: [])) := by
              intro z ez H locs hO ls hl
              subst ez
              refine lv_istore (lv' := [(5, .int (bI (ixA σ r u pl d (j + 1)))), (8, .int (bI (xoB σ u j))), (7, .int (bI (xpB σ pl j))), (6, .int (nI j)), (0, .ref (ad 140)), (1, .int r), (2, .int (nI u)), (3, .int pl), (4, .int d)]) S.1 S.2.1 d_MD_isExcepted_124 hl (by decide) rfl (fun ls hl => ?_)
              refine lv_iinc (v := nI (j + 1)) (lv' := [(6, .int (nI (j + 1))), (5, .int (bI (ixA σ r u pl d (j + 1)))), (8, .int (bI (xoB σ u j))), (7, .int (bI (xpB σ pl j))), (0, .ref (ad 140)), (1, .int r), (2, .int (nI u)), (3, .int pl), (4, .int d)]) S.1 S.2.1 d_MD_isExcepted_126 hl (k := 3) rfl (nI_1 _) (by decide) rfl (fun ls hl => ?_)
              refine lv_goto (tgt := 6) S.1 S.2.1 d_MD_isExcepted_129 (by decide) ?_
              exact ih_6 (j + 1) (by omega) (by omega) _ _ hO ls (lv_sub hl [0, 1, 4, 5, 6, 7, 8] rfl)
            refine lv_iload S.1 S.2.1 d_MD_isExcepted_81 (lv_at hl 3 rfl) ?_
            refine lv_if_ne (tgt := 119) S.1 S.2.1 d_MD_isExcepted_83 (by decide) (fun c_83 => ?_) (fun c_83 => ?_)
            · skip
              have q_83 : (ixA σ r u pl d j) = true := b_1 c_83
              refine lv_iconst (v := 1) S.1 S.2.1 d_MD_isExcepted_119 (by decide) ?_
              refine lv_goto (tgt := 124) S.1 S.2.1 d_MD_isExcepted_120 (by decide) ?_
              exact J_124 _ (by simp [bI, ixA_s, ixB, q_83]) _ _ hO ls (lv_sub hl [0, 1, 2, 3, 4, 5, 6, 7, 8] rfl)
            · skip
              have q_83 : (ixA σ r u pl d j) = false := b_0 c_83
              refine lv_aload_n S.1 S.2.1 d_MD_isExcepted_86 rfl (lv_at hl 4 rfl) ?_
              refine g_get S hO fl_MD_35 (by decide) (sh_140 G ad _ _) (v := .ref (ad 149)) rfl d_MD_isExcepted_87 ?_
              refine lv_iload S.1 S.2.1 d_MD_isExcepted_90 (lv_at hl 2 rfl) ?_
              refine g_ial S hO (by decide) (sh_149 G ad _ _) (vp_in_nI (show j < 20 by omega) (by decide)) d_MD_isExcepted_92 ?_
              refine W.eq (g2 := F0 m 93 ls [.int (σ 149 j)]) (by rw [nI_clamp (show j < 2 ^ 31 by omega)]) ?_
              refine lv_iload_n S.1 S.2.1 d_MD_isExcepted_93 rfl (lv_at hl 5 rfl) ?_
              refine lv_icmp_ne (tgt := 123) S.1 S.2.1 d_MD_isExcepted_94 (by decide) (fun c_94 => ?_) (fun c_94 => ?_)
              · skip
                refine lv_iconst (v := 0) S.1 S.2.1 d_MD_isExcepted_123 (by decide) ?_
                exact J_124 _ (by simp [bI, ixA_s, ixB, q_83, c_94]) _ _ hO ls (lv_sub hl [0, 1, 2, 3, 4, 5, 6, 7, 8] rfl)
              · skip
                refine lv_iload S.1 S.2.1 d_MD_isExcepted_97 (lv_at hl 1 rfl) ?_
                refine lv_if_eq (tgt := 123) S.1 S.2.1 d_MD_isExcepted_99 (by decide) (fun c_99 => ?_) (fun c_99 => ?_)
                · skip
                  have q_99 : (xpB σ pl j) = false := b_0 c_99
                  refine lv_iconst (v := 0) S.1 S.2.1 d_MD_isExcepted_123 (by decide) ?_
                  exact J_124 _ (by simp [bI, ixA_s, ixB, q_83, c_94, q_99]) _ _ hO ls (lv_sub hl [0, 1, 2, 3, 4, 5, 6, 7, 8] rfl)
                · skip
                  have q_99 : (xpB σ pl j) = true := b_1 c_99
                  refine lv_iload S.1 S.2.1 d_MD_isExcepted_102 (lv_at hl 0 rfl) ?_
                  refine lv_if_eq (tgt := 123) S.1 S.2.1 d_MD_isExcepted_104 (by decide) (fun c_104 => ?_) (fun c_104 => ?_)
                  · skip
                    have q_104 : (xoB σ u j) = false := b_0 c_104
                    refine lv_iconst (v := 0) S.1 S.2.1 d_MD_isExcepted_123 (by decide) ?_
                    exact J_124 _ (by simp [bI, ixA_s, ixB, q_83, c_94, q_99, q_104]) _ _ hO ls (lv_sub hl [0, 1, 2, 3, 4, 5, 6, 7, 8] rfl)
                  · skip
                    have q_104 : (xoB σ u j) = true := b_1 c_104
                    refine lv_iload S.1 S.2.1 d_MD_isExcepted_107 (lv_at hl 8 rfl) ?_
                    refine lv_aload_n S.1 S.2.1 d_MD_isExcepted_109 rfl (lv_at hl 4 rfl) ?_
                    refine g_get S hO fl_MD_44 (by decide) (sh_140 G ad _ _) (v := .ref (ad 152)) rfl d_MD_isExcepted_110 ?_
                    refine lv_iload S.1 S.2.1 d_MD_isExcepted_113 (lv_at hl 2 rfl) ?_
                    refine g_ial S hO (by decide) (sh_152 G ad _ _) (vp_in_nI (show j < 20 by omega) (by decide)) d_MD_isExcepted_115 ?_
                    refine W.eq (g2 := F0 m 116 ls [.int (σ 152 j), .int d]) (by rw [nI_clamp (show j < 2 ^ 31 by omega)]) ?_
                    refine lv_icmp_gt (tgt := 123) S.1 S.2.1 d_MD_isExcepted_116 (by decide) (fun c_116 => ?_) (fun c_116 => ?_)
                    · skip
                      refine lv_iconst (v := 0) S.1 S.2.1 d_MD_isExcepted_123 (by decide) ?_
                      exact J_124 _ (by simp [bI, ixA_s, ixB, q_83, c_94, q_99, q_104, c_116, Int32.not_le.mpr c_116]) _ _ hO ls (lv_sub hl [0, 1, 2, 3, 4, 5, 6, 7, 8] rfl)
                    · skip
                      refine lv_iconst (v := 1) S.1 S.2.1 d_MD_isExcepted_119 (by decide) ?_
                      refine lv_goto (tgt := 124) S.1 S.2.1 d_MD_isExcepted_120 (by decide) ?_
                      exact J_124 _ (by simp [bI, ixA_s, ixB, q_83, c_94, q_99, q_104, c_116, Int32.not_lt.mp c_116]) _ _ hO ls (lv_sub hl [0, 1, 2, 3, 4, 5, 6, 7, 8] rfl)
          refine lv_aload_n S.1 S.2.1 d_MD_isExcepted_43 rfl (lv_at hl 3 rfl) ?_
          refine g_get S hO fl_MD_41 (by decide) (sh_140 G ad _ _) (v := .ref (ad 151)) rfl d_MD_isExcepted_44 ?_
          refine lv_iload S.1 S.2.1 d_MD_isExcepted_47 (lv_at hl 1 rfl) ?_
          refine g_ial S hO (by decide) (sh_151 G ad _ _) (vp_in_nI (show j < 20 by omega) (by decide)) d_MD_isExcepted_49 ?_
          refine W.eq (g2 := F0 m 50 ls [.int (σ 151 j)]) (by rw [nI_clamp (show j < 2 ^ 31 by omega)]) ?_
          refine lv_if_lt (tgt := 74) S.1 S.2.1 d_MD_isExcepted_50 (by decide) (fun c_50 => ?_) (fun c_50 => ?_)
          · skip
            refine lv_iconst (v := 1) S.1 S.2.1 d_MD_isExcepted_74 (by decide) ?_
            refine lv_goto (tgt := 79) S.1 S.2.1 d_MD_isExcepted_75 (by decide) ?_
            exact J_79 _ (by simp [bI, xoB, c_50, Int32.not_le.mpr c_50]) _ _ hO ls (lv_sub hl [0, 1, 2, 3, 4, 5, 6, 7] rfl)
          · skip
            refine lv_aload_n S.1 S.2.1 d_MD_isExcepted_53 rfl (lv_at hl 3 rfl) ?_
            refine g_get S hO fl_MD_41 (by decide) (sh_140 G ad _ _) (v := .ref (ad 151)) rfl d_MD_isExcepted_54 ?_
            refine lv_iload S.1 S.2.1 d_MD_isExcepted_57 (lv_at hl 1 rfl) ?_
            refine g_ial S hO (by decide) (sh_151 G ad _ _) (vp_in_nI (show j < 20 by omega) (by decide)) d_MD_isExcepted_59 ?_
            refine W.eq (g2 := F0 m 60 ls [.int (σ 151 j)]) (by rw [nI_clamp (show j < 2 ^ 31 by omega)]) ?_
            refine lv_aload_n S.1 S.2.1 d_MD_isExcepted_60 rfl (lv_at hl 3 rfl) ?_
            refine g_get S hO fl_MD_13 (by decide) (sh_140 G ad _ _) (v := .ref (ad 142)) rfl d_MD_isExcepted_61 ?_
            refine lv_bipush (v := 10) S.1 S.2.1 d_MD_isExcepted_64 (by decide) ?_
            refine lv_iload_n S.1 S.2.1 d_MD_isExcepted_66 rfl (lv_at hl 5 rfl) ?_
            refine lv_imul S.1 S.2.1 d_MD_isExcepted_67 ?_
            refine W.eq (g2 := F0 m 68 ls [.int (nI (10 * u)), .ref (ad 142), .int (σ 151 j)]) (by rw [show (10 : Int32) * (nI u) = nI (10 * u) from pk_mul 10 u]) ?_
            refine lv_iconst (v := 2) S.1 S.2.1 d_MD_isExcepted_68 (by decide) ?_
            refine lv_iadd S.1 S.2.1 d_MD_isExcepted_69 ?_
            refine W.eq (g2 := F0 m 70 ls [.int (nI (10 * u + 2)), .ref (ad 142), .int (σ 151 j)]) (by rw [show (nI (10 * u)) + (2 : Int32) = nI (10 * u + 2) from nI_add (10 * u) 2]) ?_
            refine g_ial S hO (by decide) (sh_142 G ad _ _) (vp_in_nI (show 10 * u + 2 < 400 by omega) (by decide)) d_MD_isExcepted_70 ?_
            refine W.eq (g2 := F0 m 71 ls [.int (σ 142 (10 * u + 2)), .int (σ 151 j)]) (by rw [nI_clamp (show 10 * u + 2 < 2 ^ 31 by omega)]) ?_
            refine lv_icmp_ne (tgt := 78) S.1 S.2.1 d_MD_isExcepted_71 (by decide) (fun c_71 => ?_) (fun c_71 => ?_)
            · skip
              refine lv_iconst (v := 0) S.1 S.2.1 d_MD_isExcepted_78 (by decide) ?_
              exact J_79 _ (by simp [bI, xoB, c_50, Int32.not_lt.mp c_50, c_71]) _ _ hO ls (lv_sub hl [0, 1, 2, 3, 4, 5, 6, 7] rfl)
            · skip
              refine lv_iconst (v := 1) S.1 S.2.1 d_MD_isExcepted_74 (by decide) ?_
              refine lv_goto (tgt := 79) S.1 S.2.1 d_MD_isExcepted_75 (by decide) ?_
              exact J_79 _ (by simp [bI, xoB, c_50, Int32.not_lt.mp c_50, c_71]) _ _ hO ls (lv_sub hl [0, 1, 2, 3, 4, 5, 6, 7] rfl)
        refine lv_aload_n S.1 S.2.1 d_MD_isExcepted_15 rfl (lv_at hl 2 rfl) ?_
        refine g_get S hO fl_MD_38 (by decide) (sh_140 G ad _ _) (v := .ref (ad 150)) rfl d_MD_isExcepted_16 ?_
        refine lv_iload S.1 S.2.1 d_MD_isExcepted_19 (lv_at hl 0 rfl) ?_
        refine g_ial S hO (by decide) (sh_150 G ad _ _) (vp_in_nI (show j < 20 by omega) (by decide)) d_MD_isExcepted_21 ?_
        refine W.eq (g2 := F0 m 22 ls [.int (σ 150 j)]) (by rw [nI_clamp (show j < 2 ^ 31 by omega)]) ?_
        refine lv_if_lt (tgt := 36) S.1 S.2.1 d_MD_isExcepted_22 (by decide) (fun c_22 => ?_) (fun c_22 => ?_)
        · skip
          refine lv_iconst (v := 1) S.1 S.2.1 d_MD_isExcepted_36 (by decide) ?_
          refine lv_goto (tgt := 41) S.1 S.2.1 d_MD_isExcepted_37 (by decide) ?_
          exact J_41 _ (by simp [bI, xpB, c_22, Int32.not_le.mpr c_22]) _ _ hO ls (lv_sub hl [0, 1, 2, 3, 4, 5, 6] rfl)
        · skip
          refine lv_aload_n S.1 S.2.1 d_MD_isExcepted_25 rfl (lv_at hl 2 rfl) ?_
          refine g_get S hO fl_MD_38 (by decide) (sh_140 G ad _ _) (v := .ref (ad 150)) rfl d_MD_isExcepted_26 ?_
          refine lv_iload S.1 S.2.1 d_MD_isExcepted_29 (lv_at hl 0 rfl) ?_
          refine g_ial S hO (by decide) (sh_150 G ad _ _) (vp_in_nI (show j < 20 by omega) (by decide)) d_MD_isExcepted_31 ?_
          refine W.eq (g2 := F0 m 32 ls [.int (σ 150 j)]) (by rw [nI_clamp (show j < 2 ^ 31 by omega)]) ?_
          refine lv_iload_n S.1 S.2.1 d_MD_isExcepted_32 rfl (lv_at hl 5 rfl) ?_
          refine lv_icmp_ne (tgt := 40) S.1 S.2.1 d_MD_isExcepted_33 (by decide) (fun c_33 => ?_) (fun c_33 => ?_)
          · skip
            refine lv_iconst (v := 0) S.1 S.2.1 d_MD_isExcepted_40 (by decide) ?_
            exact J_41 _ (by simp [bI, xpB, c_22, Int32.not_lt.mp c_22, c_33]) _ _ hO ls (lv_sub hl [0, 1, 2, 3, 4, 5, 6] rfl)
          · skip
            refine lv_iconst (v := 1) S.1 S.2.1 d_MD_isExcepted_36 (by decide) ?_
            refine lv_goto (tgt := 41) S.1 S.2.1 d_MD_isExcepted_37 (by decide) ?_
            exact J_41 _ (by simp [bI, xpB, c_22, Int32.not_lt.mp c_22, c_33]) _ _ hO ls (lv_sub hl [0, 1, 2, 3, 4, 5, 6] rfl)
  exact K_6 (ne + 1) 0 (by omega) (by omega) _ _ hO ls (lv_sub hl [0, 1, 2, 3, 4, 5, 6] rfl)
set_option maxHeartbeats 4000000 in
set_option maxRecDepth 100000 in
theorem k_MD_isThere (l : Launch) (G : gP) (ad : Nat → Nat) (σ : Nat → Nat → Int32) (τ : Nat → Nat → Int64) (o : Nat) (ho : o < 40) (u : Nat) (pl : Int32) : gpu l y_MD_isThere c_MD_isThere 4 (some .boolean) { frames := 0, cells := 0, slots := 0, locals := 0 } G ad σ τ [.ref (ad 140), .int (nI o), .int (nI u), .int pl] 0 0 (fun v => v = some (.int (bI (thB σ u pl o)))) (fun _ => False) := by
  refine gs_of (fun _ h => h.elim) (by decide) (Nat.le_of_ble_eq_true rfl) ?_
  intro p e s m args below meth c ls S hk hr hx hl hO
  have hl : lv_has ls 4 [(0, .ref (ad 140)), (1, .int (nI o)), (2, .int (nI u)), (3, .int pl)] := hl
  have J_20 : ∀ (z : Int32), z = (bI (thB σ u pl o)) → ∀ (H : Heap) (locs : List Loc), gO G (fun _ => False) 159 ad (enc G ad σ τ) s H locs → ∀ ls : Array Slot, lv_has ls 4 [(0, .ref (ad 140)), (1, .int (nI o)), (2, .int (nI u)), (3, .int pl)] → W p l e { frames := 0, cells := 0, slots := 0, locals := 0 } s m args below meth c H locs 0 0 (gM below (fun _ => False) 0 0 (fun v _ => (fun v => v = some (.int (bI (thB σ u pl o)))) v) (fun x _ => (fun _ => False) x) args s) (F0 m 20 ls (.int z :: [])) := by
    intro z ez H locs hO ls hl
    subst ez
    exact pu_z S hk hr hO (by first | exact Or.inl rfl | exact Or.inr rfl | exact b_01) (by rfl) (Nat.le_of_ble_eq_true rfl) (Nat.le_of_ble_eq_true rfl) d_MD_isThere_20
  refine lv_iload_n S.1 S.2.1 d_MD_isThere_0 rfl (lv_at hl 1 rfl) ?_
  refine lv_iload_n S.1 S.2.1 d_MD_isThere_1 rfl (lv_at hl 2 rfl) ?_
  refine lv_icmp_eq (tgt := 15) S.1 S.2.1 d_MD_isThere_2 (by decide) (fun c_2 => ?_) (fun c_2 => ?_)
  · skip
    refine lv_iconst (v := 1) S.1 S.2.1 d_MD_isThere_15 (by decide) ?_
    refine lv_goto (tgt := 20) S.1 S.2.1 d_MD_isThere_16 (by decide) ?_
    exact J_20 _ (by simp [bI, thB, c_2]) _ _ hO ls (lv_sub hl [0, 1, 2, 3] rfl)
  · skip
    refine lv_aload_n S.1 S.2.1 d_MD_isThere_5 rfl (lv_at hl 0 rfl) ?_
    refine g_get S hO fl_MD_16 (by decide) (sh_140 G ad _ _) (v := .ref (ad 143)) rfl d_MD_isThere_6 ?_
    refine lv_iload_n S.1 S.2.1 d_MD_isThere_9 rfl (lv_at hl 1 rfl) ?_
    refine g_ial S hO (by decide) (sh_143 G ad _ _) (vp_in_nI (show o < 40 by omega) (by decide)) d_MD_isThere_10 ?_
    refine W.eq (g2 := F0 m 11 ls [.int (σ 143 o)]) (by rw [nI_clamp (show o < 2 ^ 31 by omega)]) ?_
    refine lv_iload_n S.1 S.2.1 d_MD_isThere_11 rfl (lv_at hl 3 rfl) ?_
    refine lv_icmp_ne (tgt := 19) S.1 S.2.1 d_MD_isThere_12 (by decide) (fun c_12 => ?_) (fun c_12 => ?_)
    · skip
      refine lv_iconst (v := 0) S.1 S.2.1 d_MD_isThere_19 (by decide) ?_
      exact J_20 _ (by simp [bI, thB, c_2, c_12]) _ _ hO ls (lv_sub hl [0, 1, 2, 3] rfl)
    · skip
      refine lv_iconst (v := 1) S.1 S.2.1 d_MD_isThere_15 (by decide) ?_
      refine lv_goto (tgt := 20) S.1 S.2.1 d_MD_isThere_16 (by decide) ?_
      exact J_20 _ (by simp [bI, thB, c_2, c_12]) _ _ hO ls (lv_sub hl [0, 1, 2, 3] rfl)
def ctB (σ : Nat → Nat → Int32) (u : Nat) (p : Int32) (w v : Nat) : Bool := thB σ u p v && (!decide (nI w = 1) || decide (σ 142 (10 * v) = σ 142 (10 * u)))
/-- the unit x counts, against those below j -/
def cnB (σ : Nat → Nat → Int32) (u : Nat) (p : Int32) (w x : Nat) : Nat → Bool
  | 0 => ctB σ u p w x
  | j + 1 => cnB σ u p w x j && (!ctB σ u p w j || !decide (σ 142 (10 * j + w) = σ 142 (10 * x + w)))
theorem cnB_s {σ : Nat → Nat → Int32} {u : Nat} {p : Int32} {w x j : Nat} : cnB σ u p w x (j + 1) = (cnB σ u p w x j && (!ctB σ u p w j || !decide (σ 142 (10 * j + w) = σ 142 (10 * x + w)))) := rfl
theorem cnB_f {σ : Nat → Nat → Int32} {u : Nat} {p : Int32} {w x j : Nat} (h : cnB σ u p w x j = false) : ∀ k, cnB σ u p w x (j + k) = false
  | 0 => h
  | k + 1 => by
    show cnB σ u p w x ((j + k) + 1) = false
    rw [cnB_s, cnB_f h k]
    rfl
def ukI (σ : Nat → Nat → Int32) (u : Nat) (p : Int32) (w : Nat) : Nat → Int32
  | 0 => 0
  | x + 1 => ukI σ u p w x + bI (cnB σ u p w x x)
def otB (σ : Nat → Nat → Int32) (u : Nat) (p : Int32) (x : Nat) : Bool := !decide (nI x = nI u) && decide (σ 143 x = p)
def otI (σ : Nat → Nat → Int32) (u : Nat) (p : Int32) : Nat → Int32
  | 0 => 0
  | x + 1 => otI σ u p x + (if otB σ u p x = true then σ 142 (10 * x + 6) else 0)
def mtB (σ : Nat → Nat → Int32) (u : Nat) (p h : Int32) (x : Nat) : Bool := otB σ u p x && decide (σ 142 (10 * x + 7) = h)
def mtA (σ : Nat → Nat → Int32) (u : Nat) (p h : Int32) (n : Nat) : Bool := anB (mtB σ u p h) n
theorem mtA_s {σ : Nat → Nat → Int32} {u : Nat} {p h : Int32} {n : Nat} : mtA σ u p h (n + 1) = (mtA σ u p h n || mtB σ u p h n) := rfl
def mnI (σ : Nat → Nat → Int32) (u : Nat) (p : Int32) : Nat → Int32
  | 0 => 0
  | x + 1 => mnI σ u p x + bI (thB σ u p x)
def spL (σ : Nat → Nat → Int32) (u : Nat) (p : Int32) : Nat → Int32
  | 0 => σ 142 (10 * u + 9)
  | x + 1 => if thB σ u p x = true ∧ σ 142 (10 * x + 9) < spL σ u p x then σ 142 (10 * x + 9) else spL σ u p x
def spM (σ : Nat → Nat → Int32) (u : Nat) (p : Int32) : Nat → Int32
  | 0 => σ 142 (10 * u + 9)
  | x + 1 => if thB σ u p x = true ∧ spM σ u p x < σ 142 (10 * x + 9) then σ 142 (10 * x + 9) else spM σ u p x
def fwX (σ : Nat → Nat → Int32) (u : Nat) (a : Int32) : Int32 := if 2 ≤ a then (if 4 ≤ a then σ 142 (10 * u + 5) else σ 142 (10 * u + 4)) else σ 142 (10 * u + 3)
def fwY (σ : Nat → Nat → Int32) (u : Nat) (a : Int32) : Int32 := if a = 0 ∨ a = 5 then σ 142 (10 * u + 4) else if a = 1 ∨ a = 3 then σ 142 (10 * u + 5) else σ 142 (10 * u + 3)
def ftB (σ : Nat → Nat → Int32) (u i : Nat) (a : Int32) : Bool := decide (fwX σ u a ≤ σ 141 (5 * i)) && decide (fwY σ u a ≤ σ 141 (5 * i + 1)) && decide (σ 142 (10 * u + 3) + σ 142 (10 * u + 4) + σ 142 (10 * u + 5) - fwX σ u a - fwY σ u a ≤ σ 141 (5 * i + 2))
def szO (σ : Nat → Nat → Int32) (u i : Nat) : Nat → Bool
  | 0 => ftB σ u i 0 || ftB σ u i 2
  | j + 1 => szO σ u i j || ftB σ u i (nI j)
theorem szO_s {σ : Nat → Nat → Int32} {u i j : Nat} : szO σ u i (j + 1) = (szO σ u i j || ftB σ u i (nI j)) := rfl
set_option maxHeartbeats 4000000 in
set_option maxRecDepth 100000 in
theorem k_MD_others (l : Launch) (G : gP) (ad : Nat → Nat) (σ : Nat → Nat → Int32) (τ : Nat → Nat → Int64) (u : Nat) (hu : u < 40) (pl : Int32) (nu : Nat) (hmu : σ 140 2 = nI nu) (hn4 : nu ≤ 40) : gpu l y_MD_others c_MD_others 5 (some .int) { frames := 0, cells := 0, slots := 0, locals := 0 } G ad σ τ [.ref (ad 140), .int (nI u), .int pl] 0 0 (fun v => v = some (.int (otI σ u pl nu))) (fun _ => False) := by
  refine gs_of (fun _ h => h.elim) (by decide) (Nat.le_of_ble_eq_true rfl) ?_
  intro p e s m args below meth c ls S hk hr hx hl hO
  have hl : lv_has ls 5 [(0, .ref (ad 140)), (1, .int (nI u)), (2, .int pl)] := hl
  refine lv_iconst (v := 0) S.1 S.2.1 d_MD_others_0 (by decide) ?_
  refine lv_istore_n (lv' := [(3, .int 0), (0, .ref (ad 140)), (1, .int (nI u)), (2, .int pl)]) S.1 S.2.1 d_MD_others_1 rfl hl (by decide) rfl (fun ls hl => ?_)
  refine lv_iconst (v := 0) S.1 S.2.1 d_MD_others_2 (by decide) ?_
  refine lv_istore (lv' := [(4, .int 0), (3, .int 0), (0, .ref (ad 140)), (1, .int (nI u)), (2, .int pl)]) S.1 S.2.1 d_MD_others_3 hl (by decide) rfl (fun ls hl => ?_)
  have K_5 : ∀ (n9 : Nat) (j : Nat), nu - j < n9 → (j ≤ nu) → ∀ (H : Heap) (locs : List Loc), gO G (fun _ => False) 159 ad (enc G ad σ τ) s H locs → ∀ ls : Array Slot, lv_has ls 5 [(4, .int (nI j)), (3, .int (otI σ u pl j)), (0, .ref (ad 140)), (1, .int (nI u)), (2, .int pl)] → W p l e { frames := 0, cells := 0, slots := 0, locals := 0 } s m args below meth c H locs 0 0 (gM below (fun _ => False) 0 0 (fun v _ => (fun v => v = some (.int (otI σ u pl nu))) v) (fun x _ => (fun _ => False) x) args s) (F0 m 5 ls []) := by
    intro n9
    induction n9 with
    | zero =>
      intro j hn9 hj H locs hO ls hl
      exact absurd hn9 (Nat.not_lt_zero _)
    | succ n9 ih_5 =>
      intro j hn9 hj H locs hO ls hl
      refine lv_iload S.1 S.2.1 d_MD_others_5 (lv_at hl 0 rfl) ?_
      refine lv_aload_n S.1 S.2.1 d_MD_others_7 rfl (lv_at hl 2 rfl) ?_
      refine g_get S hO fl_MD_83 (by decide) (sh_140 G ad _ _) (v := .int (σ 140 2)) rfl d_MD_others_8 ?_
      refine W.eq (g2 := F0 m 11 ls [.int (nI nu), .int (nI j)]) (by rw [show σ 140 2 = nI nu from hmu]) ?_
      refine lv_icmp_ge (tgt := 57) S.1 S.2.1 d_MD_others_11 (by decide) (fun c_11 => ?_) (fun c_11 => ?_)
      · skip
        have hw : j = nu := by have h9 := ge_nI (x := nI nu) rfl rfl (by omega) (by omega) c_11; omega
        rw [hw] at hl
        refine lv_iload_n S.1 S.2.1 d_MD_others_57 rfl (lv_at hl 1 rfl) ?_
        exact pu_i S hk hr hO (by rfl) (Nat.le_of_ble_eq_true rfl) (Nat.le_of_ble_eq_true rfl) d_MD_others_58
      · skip
        have hw : j < nu := ngt_nI (x := nI nu) rfl rfl (by omega) (by omega) c_11
        refine lv_iload_n S.1 S.2.1 d_MD_others_14 rfl (lv_at hl 1 rfl) ?_
        have J_49 : ∀ (z : Int32), z = (if otB σ u pl j = true then σ 142 (10 * j + 6) else 0) → ∀ (H : Heap) (locs : List Loc), gO G (fun _ => False) 159 ad (enc G ad σ τ) s H locs → ∀ ls : Array Slot, lv_has ls 5 [(4, .int (nI j)), (3, .int (otI σ u pl j)), (0, .ref (ad 140)), (1, .int (nI u)), (2, .int pl)] → W p l e { frames := 0, cells := 0, slots := 0, locals := 0 } s m args below meth c H locs 0 0 (gM below (fun _ => False) 0 0 (fun v _ => (fun v => v = some (.int (otI σ u pl nu))) v) (fun x _ => (fun _ => False) x) args s) (F0 m 49 ls (.int z :: [.int (otI σ u pl j)])) := by
          intro z ez H locs hO ls hl
          subst ez
          refine lv_iadd S.1 S.2.1 d_MD_others_49 ?_
          refine lv_istore_n (lv' := [(3, .int ((otI σ u pl j) + (if otB σ u pl j = true then σ 142 (10 * j + 6) else 0))), (4, .int (nI j)), (0, .ref (ad 140)), (1, .int (nI u)), (2, .int pl)]) S.1 S.2.1 d_MD_others_50 rfl hl (by decide) rfl (fun ls hl => ?_)
          refine lv_iinc (v := nI (j + 1)) (lv' := [(4, .int (nI (j + 1))), (3, .int ((otI σ u pl j) + (if otB σ u pl j = true then σ 142 (10 * j + 6) else 0))), (0, .ref (ad 140)), (1, .int (nI u)), (2, .int pl)]) S.1 S.2.1 d_MD_others_51 hl (k := 1) rfl (nI_1 _) (by decide) rfl (fun ls hl => ?_)
          refine lv_goto (tgt := 5) S.1 S.2.1 d_MD_others_54 (by decide) ?_
          exact ih_5 (j + 1) (by omega) (by omega) _ _ hO ls (lv_sub hl [0, 1, 2, 3, 4] rfl)
        refine lv_iload S.1 S.2.1 d_MD_others_15 (lv_at hl 0 rfl) ?_
        refine lv_iload_n S.1 S.2.1 d_MD_others_17 rfl (lv_at hl 3 rfl) ?_
        refine lv_icmp_eq (tgt := 48) S.1 S.2.1 d_MD_others_18 (by decide) (fun c_18 => ?_) (fun c_18 => ?_)
        · skip
          refine lv_iconst (v := 0) S.1 S.2.1 d_MD_others_48 (by decide) ?_
          exact J_49 _ (by simp [bI, otB, c_18]) _ _ hO ls (lv_sub hl [0, 1, 2, 3, 4] rfl)
        · skip
          refine lv_aload_n S.1 S.2.1 d_MD_others_21 rfl (lv_at hl 2 rfl) ?_
          refine g_get S hO fl_MD_16 (by decide) (sh_140 G ad _ _) (v := .ref (ad 143)) rfl d_MD_others_22 ?_
          refine lv_iload S.1 S.2.1 d_MD_others_25 (lv_at hl 0 rfl) ?_
          refine g_ial S hO (by decide) (sh_143 G ad _ _) (vp_in_nI (show j < 40 by omega) (by decide)) d_MD_others_27 ?_
          refine W.eq (g2 := F0 m 28 ls [.int (σ 143 j), .int (otI σ u pl j)]) (by rw [nI_clamp (show j < 2 ^ 31 by omega)]) ?_
          refine lv_iload_n S.1 S.2.1 d_MD_others_28 rfl (lv_at hl 4 rfl) ?_
          refine lv_icmp_ne (tgt := 48) S.1 S.2.1 d_MD_others_29 (by decide) (fun c_29 => ?_) (fun c_29 => ?_)
          · skip
            refine lv_iconst (v := 0) S.1 S.2.1 d_MD_others_48 (by decide) ?_
            exact J_49 _ (by simp [bI, otB, c_18, c_29]) _ _ hO ls (lv_sub hl [0, 1, 2, 3, 4] rfl)
          · skip
            refine lv_aload_n S.1 S.2.1 d_MD_others_32 rfl (lv_at hl 2 rfl) ?_
            refine g_get S hO fl_MD_13 (by decide) (sh_140 G ad _ _) (v := .ref (ad 142)) rfl d_MD_others_33 ?_
            refine lv_bipush (v := 10) S.1 S.2.1 d_MD_others_36 (by decide) ?_
            refine lv_iload S.1 S.2.1 d_MD_others_38 (lv_at hl 0 rfl) ?_
            refine lv_imul S.1 S.2.1 d_MD_others_40 ?_
            refine W.eq (g2 := F0 m 41 ls [.int (nI (10 * j)), .ref (ad 142), .int (otI σ u pl j)]) (by rw [show (10 : Int32) * (nI j) = nI (10 * j) from pk_mul 10 j]) ?_
            refine lv_bipush (v := 6) S.1 S.2.1 d_MD_others_41 (by decide) ?_
            refine lv_iadd S.1 S.2.1 d_MD_others_43 ?_
            refine W.eq (g2 := F0 m 44 ls [.int (nI (10 * j + 6)), .ref (ad 142), .int (otI σ u pl j)]) (by rw [show (nI (10 * j)) + (6 : Int32) = nI (10 * j + 6) from nI_add (10 * j) 6]) ?_
            refine g_ial S hO (by decide) (sh_142 G ad _ _) (vp_in_nI (show 10 * j + 6 < 400 by omega) (by decide)) d_MD_others_44 ?_
            refine W.eq (g2 := F0 m 45 ls [.int (σ 142 (10 * j + 6)), .int (otI σ u pl j)]) (by rw [nI_clamp (show 10 * j + 6 < 2 ^ 31 by omega)]) ?_
            refine lv_goto (tgt := 49) S.1 S.2.1 d_MD_others_45 (by decide) ?_
            exact J_49 _ (by simp [bI, otB, c_18, c_29]) _ _ hO ls (lv_sub hl [0, 1, 2, 3, 4] rfl)
  exact K_5 (nu + 1) 0 (by omega) (by omega) _ _ hO ls (lv_sub hl [0, 1, 2, 3, 4] rfl)
set_option maxHeartbeats 4000000 in
set_option maxRecDepth 100000 in
theorem k_MD_meets (l : Launch) (G : gP) (ad : Nat → Nat) (σ : Nat → Nat → Int32) (τ : Nat → Nat → Int64) (u : Nat) (hu : u < 40) (pl hz : Int32) (nu : Nat) (hmu : σ 140 2 = nI nu) (hn4 : nu ≤ 40) : gpu l y_MD_meets c_MD_meets 6 (some .boolean) { frames := 0, cells := 0, slots := 0, locals := 0 } G ad σ τ [.ref (ad 140), .int (nI u), .int pl, .int hz] 0 0 (fun v => v = some (.int (bI (mtA σ u pl hz nu)))) (fun _ => False) := by
  refine gs_of (fun _ h => h.elim) (by decide) (Nat.le_of_ble_eq_true rfl) ?_
  intro p e s m args below meth c ls S hk hr hx hl hO
  have hl : lv_has ls 6 [(0, .ref (ad 140)), (1, .int (nI u)), (2, .int pl), (3, .int hz)] := hl
  refine lv_iconst (v := 0) S.1 S.2.1 d_MD_meets_0 (by decide) ?_
  refine lv_istore (lv' := [(4, .int 0), (0, .ref (ad 140)), (1, .int (nI u)), (2, .int pl), (3, .int hz)]) S.1 S.2.1 d_MD_meets_1 hl (by decide) rfl (fun ls hl => ?_)
  refine lv_iconst (v := 0) S.1 S.2.1 d_MD_meets_3 (by decide) ?_
  refine lv_istore (lv' := [(5, .int 0), (4, .int 0), (0, .ref (ad 140)), (1, .int (nI u)), (2, .int pl), (3, .int hz)]) S.1 S.2.1 d_MD_meets_4 hl (by decide) rfl (fun ls hl => ?_)
  have K_6 : ∀ (n9 : Nat) (j : Nat), nu - j < n9 → (j ≤ nu) → ∀ (H : Heap) (locs : List Loc), gO G (fun _ => False) 159 ad (enc G ad σ τ) s H locs → ∀ ls : Array Slot, lv_has ls 6 [(5, .int (nI j)), (4, .int (bI (mtA σ u pl hz j))), (0, .ref (ad 140)), (1, .int (nI u)), (2, .int pl), (3, .int hz)] → W p l e { frames := 0, cells := 0, slots := 0, locals := 0 } s m args below meth c H locs 0 0 (gM below (fun _ => False) 0 0 (fun v _ => (fun v => v = some (.int (bI (mtA σ u pl hz nu)))) v) (fun x _ => (fun _ => False) x) args s) (F0 m 6 ls []) := by
    intro n9
    induction n9 with
    | zero =>
      intro j hn9 hj H locs hO ls hl
      exact absurd hn9 (Nat.not_lt_zero _)
    | succ n9 ih_6 =>
      intro j hn9 hj H locs hO ls hl
      refine lv_iload S.1 S.2.1 d_MD_meets_6 (lv_at hl 0 rfl) ?_
      refine lv_aload_n S.1 S.2.1 d_MD_meets_8 rfl (lv_at hl 2 rfl) ?_
      refine g_get S hO fl_MD_83 (by decide) (sh_140 G ad _ _) (v := .int (σ 140 2)) rfl d_MD_meets_9 ?_
      refine W.eq (g2 := F0 m 12 ls [.int (nI nu), .int (nI j)]) (by rw [show σ 140 2 = nI nu from hmu]) ?_
      refine lv_icmp_ge (tgt := 67) S.1 S.2.1 d_MD_meets_12 (by decide) (fun c_12 => ?_) (fun c_12 => ?_)
      · skip
        have hw : j = nu := by have h9 := ge_nI (x := nI nu) rfl rfl (by omega) (by omega) c_12; omega
        rw [hw] at hl
        refine lv_iload S.1 S.2.1 d_MD_meets_67 (lv_at hl 1 rfl) ?_
        exact pu_z S hk hr hO (by first | exact Or.inl rfl | exact Or.inr rfl | exact b_01) (by rfl) (Nat.le_of_ble_eq_true rfl) (Nat.le_of_ble_eq_true rfl) d_MD_meets_69
      · skip
        have hw : j < nu := ngt_nI (x := nI nu) rfl rfl (by omega) (by omega) c_12
        have J_59 : ∀ (z : Int32), z = (bI (mtA σ u pl hz (j + 1))) → ∀ (H : Heap) (locs : List Loc), gO G (fun _ => False) 159 ad (enc G ad σ τ) s H locs → ∀ ls : Array Slot, lv_has ls 6 [(5, .int (nI j)), (4, .int (bI (mtA σ u pl hz j))), (0, .ref (ad 140)), (1, .int (nI u)), (2, .int pl), (3, .int hz)] → W p l e { frames := 0, cells := 0, slots := 0, locals := 0 } s m args below meth c H locs 0 0 (gM below (fun _ => False) 0 0 (fun v _ => (fun v => v = some (.int (bI (mtA σ u pl hz nu)))) v) (fun x _ => (fun _ => False) x) args s) (F0 m 59 ls (.int z :: [])) := by
          intro z ez H locs hO ls hl
          subst ez
          refine lv_istore (lv' := [(4, .int (bI (mtA σ u pl hz (j + 1)))), (5, .int (nI j)), (0, .ref (ad 140)), (1, .int (nI u)), (2, .int pl), (3, .int hz)]) S.1 S.2.1 d_MD_meets_59 hl (by decide) rfl (fun ls hl => ?_)
          refine lv_iinc (v := nI (j + 1)) (lv' := [(5, .int (nI (j + 1))), (4, .int (bI (mtA σ u pl hz (j + 1)))), (0, .ref (ad 140)), (1, .int (nI u)), (2, .int pl), (3, .int hz)]) S.1 S.2.1 d_MD_meets_61 hl (k := 1) rfl (nI_1 _) (by decide) rfl (fun ls hl => ?_)
          refine lv_goto (tgt := 6) S.1 S.2.1 d_MD_meets_64 (by decide) ?_
          exact ih_6 (j + 1) (by omega) (by omega) _ _ hO ls (lv_sub hl [0, 1, 2, 3, 4, 5] rfl)
        refine lv_iload S.1 S.2.1 d_MD_meets_15 (lv_at hl 1 rfl) ?_
        refine lv_if_ne (tgt := 54) S.1 S.2.1 d_MD_meets_17 (by decide) (fun c_17 => ?_) (fun c_17 => ?_)
        · skip
          have q_17 : (mtA σ u pl hz j) = true := b_1 c_17
          refine lv_iconst (v := 1) S.1 S.2.1 d_MD_meets_54 (by decide) ?_
          refine lv_goto (tgt := 59) S.1 S.2.1 d_MD_meets_55 (by decide) ?_
          exact J_59 _ (by simp [bI, mtA_s, mtB, otB, q_17]) _ _ hO ls (lv_sub hl [0, 1, 2, 3, 4, 5] rfl)
        · skip
          have q_17 : (mtA σ u pl hz j) = false := b_0 c_17
          refine lv_iload S.1 S.2.1 d_MD_meets_20 (lv_at hl 0 rfl) ?_
          refine lv_iload_n S.1 S.2.1 d_MD_meets_22 rfl (lv_at hl 3 rfl) ?_
          refine lv_icmp_eq (tgt := 58) S.1 S.2.1 d_MD_meets_23 (by decide) (fun c_23 => ?_) (fun c_23 => ?_)
          · skip
            refine lv_iconst (v := 0) S.1 S.2.1 d_MD_meets_58 (by decide) ?_
            exact J_59 _ (by simp [bI, mtA_s, mtB, otB, q_17, c_23]) _ _ hO ls (lv_sub hl [0, 1, 2, 3, 4, 5] rfl)
          · skip
            refine lv_aload_n S.1 S.2.1 d_MD_meets_26 rfl (lv_at hl 2 rfl) ?_
            refine g_get S hO fl_MD_16 (by decide) (sh_140 G ad _ _) (v := .ref (ad 143)) rfl d_MD_meets_27 ?_
            refine lv_iload S.1 S.2.1 d_MD_meets_30 (lv_at hl 0 rfl) ?_
            refine g_ial S hO (by decide) (sh_143 G ad _ _) (vp_in_nI (show j < 40 by omega) (by decide)) d_MD_meets_32 ?_
            refine W.eq (g2 := F0 m 33 ls [.int (σ 143 j)]) (by rw [nI_clamp (show j < 2 ^ 31 by omega)]) ?_
            refine lv_iload_n S.1 S.2.1 d_MD_meets_33 rfl (lv_at hl 4 rfl) ?_
            refine lv_icmp_ne (tgt := 58) S.1 S.2.1 d_MD_meets_34 (by decide) (fun c_34 => ?_) (fun c_34 => ?_)
            · skip
              refine lv_iconst (v := 0) S.1 S.2.1 d_MD_meets_58 (by decide) ?_
              exact J_59 _ (by simp [bI, mtA_s, mtB, otB, q_17, c_23, c_34]) _ _ hO ls (lv_sub hl [0, 1, 2, 3, 4, 5] rfl)
            · skip
              refine lv_aload_n S.1 S.2.1 d_MD_meets_37 rfl (lv_at hl 2 rfl) ?_
              refine g_get S hO fl_MD_13 (by decide) (sh_140 G ad _ _) (v := .ref (ad 142)) rfl d_MD_meets_38 ?_
              refine lv_bipush (v := 10) S.1 S.2.1 d_MD_meets_41 (by decide) ?_
              refine lv_iload S.1 S.2.1 d_MD_meets_43 (lv_at hl 0 rfl) ?_
              refine lv_imul S.1 S.2.1 d_MD_meets_45 ?_
              refine W.eq (g2 := F0 m 46 ls [.int (nI (10 * j)), .ref (ad 142)]) (by rw [show (10 : Int32) * (nI j) = nI (10 * j) from pk_mul 10 j]) ?_
              refine lv_bipush (v := 7) S.1 S.2.1 d_MD_meets_46 (by decide) ?_
              refine lv_iadd S.1 S.2.1 d_MD_meets_48 ?_
              refine W.eq (g2 := F0 m 49 ls [.int (nI (10 * j + 7)), .ref (ad 142)]) (by rw [show (nI (10 * j)) + (7 : Int32) = nI (10 * j + 7) from nI_add (10 * j) 7]) ?_
              refine g_ial S hO (by decide) (sh_142 G ad _ _) (vp_in_nI (show 10 * j + 7 < 400 by omega) (by decide)) d_MD_meets_49 ?_
              refine W.eq (g2 := F0 m 50 ls [.int (σ 142 (10 * j + 7))]) (by rw [nI_clamp (show 10 * j + 7 < 2 ^ 31 by omega)]) ?_
              refine lv_iload_n S.1 S.2.1 d_MD_meets_50 rfl (lv_at hl 5 rfl) ?_
              refine lv_icmp_ne (tgt := 58) S.1 S.2.1 d_MD_meets_51 (by decide) (fun c_51 => ?_) (fun c_51 => ?_)
              · skip
                refine lv_iconst (v := 0) S.1 S.2.1 d_MD_meets_58 (by decide) ?_
                exact J_59 _ (by simp [bI, mtA_s, mtB, otB, q_17, c_23, c_34, c_51]) _ _ hO ls (lv_sub hl [0, 1, 2, 3, 4, 5] rfl)
              · skip
                refine lv_iconst (v := 1) S.1 S.2.1 d_MD_meets_54 (by decide) ?_
                refine lv_goto (tgt := 59) S.1 S.2.1 d_MD_meets_55 (by decide) ?_
                exact J_59 _ (by simp [bI, mtA_s, mtB, otB, q_17, c_23, c_34, c_51]) _ _ hO ls (lv_sub hl [0, 1, 2, 3, 4, 5] rfl)
  exact K_6 (nu + 1) 0 (by omega) (by omega) _ _ hO ls (lv_sub hl [0, 1, 2, 3, 4, 5] rfl)
set_option maxHeartbeats 4000000 in
set_option maxRecDepth 100000 in
theorem k_MD_many (l : Launch) (G : gP) (ad : Nat → Nat) (σ : Nat → Nat → Int32) (τ : Nat → Nat → Int64) (u : Nat) (hu : u < 40) (pl : Int32) (nu : Nat) (hmu : σ 140 2 = nI nu) (hn4 : nu ≤ 40) : gpu l y_MD_many c_MD_many 5 (some .int) { frames := 1, cells := 0, slots := 0, locals := 23 } G ad σ τ [.ref (ad 140), .int (nI u), .int pl] 0 0 (fun v => v = some (.int (mnI σ u pl nu))) (fun _ => False) := by
  refine gs_of (fun _ h => h.elim) (by decide) (Nat.le_of_ble_eq_true rfl) ?_
  intro p e s m args below meth c ls S hk hr hx hl hO
  have hl : lv_has ls 5 [(0, .ref (ad 140)), (1, .int (nI u)), (2, .int pl)] := hl
  refine lv_iconst (v := 0) S.1 S.2.1 d_MD_many_0 (by decide) ?_
  refine lv_istore_n (lv' := [(3, .int 0), (0, .ref (ad 140)), (1, .int (nI u)), (2, .int pl)]) S.1 S.2.1 d_MD_many_1 rfl hl (by decide) rfl (fun ls hl => ?_)
  refine lv_iconst (v := 0) S.1 S.2.1 d_MD_many_2 (by decide) ?_
  refine lv_istore (lv' := [(4, .int 0), (3, .int 0), (0, .ref (ad 140)), (1, .int (nI u)), (2, .int pl)]) S.1 S.2.1 d_MD_many_3 hl (by decide) rfl (fun ls hl => ?_)
  have K_5 : ∀ (n9 : Nat) (j : Nat), nu - j < n9 → (j ≤ nu) → ∀ (H : Heap) (locs : List Loc), gO G (fun _ => False) 159 ad (enc G ad σ τ) s H locs → ∀ ls : Array Slot, lv_has ls 5 [(4, .int (nI j)), (3, .int (mnI σ u pl j)), (0, .ref (ad 140)), (1, .int (nI u)), (2, .int pl)] → W p l e { frames := 1, cells := 0, slots := 0, locals := 23 } s m args below meth c H locs 0 0 (gM below (fun _ => False) 0 0 (fun v _ => (fun v => v = some (.int (mnI σ u pl nu))) v) (fun x _ => (fun _ => False) x) args s) (F0 m 5 ls []) := by
    intro n9
    induction n9 with
    | zero =>
      intro j hn9 hj H locs hO ls hl
      exact absurd hn9 (Nat.not_lt_zero _)
    | succ n9 ih_5 =>
      intro j hn9 hj H locs hO ls hl
      refine lv_iload S.1 S.2.1 d_MD_many_5 (lv_at hl 0 rfl) ?_
      refine lv_aload_n S.1 S.2.1 d_MD_many_7 rfl (lv_at hl 2 rfl) ?_
      refine g_get S hO fl_MD_83 (by decide) (sh_140 G ad _ _) (v := .int (σ 140 2)) rfl d_MD_many_8 ?_
      refine W.eq (g2 := F0 m 11 ls [.int (nI nu), .int (nI j)]) (by rw [show σ 140 2 = nI nu from hmu]) ?_
      refine lv_icmp_ge (tgt := 39) S.1 S.2.1 d_MD_many_11 (by decide) (fun c_11 => ?_) (fun c_11 => ?_)
      · skip
        have hw : j = nu := by have h9 := ge_nI (x := nI nu) rfl rfl (by omega) (by omega) c_11; omega
        rw [hw] at hl
        refine lv_iload_n S.1 S.2.1 d_MD_many_39 rfl (lv_at hl 1 rfl) ?_
        exact pu_i S hk hr hO (by rfl) (Nat.le_of_ble_eq_true rfl) (Nat.le_of_ble_eq_true rfl) d_MD_many_40
      · skip
        have hw : j < nu := ngt_nI (x := nI nu) rfl rfl (by omega) (by omega) c_11
        refine lv_iload_n S.1 S.2.1 d_MD_many_14 rfl (lv_at hl 1 rfl) ?_
        have J_31 : ∀ (z : Int32), z = (bI (thB σ u pl j)) → ∀ (H : Heap) (locs : List Loc), gO G (fun _ => False) 159 ad (enc G ad σ τ) s H locs → ∀ ls : Array Slot, lv_has ls 5 [(4, .int (nI j)), (3, .int (mnI σ u pl j)), (0, .ref (ad 140)), (1, .int (nI u)), (2, .int pl)] → W p l e { frames := 1, cells := 0, slots := 0, locals := 23 } s m args below meth c H locs 0 0 (gM below (fun _ => False) 0 0 (fun v _ => (fun v => v = some (.int (mnI σ u pl nu))) v) (fun x _ => (fun _ => False) x) args s) (F0 m 31 ls (.int z :: [.int (mnI σ u pl j)])) := by
          intro z ez H locs hO ls hl
          subst ez
          refine lv_iadd S.1 S.2.1 d_MD_many_31 ?_
          refine lv_istore_n (lv' := [(3, .int ((mnI σ u pl j) + (bI (thB σ u pl j)))), (4, .int (nI j)), (0, .ref (ad 140)), (1, .int (nI u)), (2, .int pl)]) S.1 S.2.1 d_MD_many_32 rfl hl (by decide) rfl (fun ls hl => ?_)
          refine lv_iinc (v := nI (j + 1)) (lv' := [(4, .int (nI (j + 1))), (3, .int ((mnI σ u pl j) + (bI (thB σ u pl j)))), (0, .ref (ad 140)), (1, .int (nI u)), (2, .int pl)]) S.1 S.2.1 d_MD_many_33 hl (k := 1) rfl (nI_1 _) (by decide) rfl (fun ls hl => ?_)
          refine lv_goto (tgt := 5) S.1 S.2.1 d_MD_many_36 (by decide) ?_
          exact ih_5 (j + 1) (by omega) (by omega) _ _ hO ls (lv_sub hl [0, 1, 2, 3, 4] rfl)
        refine lv_aload_n S.1 S.2.1 d_MD_many_15 rfl (lv_at hl 2 rfl) ?_
        refine lv_iload S.1 S.2.1 d_MD_many_16 (lv_at hl 0 rfl) ?_
        refine lv_iload_n S.1 S.2.1 d_MD_many_18 rfl (lv_at hl 3 rfl) ?_
        refine lv_iload_n S.1 S.2.1 d_MD_many_19 rfl (lv_at hl 4 rfl) ?_
        refine g_VP (As := [.int (nI j), .int (nI u), .int pl]) (rest := [.int (mnI σ u pl j)]) S hO (k_MD_isThere l G ad σ τ j (by omega) u pl) cw_MD_159 (by decide) (sh_140 G ad _ _) rfl rfl hl.1 (Nat.le_of_ble_eq_true rfl) ⟨(Nat.le_of_ble_eq_true rfl), (Nat.le_of_ble_eq_true rfl)⟩ ⟨(Nat.le_of_ble_eq_true rfl), (Nat.le_of_ble_eq_true rfl)⟩ d_MD_many_20 (fun q x ce H h9 => h9.elim) (fun v H v_2 hO => ?_)
        subst v_2
        refine W.eq (g2 := F0 m 23 ls [.int (bI (thB σ u pl j)), .int (mnI σ u pl j)]) rfl ?_
        refine lv_if_eq (tgt := 30) S.1 S.2.1 d_MD_many_23 (by decide) (fun c_23 => ?_) (fun c_23 => ?_)
        · skip
          have q_23 : (thB σ u pl j) = false := b_0 c_23
          refine lv_iconst (v := 0) S.1 S.2.1 d_MD_many_30 (by decide) ?_
          exact J_31 _ (by simp [bI, q_23]) _ _ hO ls (lv_sub hl [0, 1, 2, 3, 4] rfl)
        · skip
          have q_23 : (thB σ u pl j) = true := b_1 c_23
          refine lv_iconst (v := 1) S.1 S.2.1 d_MD_many_26 (by decide) ?_
          refine lv_goto (tgt := 31) S.1 S.2.1 d_MD_many_27 (by decide) ?_
          exact J_31 _ (by simp [bI, q_23]) _ _ hO ls (lv_sub hl [0, 1, 2, 3, 4] rfl)
  exact K_5 (nu + 1) 0 (by omega) (by omega) _ _ hO ls (lv_sub hl [0, 1, 2, 3, 4] rfl)
set_option maxHeartbeats 4000000 in
set_option maxRecDepth 100000 in
theorem k_MD_span (l : Launch) (G : gP) (ad : Nat → Nat) (σ : Nat → Nat → Int32) (τ : Nat → Nat → Int64) (u : Nat) (hu : u < 40) (pl : Int32) (nu : Nat) (hmu : σ 140 2 = nI nu) (hn4 : nu ≤ 40) : gpu l y_MD_span c_MD_span 8 (some .int) { frames := 1, cells := 0, slots := 0, locals := 23 } G ad σ τ [.ref (ad 140), .int (nI u), .int pl] 0 0 (fun v => v = some (.int (spM σ u pl nu - spL σ u pl nu))) (fun _ => False) := by
  refine gs_of (fun _ h => h.elim) (by decide) (Nat.le_of_ble_eq_true rfl) ?_
  intro p e s m args below meth c ls S hk hr hx hl hO
  have hl : lv_has ls 8 [(0, .ref (ad 140)), (1, .int (nI u)), (2, .int pl)] := hl
  refine lv_aload_n S.1 S.2.1 d_MD_span_0 rfl (lv_at hl 0 rfl) ?_
  refine g_get S hO fl_MD_13 (by decide) (sh_140 G ad _ _) (v := .ref (ad 142)) rfl d_MD_span_1 ?_
  refine lv_bipush (v := 10) S.1 S.2.1 d_MD_span_4 (by decide) ?_
  refine lv_iload_n S.1 S.2.1 d_MD_span_6 rfl (lv_at hl 1 rfl) ?_
  refine lv_imul S.1 S.2.1 d_MD_span_7 ?_
  refine W.eq (g2 := F0 m 8 ls [.int (nI (10 * u)), .ref (ad 142)]) (by rw [show (10 : Int32) * (nI u) = nI (10 * u) from pk_mul 10 u]) ?_
  refine lv_bipush (v := 9) S.1 S.2.1 d_MD_span_8 (by decide) ?_
  refine lv_iadd S.1 S.2.1 d_MD_span_10 ?_
  refine W.eq (g2 := F0 m 11 ls [.int (nI (10 * u + 9)), .ref (ad 142)]) (by rw [show (nI (10 * u)) + (9 : Int32) = nI (10 * u + 9) from nI_add (10 * u) 9]) ?_
  refine g_ial S hO (by decide) (sh_142 G ad _ _) (vp_in_nI (show 10 * u + 9 < 400 by omega) (by decide)) d_MD_span_11 ?_
  refine W.eq (g2 := F0 m 12 ls [.int (σ 142 (10 * u + 9))]) (by rw [nI_clamp (show 10 * u + 9 < 2 ^ 31 by omega)]) ?_
  refine lv_istore_n (lv' := [(3, .int (σ 142 (10 * u + 9))), (0, .ref (ad 140)), (1, .int (nI u)), (2, .int pl)]) S.1 S.2.1 d_MD_span_12 rfl hl (by decide) rfl (fun ls hl => ?_)
  refine lv_iload_n S.1 S.2.1 d_MD_span_13 rfl (lv_at hl 0 rfl) ?_
  refine lv_istore (lv' := [(4, .int (σ 142 (10 * u + 9))), (3, .int (σ 142 (10 * u + 9))), (0, .ref (ad 140)), (1, .int (nI u)), (2, .int pl)]) S.1 S.2.1 d_MD_span_14 hl (by decide) rfl (fun ls hl => ?_)
  refine lv_iconst (v := 0) S.1 S.2.1 d_MD_span_16 (by decide) ?_
  refine lv_istore (lv' := [(5, .int 0), (4, .int (σ 142 (10 * u + 9))), (3, .int (σ 142 (10 * u + 9))), (0, .ref (ad 140)), (1, .int (nI u)), (2, .int pl)]) S.1 S.2.1 d_MD_span_17 hl (by decide) rfl (fun ls hl => ?_)
  have K_19 : ∀ (n9 : Nat) (j : Nat), nu - j < n9 → (j ≤ nu) → ∀ (H : Heap) (locs : List Loc), gO G (fun _ => False) 159 ad (enc G ad σ τ) s H locs → ∀ ls : Array Slot, lv_has ls 8 [(5, .int (nI j)), (3, .int (spL σ u pl j)), (4, .int (spM σ u pl j)), (0, .ref (ad 140)), (1, .int (nI u)), (2, .int pl)] → W p l e { frames := 1, cells := 0, slots := 0, locals := 23 } s m args below meth c H locs 0 0 (gM below (fun _ => False) 0 0 (fun v _ => (fun v => v = some (.int (spM σ u pl nu - spL σ u pl nu))) v) (fun x _ => (fun _ => False) x) args s) (F0 m 19 ls []) := by
    intro n9
    induction n9 with
    | zero =>
      intro j hn9 hj H locs hO ls hl
      exact absurd hn9 (Nat.not_lt_zero _)
    | succ n9 ih_19 =>
      intro j hn9 hj H locs hO ls hl
      refine lv_iload S.1 S.2.1 d_MD_span_19 (lv_at hl 0 rfl) ?_
      refine lv_aload_n S.1 S.2.1 d_MD_span_21 rfl (lv_at hl 3 rfl) ?_
      refine g_get S hO fl_MD_83 (by decide) (sh_140 G ad _ _) (v := .int (σ 140 2)) rfl d_MD_span_22 ?_
      refine W.eq (g2 := F0 m 25 ls [.int (nI nu), .int (nI j)]) (by rw [show σ 140 2 = nI nu from hmu]) ?_
      refine lv_icmp_ge (tgt := 98) S.1 S.2.1 d_MD_span_25 (by decide) (fun c_25 => ?_) (fun c_25 => ?_)
      · skip
        have hw : j = nu := by have h9 := ge_nI (x := nI nu) rfl rfl (by omega) (by omega) c_25; omega
        rw [hw] at hl
        refine lv_iload S.1 S.2.1 d_MD_span_98 (lv_at hl 2 rfl) ?_
        refine lv_iload_n S.1 S.2.1 d_MD_span_100 rfl (lv_at hl 1 rfl) ?_
        refine lv_isub S.1 S.2.1 d_MD_span_101 ?_
        exact pu_i S hk hr hO (by rfl) (Nat.le_of_ble_eq_true rfl) (Nat.le_of_ble_eq_true rfl) d_MD_span_102
      · skip
        have hw : j < nu := ngt_nI (x := nI nu) rfl rfl (by omega) (by omega) c_25
        refine lv_aload_n S.1 S.2.1 d_MD_span_28 rfl (lv_at hl 3 rfl) ?_
        refine g_get S hO fl_MD_13 (by decide) (sh_140 G ad _ _) (v := .ref (ad 142)) rfl d_MD_span_29 ?_
        refine lv_bipush (v := 10) S.1 S.2.1 d_MD_span_32 (by decide) ?_
        refine lv_iload S.1 S.2.1 d_MD_span_34 (lv_at hl 0 rfl) ?_
        refine lv_imul S.1 S.2.1 d_MD_span_36 ?_
        refine W.eq (g2 := F0 m 37 ls [.int (nI (10 * j)), .ref (ad 142)]) (by rw [show (10 : Int32) * (nI j) = nI (10 * j) from pk_mul 10 j]) ?_
        refine lv_bipush (v := 9) S.1 S.2.1 d_MD_span_37 (by decide) ?_
        refine lv_iadd S.1 S.2.1 d_MD_span_39 ?_
        refine W.eq (g2 := F0 m 40 ls [.int (nI (10 * j + 9)), .ref (ad 142)]) (by rw [show (nI (10 * j)) + (9 : Int32) = nI (10 * j + 9) from nI_add (10 * j) 9]) ?_
        refine g_ial S hO (by decide) (sh_142 G ad _ _) (vp_in_nI (show 10 * j + 9 < 400 by omega) (by decide)) d_MD_span_40 ?_
        refine W.eq (g2 := F0 m 41 ls [.int (σ 142 (10 * j + 9))]) (by rw [nI_clamp (show 10 * j + 9 < 2 ^ 31 by omega)]) ?_
        refine lv_istore (lv' := [(6, .int (σ 142 (10 * j + 9))), (5, .int (nI j)), (3, .int (spL σ u pl j)), (4, .int (spM σ u pl j)), (0, .ref (ad 140)), (1, .int (nI u)), (2, .int pl)]) S.1 S.2.1 d_MD_span_41 hl (by decide) rfl (fun ls hl => ?_)
        refine lv_aload_n S.1 S.2.1 d_MD_span_43 rfl (lv_at hl 4 rfl) ?_
        refine lv_iload S.1 S.2.1 d_MD_span_44 (lv_at hl 1 rfl) ?_
        refine lv_iload_n S.1 S.2.1 d_MD_span_46 rfl (lv_at hl 5 rfl) ?_
        refine lv_iload_n S.1 S.2.1 d_MD_span_47 rfl (lv_at hl 6 rfl) ?_
        refine g_VP (As := [.int (nI j), .int (nI u), .int pl]) (rest := []) S hO (k_MD_isThere l G ad σ τ j (by omega) u pl) cw_MD_159 (by decide) (sh_140 G ad _ _) rfl rfl hl.1 (Nat.le_of_ble_eq_true rfl) ⟨(Nat.le_of_ble_eq_true rfl), (Nat.le_of_ble_eq_true rfl)⟩ ⟨(Nat.le_of_ble_eq_true rfl), (Nat.le_of_ble_eq_true rfl)⟩ d_MD_span_48 (fun q x ce H h9 => h9.elim) (fun v H v_1 hO => ?_)
        subst v_1
        refine W.eq (g2 := F0 m 51 ls [.int (bI (thB σ u pl j))]) rfl ?_
        refine lv_istore (lv' := [(7, .int (bI (thB σ u pl j))), (6, .int (σ 142 (10 * j + 9))), (5, .int (nI j)), (3, .int (spL σ u pl j)), (4, .int (spM σ u pl j)), (0, .ref (ad 140)), (1, .int (nI u)), (2, .int pl)]) S.1 S.2.1 d_MD_span_51 hl (by decide) rfl (fun ls hl => ?_)
        have J_70 : ∀ (z : Int32), z = (spL σ u pl (j + 1)) → ∀ (H : Heap) (locs : List Loc), gO G (fun _ => False) 159 ad (enc G ad σ τ) s H locs → ∀ ls : Array Slot, lv_has ls 8 [(7, .int (bI (thB σ u pl j))), (6, .int (σ 142 (10 * j + 9))), (5, .int (nI j)), (3, .int (spL σ u pl j)), (4, .int (spM σ u pl j)), (0, .ref (ad 140)), (1, .int (nI u)), (2, .int pl)] → W p l e { frames := 1, cells := 0, slots := 0, locals := 23 } s m args below meth c H locs 0 0 (gM below (fun _ => False) 0 0 (fun v _ => (fun v => v = some (.int (spM σ u pl nu - spL σ u pl nu))) v) (fun x _ => (fun _ => False) x) args s) (F0 m 70 ls (.int z :: [])) := by
          intro z ez H locs hO ls hl
          subst ez
          refine lv_istore_n (lv' := [(3, .int (spL σ u pl (j + 1))), (7, .int (bI (thB σ u pl j))), (6, .int (σ 142 (10 * j + 9))), (5, .int (nI j)), (4, .int (spM σ u pl j)), (0, .ref (ad 140)), (1, .int (nI u)), (2, .int pl)]) S.1 S.2.1 d_MD_span_70 rfl hl (by decide) rfl (fun ls hl => ?_)
          have J_90 : ∀ (z : Int32), z = (spM σ u pl (j + 1)) → ∀ (H : Heap) (locs : List Loc), gO G (fun _ => False) 159 ad (enc G ad σ τ) s H locs → ∀ ls : Array Slot, lv_has ls 8 [(3, .int (spL σ u pl (j + 1))), (7, .int (bI (thB σ u pl j))), (6, .int (σ 142 (10 * j + 9))), (5, .int (nI j)), (4, .int (spM σ u pl j)), (0, .ref (ad 140)), (1, .int (nI u)), (2, .int pl)] → W p l e { frames := 1, cells := 0, slots := 0, locals := 23 } s m args below meth c H locs 0 0 (gM below (fun _ => False) 0 0 (fun v _ => (fun v => v = some (.int (spM σ u pl nu - spL σ u pl nu))) v) (fun x _ => (fun _ => False) x) args s) (F0 m 90 ls (.int z :: [])) := by
            intro z ez H locs hO ls hl
            subst ez
            refine lv_istore (lv' := [(4, .int (spM σ u pl (j + 1))), (3, .int (spL σ u pl (j + 1))), (7, .int (bI (thB σ u pl j))), (6, .int (σ 142 (10 * j + 9))), (5, .int (nI j)), (0, .ref (ad 140)), (1, .int (nI u)), (2, .int pl)]) S.1 S.2.1 d_MD_span_90 hl (by decide) rfl (fun ls hl => ?_)
            refine lv_iinc (v := nI (j + 1)) (lv' := [(5, .int (nI (j + 1))), (4, .int (spM σ u pl (j + 1))), (3, .int (spL σ u pl (j + 1))), (7, .int (bI (thB σ u pl j))), (6, .int (σ 142 (10 * j + 9))), (0, .ref (ad 140)), (1, .int (nI u)), (2, .int pl)]) S.1 S.2.1 d_MD_span_92 hl (k := 4) rfl (nI_1 _) (by decide) rfl (fun ls hl => ?_)
            refine lv_goto (tgt := 19) S.1 S.2.1 d_MD_span_95 (by decide) ?_
            exact ih_19 (j + 1) (by omega) (by omega) _ _ hO ls (lv_sub hl [0, 2, 1, 5, 6, 7] rfl)
          refine lv_iload S.1 S.2.1 d_MD_span_71 (lv_at hl 1 rfl) ?_
          refine lv_if_eq (tgt := 88) S.1 S.2.1 d_MD_span_73 (by decide) (fun c_73 => ?_) (fun c_73 => ?_)
          · skip
            have q_73 : (thB σ u pl j) = false := b_0 c_73
            refine lv_iload S.1 S.2.1 d_MD_span_88 (lv_at hl 4 rfl) ?_
            exact J_90 _ (by simp [bI, spM, q_73]) _ _ hO ls (lv_sub hl [0, 1, 2, 3, 4, 5, 6, 7] rfl)
          · skip
            have q_73 : (thB σ u pl j) = true := b_1 c_73
            refine lv_iload S.1 S.2.1 d_MD_span_76 (lv_at hl 2 rfl) ?_
            refine lv_iload S.1 S.2.1 d_MD_span_78 (lv_at hl 4 rfl) ?_
            refine lv_icmp_le (tgt := 88) S.1 S.2.1 d_MD_span_80 (by decide) (fun c_80 => ?_) (fun c_80 => ?_)
            · skip
              refine lv_iload S.1 S.2.1 d_MD_span_88 (lv_at hl 4 rfl) ?_
              exact J_90 _ (by simp [bI, spM, q_73, c_80, Int32.not_lt.mpr c_80]) _ _ hO ls (lv_sub hl [0, 1, 2, 3, 4, 5, 6, 7] rfl)
            · skip
              refine lv_iload S.1 S.2.1 d_MD_span_83 (lv_at hl 2 rfl) ?_
              refine lv_goto (tgt := 90) S.1 S.2.1 d_MD_span_85 (by decide) ?_
              exact J_90 _ (by simp [bI, spM, q_73, c_80, Int32.not_le.mp c_80]) _ _ hO ls (lv_sub hl [0, 1, 2, 3, 4, 5, 6, 7] rfl)
        refine lv_iload S.1 S.2.1 d_MD_span_53 (lv_at hl 0 rfl) ?_
        refine lv_if_eq (tgt := 69) S.1 S.2.1 d_MD_span_55 (by decide) (fun c_55 => ?_) (fun c_55 => ?_)
        · skip
          have q_55 : (thB σ u pl j) = false := b_0 c_55
          refine lv_iload_n S.1 S.2.1 d_MD_span_69 rfl (lv_at hl 3 rfl) ?_
          exact J_70 _ (by simp [bI, spL, q_55]) _ _ hO ls (lv_sub hl [0, 1, 2, 3, 4, 5, 6, 7] rfl)
        · skip
          have q_55 : (thB σ u pl j) = true := b_1 c_55
          refine lv_iload S.1 S.2.1 d_MD_span_58 (lv_at hl 1 rfl) ?_
          refine lv_iload_n S.1 S.2.1 d_MD_span_60 rfl (lv_at hl 3 rfl) ?_
          refine lv_icmp_ge (tgt := 69) S.1 S.2.1 d_MD_span_61 (by decide) (fun c_61 => ?_) (fun c_61 => ?_)
          · skip
            refine lv_iload_n S.1 S.2.1 d_MD_span_69 rfl (lv_at hl 3 rfl) ?_
            exact J_70 _ (by simp [bI, spL, q_55, c_61, Int32.not_lt.mpr c_61]) _ _ hO ls (lv_sub hl [0, 1, 2, 3, 4, 5, 6, 7] rfl)
          · skip
            refine lv_iload S.1 S.2.1 d_MD_span_64 (lv_at hl 1 rfl) ?_
            refine lv_goto (tgt := 70) S.1 S.2.1 d_MD_span_66 (by decide) ?_
            exact J_70 _ (by simp [bI, spL, q_55, c_61, Int32.not_le.mp c_61]) _ _ hO ls (lv_sub hl [0, 1, 2, 3, 4, 5, 6, 7] rfl)
  exact K_19 (nu + 1) 0 (by omega) (by omega) _ _ hO ls (lv_sub hl [0, 2, 1, 3, 4, 5] rfl)
set_option maxHeartbeats 4000000 in
set_option maxRecDepth 100000 in
theorem k_MD_fits (l : Launch) (G : gP) (ad : Nat → Nat) (σ : Nat → Nat → Int32) (τ : Nat → Nat → Int64) (u : Nat) (hu : u < 40) (i : Nat) (hi : i < 12) (a : Int32) : gpu l y_MD_fits c_MD_fits 9 (some .boolean) { frames := 0, cells := 0, slots := 0, locals := 0 } G ad σ τ [.ref (ad 140), .int (nI u), .int (nI i), .int a] 0 0 (fun v => v = some (.int (bI (ftB σ u i a)))) (fun _ => False) := by
  refine gs_of (fun _ h => h.elim) (by decide) (Nat.le_of_ble_eq_true rfl) ?_
  intro p e s m args below meth c ls S hk hr hx hl hO
  have hl : lv_has ls 9 [(0, .ref (ad 140)), (1, .int (nI u)), (2, .int (nI i)), (3, .int a)] := hl
  refine lv_aload_n S.1 S.2.1 d_MD_fits_0 rfl (lv_at hl 0 rfl) ?_
  refine g_get S hO fl_MD_13 (by decide) (sh_140 G ad _ _) (v := .ref (ad 142)) rfl d_MD_fits_1 ?_
  refine lv_bipush (v := 10) S.1 S.2.1 d_MD_fits_4 (by decide) ?_
  refine lv_iload_n S.1 S.2.1 d_MD_fits_6 rfl (lv_at hl 1 rfl) ?_
  refine lv_imul S.1 S.2.1 d_MD_fits_7 ?_
  refine W.eq (g2 := F0 m 8 ls [.int (nI (10 * u)), .ref (ad 142)]) (by rw [show (10 : Int32) * (nI u) = nI (10 * u) from pk_mul 10 u]) ?_
  refine lv_iconst (v := 3) S.1 S.2.1 d_MD_fits_8 (by decide) ?_
  refine lv_iadd S.1 S.2.1 d_MD_fits_9 ?_
  refine W.eq (g2 := F0 m 10 ls [.int (nI (10 * u + 3)), .ref (ad 142)]) (by rw [show (nI (10 * u)) + (3 : Int32) = nI (10 * u + 3) from nI_add (10 * u) 3]) ?_
  refine g_ial S hO (by decide) (sh_142 G ad _ _) (vp_in_nI (show 10 * u + 3 < 400 by omega) (by decide)) d_MD_fits_10 ?_
  refine W.eq (g2 := F0 m 11 ls [.int (σ 142 (10 * u + 3))]) (by rw [nI_clamp (show 10 * u + 3 < 2 ^ 31 by omega)]) ?_
  refine lv_istore (lv' := [(4, .int (σ 142 (10 * u + 3))), (0, .ref (ad 140)), (1, .int (nI u)), (2, .int (nI i)), (3, .int a)]) S.1 S.2.1 d_MD_fits_11 hl (by decide) rfl (fun ls hl => ?_)
  refine lv_aload_n S.1 S.2.1 d_MD_fits_13 rfl (lv_at hl 1 rfl) ?_
  refine g_get S hO fl_MD_13 (by decide) (sh_140 G ad _ _) (v := .ref (ad 142)) rfl d_MD_fits_14 ?_
  refine lv_bipush (v := 10) S.1 S.2.1 d_MD_fits_17 (by decide) ?_
  refine lv_iload_n S.1 S.2.1 d_MD_fits_19 rfl (lv_at hl 2 rfl) ?_
  refine lv_imul S.1 S.2.1 d_MD_fits_20 ?_
  refine W.eq (g2 := F0 m 21 ls [.int (nI (10 * u)), .ref (ad 142)]) (by rw [show (10 : Int32) * (nI u) = nI (10 * u) from pk_mul 10 u]) ?_
  refine lv_iconst (v := 4) S.1 S.2.1 d_MD_fits_21 (by decide) ?_
  refine lv_iadd S.1 S.2.1 d_MD_fits_22 ?_
  refine W.eq (g2 := F0 m 23 ls [.int (nI (10 * u + 4)), .ref (ad 142)]) (by rw [show (nI (10 * u)) + (4 : Int32) = nI (10 * u + 4) from nI_add (10 * u) 4]) ?_
  refine g_ial S hO (by decide) (sh_142 G ad _ _) (vp_in_nI (show 10 * u + 4 < 400 by omega) (by decide)) d_MD_fits_23 ?_
  refine W.eq (g2 := F0 m 24 ls [.int (σ 142 (10 * u + 4))]) (by rw [nI_clamp (show 10 * u + 4 < 2 ^ 31 by omega)]) ?_
  refine lv_istore (lv' := [(5, .int (σ 142 (10 * u + 4))), (4, .int (σ 142 (10 * u + 3))), (0, .ref (ad 140)), (1, .int (nI u)), (2, .int (nI i)), (3, .int a)]) S.1 S.2.1 d_MD_fits_24 hl (by decide) rfl (fun ls hl => ?_)
  refine lv_aload_n S.1 S.2.1 d_MD_fits_26 rfl (lv_at hl 2 rfl) ?_
  refine g_get S hO fl_MD_13 (by decide) (sh_140 G ad _ _) (v := .ref (ad 142)) rfl d_MD_fits_27 ?_
  refine lv_bipush (v := 10) S.1 S.2.1 d_MD_fits_30 (by decide) ?_
  refine lv_iload_n S.1 S.2.1 d_MD_fits_32 rfl (lv_at hl 3 rfl) ?_
  refine lv_imul S.1 S.2.1 d_MD_fits_33 ?_
  refine W.eq (g2 := F0 m 34 ls [.int (nI (10 * u)), .ref (ad 142)]) (by rw [show (10 : Int32) * (nI u) = nI (10 * u) from pk_mul 10 u]) ?_
  refine lv_iconst (v := 5) S.1 S.2.1 d_MD_fits_34 (by decide) ?_
  refine lv_iadd S.1 S.2.1 d_MD_fits_35 ?_
  refine W.eq (g2 := F0 m 36 ls [.int (nI (10 * u + 5)), .ref (ad 142)]) (by rw [show (nI (10 * u)) + (5 : Int32) = nI (10 * u + 5) from nI_add (10 * u) 5]) ?_
  refine g_ial S hO (by decide) (sh_142 G ad _ _) (vp_in_nI (show 10 * u + 5 < 400 by omega) (by decide)) d_MD_fits_36 ?_
  refine W.eq (g2 := F0 m 37 ls [.int (σ 142 (10 * u + 5))]) (by rw [nI_clamp (show 10 * u + 5 < 2 ^ 31 by omega)]) ?_
  refine lv_istore (lv' := [(6, .int (σ 142 (10 * u + 5))), (5, .int (σ 142 (10 * u + 4))), (4, .int (σ 142 (10 * u + 3))), (0, .ref (ad 140)), (1, .int (nI u)), (2, .int (nI i)), (3, .int a)]) S.1 S.2.1 d_MD_fits_37 hl (by decide) rfl (fun ls hl => ?_)
  have J_61 : ∀ (z : Int32), z = (fwX σ u a) → ∀ (H : Heap) (locs : List Loc), gO G (fun _ => False) 159 ad (enc G ad σ τ) s H locs → ∀ ls : Array Slot, lv_has ls 9 [(6, .int (σ 142 (10 * u + 5))), (5, .int (σ 142 (10 * u + 4))), (4, .int (σ 142 (10 * u + 3))), (0, .ref (ad 140)), (1, .int (nI u)), (2, .int (nI i)), (3, .int a)] → W p l e { frames := 0, cells := 0, slots := 0, locals := 0 } s m args below meth c H locs 0 0 (gM below (fun _ => False) 0 0 (fun v _ => (fun v => v = some (.int (bI (ftB σ u i a)))) v) (fun x _ => (fun _ => False) x) args s) (F0 m 61 ls (.int z :: [])) := by
    intro z ez H locs hO ls hl
    subst ez
    refine lv_istore (lv' := [(7, .int (fwX σ u a)), (6, .int (σ 142 (10 * u + 5))), (5, .int (σ 142 (10 * u + 4))), (4, .int (σ 142 (10 * u + 3))), (0, .ref (ad 140)), (1, .int (nI u)), (2, .int (nI i)), (3, .int a)]) S.1 S.2.1 d_MD_fits_61 hl (by decide) rfl (fun ls hl => ?_)
    have J_94 : ∀ (z : Int32), z = (fwY σ u a) → ∀ (H : Heap) (locs : List Loc), gO G (fun _ => False) 159 ad (enc G ad σ τ) s H locs → ∀ ls : Array Slot, lv_has ls 9 [(7, .int (fwX σ u a)), (6, .int (σ 142 (10 * u + 5))), (5, .int (σ 142 (10 * u + 4))), (4, .int (σ 142 (10 * u + 3))), (0, .ref (ad 140)), (1, .int (nI u)), (2, .int (nI i)), (3, .int a)] → W p l e { frames := 0, cells := 0, slots := 0, locals := 0 } s m args below meth c H locs 0 0 (gM below (fun _ => False) 0 0 (fun v _ => (fun v => v = some (.int (bI (ftB σ u i a)))) v) (fun x _ => (fun _ => False) x) args s) (F0 m 94 ls (.int z :: [])) := by
      intro z ez H locs hO ls hl
      subst ez
      refine lv_istore (lv' := [(8, .int (fwY σ u a)), (7, .int (fwX σ u a)), (6, .int (σ 142 (10 * u + 5))), (5, .int (σ 142 (10 * u + 4))), (4, .int (σ 142 (10 * u + 3))), (0, .ref (ad 140)), (1, .int (nI u)), (2, .int (nI i)), (3, .int a)]) S.1 S.2.1 d_MD_fits_94 hl (by decide) rfl (fun ls hl => ?_)
      have J_156 : ∀ (z : Int32), z = (bI (ftB σ u i a)) → ∀ (H : Heap) (locs : List Loc), gO G (fun _ => False) 159 ad (enc G ad σ τ) s H locs → ∀ ls : Array Slot, lv_has ls 9 [(8, .int (fwY σ u a)), (7, .int (fwX σ u a)), (6, .int (σ 142 (10 * u + 5))), (5, .int (σ 142 (10 * u + 4))), (4, .int (σ 142 (10 * u + 3))), (0, .ref (ad 140)), (1, .int (nI u)), (2, .int (nI i)), (3, .int a)] → W p l e { frames := 0, cells := 0, slots := 0, locals := 0 } s m args below meth c H locs 0 0 (gM below (fun _ => False) 0 0 (fun v _ => (fun v => v = some (.int (bI (ftB σ u i a)))) v) (fun x _ => (fun _ => False) x) args s) (F0 m 156 ls (.int z :: [])) := by
        intro z ez H locs hO ls hl
        subst ez
        exact pu_z S hk hr hO (by first | exact Or.inl rfl | exact Or.inr rfl | exact b_01) (by rfl) (Nat.le_of_ble_eq_true rfl) (Nat.le_of_ble_eq_true rfl) d_MD_fits_156
      refine lv_iload S.1 S.2.1 d_MD_fits_96 (lv_at hl 1 rfl) ?_
      refine lv_aload_n S.1 S.2.1 d_MD_fits_98 rfl (lv_at hl 5 rfl) ?_
      refine g_get S hO fl_MD_7 (by decide) (sh_140 G ad _ _) (v := .ref (ad 141)) rfl d_MD_fits_99 ?_
      refine lv_iconst (v := 5) S.1 S.2.1 d_MD_fits_102 (by decide) ?_
      refine lv_iload_n S.1 S.2.1 d_MD_fits_103 rfl (lv_at hl 7 rfl) ?_
      refine lv_imul S.1 S.2.1 d_MD_fits_104 ?_
      refine W.eq (g2 := F0 m 105 ls [.int (nI (5 * i)), .ref (ad 141), .int (fwX σ u a)]) (by rw [show (5 : Int32) * (nI i) = nI (5 * i) from pk_mul 5 i]) ?_
      refine g_ial S hO (by decide) (sh_141 G ad _ _) (vp_in_nI (show 5 * i < 60 by omega) (by decide)) d_MD_fits_105 ?_
      refine W.eq (g2 := F0 m 106 ls [.int (σ 141 (5 * i)), .int (fwX σ u a)]) (by rw [nI_clamp (show 5 * i < 2 ^ 31 by omega)]) ?_
      refine lv_icmp_gt (tgt := 155) S.1 S.2.1 d_MD_fits_106 (by decide) (fun c_106 => ?_) (fun c_106 => ?_)
      · skip
        refine lv_iconst (v := 0) S.1 S.2.1 d_MD_fits_155 (by decide) ?_
        exact J_156 _ (by simp [bI, ftB, c_106, Int32.not_le.mpr c_106]) _ _ hO ls (lv_sub hl [0, 1, 2, 3, 4, 5, 6, 7, 8] rfl)
      · skip
        refine lv_iload S.1 S.2.1 d_MD_fits_109 (lv_at hl 0 rfl) ?_
        refine lv_aload_n S.1 S.2.1 d_MD_fits_111 rfl (lv_at hl 5 rfl) ?_
        refine g_get S hO fl_MD_7 (by decide) (sh_140 G ad _ _) (v := .ref (ad 141)) rfl d_MD_fits_112 ?_
        refine lv_iconst (v := 5) S.1 S.2.1 d_MD_fits_115 (by decide) ?_
        refine lv_iload_n S.1 S.2.1 d_MD_fits_116 rfl (lv_at hl 7 rfl) ?_
        refine lv_imul S.1 S.2.1 d_MD_fits_117 ?_
        refine W.eq (g2 := F0 m 118 ls [.int (nI (5 * i)), .ref (ad 141), .int (fwY σ u a)]) (by rw [show (5 : Int32) * (nI i) = nI (5 * i) from pk_mul 5 i]) ?_
        refine lv_iconst (v := 1) S.1 S.2.1 d_MD_fits_118 (by decide) ?_
        refine lv_iadd S.1 S.2.1 d_MD_fits_119 ?_
        refine W.eq (g2 := F0 m 120 ls [.int (nI (5 * i + 1)), .ref (ad 141), .int (fwY σ u a)]) (by rw [show (nI (5 * i)) + (1 : Int32) = nI (5 * i + 1) from nI_add (5 * i) 1]) ?_
        refine g_ial S hO (by decide) (sh_141 G ad _ _) (vp_in_nI (show 5 * i + 1 < 60 by omega) (by decide)) d_MD_fits_120 ?_
        refine W.eq (g2 := F0 m 121 ls [.int (σ 141 (5 * i + 1)), .int (fwY σ u a)]) (by rw [nI_clamp (show 5 * i + 1 < 2 ^ 31 by omega)]) ?_
        refine lv_icmp_gt (tgt := 155) S.1 S.2.1 d_MD_fits_121 (by decide) (fun c_121 => ?_) (fun c_121 => ?_)
        · skip
          refine lv_iconst (v := 0) S.1 S.2.1 d_MD_fits_155 (by decide) ?_
          exact J_156 _ (by simp [bI, ftB, c_106, Int32.not_lt.mp c_106, c_121, Int32.not_le.mpr c_121]) _ _ hO ls (lv_sub hl [0, 1, 2, 3, 4, 5, 6, 7, 8] rfl)
        · skip
          refine lv_iload S.1 S.2.1 d_MD_fits_124 (lv_at hl 4 rfl) ?_
          refine lv_iload S.1 S.2.1 d_MD_fits_126 (lv_at hl 3 rfl) ?_
          refine lv_iadd S.1 S.2.1 d_MD_fits_128 ?_
          refine lv_iload S.1 S.2.1 d_MD_fits_129 (lv_at hl 2 rfl) ?_
          refine lv_iadd S.1 S.2.1 d_MD_fits_131 ?_
          refine lv_iload S.1 S.2.1 d_MD_fits_132 (lv_at hl 1 rfl) ?_
          refine lv_isub S.1 S.2.1 d_MD_fits_134 ?_
          refine lv_iload S.1 S.2.1 d_MD_fits_135 (lv_at hl 0 rfl) ?_
          refine lv_isub S.1 S.2.1 d_MD_fits_137 ?_
          refine lv_aload_n S.1 S.2.1 d_MD_fits_138 rfl (lv_at hl 5 rfl) ?_
          refine g_get S hO fl_MD_7 (by decide) (sh_140 G ad _ _) (v := .ref (ad 141)) rfl d_MD_fits_139 ?_
          refine lv_iconst (v := 5) S.1 S.2.1 d_MD_fits_142 (by decide) ?_
          refine lv_iload_n S.1 S.2.1 d_MD_fits_143 rfl (lv_at hl 7 rfl) ?_
          refine lv_imul S.1 S.2.1 d_MD_fits_144 ?_
          refine W.eq (g2 := F0 m 145 ls [.int (nI (5 * i)), .ref (ad 141), .int (((((σ 142 (10 * u + 3)) + (σ 142 (10 * u + 4))) + (σ 142 (10 * u + 5))) - (fwX σ u a)) - (fwY σ u a))]) (by rw [show (5 : Int32) * (nI i) = nI (5 * i) from pk_mul 5 i]) ?_
          refine lv_iconst (v := 2) S.1 S.2.1 d_MD_fits_145 (by decide) ?_
          refine lv_iadd S.1 S.2.1 d_MD_fits_146 ?_
          refine W.eq (g2 := F0 m 147 ls [.int (nI (5 * i + 2)), .ref (ad 141), .int (((((σ 142 (10 * u + 3)) + (σ 142 (10 * u + 4))) + (σ 142 (10 * u + 5))) - (fwX σ u a)) - (fwY σ u a))]) (by rw [show (nI (5 * i)) + (2 : Int32) = nI (5 * i + 2) from nI_add (5 * i) 2]) ?_
          refine g_ial S hO (by decide) (sh_141 G ad _ _) (vp_in_nI (show 5 * i + 2 < 60 by omega) (by decide)) d_MD_fits_147 ?_
          refine W.eq (g2 := F0 m 148 ls [.int (σ 141 (5 * i + 2)), .int (((((σ 142 (10 * u + 3)) + (σ 142 (10 * u + 4))) + (σ 142 (10 * u + 5))) - (fwX σ u a)) - (fwY σ u a))]) (by rw [nI_clamp (show 5 * i + 2 < 2 ^ 31 by omega)]) ?_
          refine lv_icmp_gt (tgt := 155) S.1 S.2.1 d_MD_fits_148 (by decide) (fun c_148 => ?_) (fun c_148 => ?_)
          · skip
            refine lv_iconst (v := 0) S.1 S.2.1 d_MD_fits_155 (by decide) ?_
            exact J_156 _ (by simp [bI, ftB, c_106, Int32.not_lt.mp c_106, c_121, Int32.not_lt.mp c_121, c_148, Int32.not_le.mpr c_148]) _ _ hO ls (lv_sub hl [0, 1, 2, 3, 4, 5, 6, 7, 8] rfl)
          · skip
            refine lv_iconst (v := 1) S.1 S.2.1 d_MD_fits_151 (by decide) ?_
            refine lv_goto (tgt := 156) S.1 S.2.1 d_MD_fits_152 (by decide) ?_
            exact J_156 _ (by simp [bI, ftB, c_106, Int32.not_lt.mp c_106, c_121, Int32.not_lt.mp c_121, c_148, Int32.not_lt.mp c_148]) _ _ hO ls (lv_sub hl [0, 1, 2, 3, 4, 5, 6, 7, 8] rfl)
    refine lv_iload_n S.1 S.2.1 d_MD_fits_63 rfl (lv_at hl 7 rfl) ?_
    refine lv_if_eq (tgt := 72) S.1 S.2.1 d_MD_fits_64 (by decide) (fun c_64 => ?_) (fun c_64 => ?_)
    · skip
      refine lv_iload S.1 S.2.1 d_MD_fits_72 (lv_at hl 2 rfl) ?_
      refine lv_goto (tgt := 94) S.1 S.2.1 d_MD_fits_74 (by decide) ?_
      exact J_94 _ (by simp [bI, fwY, c_64]) _ _ hO ls (lv_sub hl [0, 1, 2, 3, 4, 5, 6, 7] rfl)
    · skip
      refine lv_iload_n S.1 S.2.1 d_MD_fits_67 rfl (lv_at hl 7 rfl) ?_
      refine lv_iconst (v := 5) S.1 S.2.1 d_MD_fits_68 (by decide) ?_
      refine lv_icmp_ne (tgt := 77) S.1 S.2.1 d_MD_fits_69 (by decide) (fun c_69 => ?_) (fun c_69 => ?_)
      · skip
        refine lv_iload_n S.1 S.2.1 d_MD_fits_77 rfl (lv_at hl 7 rfl) ?_
        refine lv_iconst (v := 1) S.1 S.2.1 d_MD_fits_78 (by decide) ?_
        refine lv_icmp_eq (tgt := 87) S.1 S.2.1 d_MD_fits_79 (by decide) (fun c_79 => ?_) (fun c_79 => ?_)
        · skip
          refine lv_iload S.1 S.2.1 d_MD_fits_87 (lv_at hl 1 rfl) ?_
          refine lv_goto (tgt := 94) S.1 S.2.1 d_MD_fits_89 (by decide) ?_
          exact J_94 _ (by simp [bI, fwY, c_64, c_69, c_79]) _ _ hO ls (lv_sub hl [0, 1, 2, 3, 4, 5, 6, 7] rfl)
        · skip
          refine lv_iload_n S.1 S.2.1 d_MD_fits_82 rfl (lv_at hl 7 rfl) ?_
          refine lv_iconst (v := 3) S.1 S.2.1 d_MD_fits_83 (by decide) ?_
          refine lv_icmp_ne (tgt := 92) S.1 S.2.1 d_MD_fits_84 (by decide) (fun c_84 => ?_) (fun c_84 => ?_)
          · skip
            refine lv_iload S.1 S.2.1 d_MD_fits_92 (lv_at hl 3 rfl) ?_
            exact J_94 _ (by simp [bI, fwY, c_64, c_69, c_79, c_84]) _ _ hO ls (lv_sub hl [0, 1, 2, 3, 4, 5, 6, 7] rfl)
          · skip
            refine lv_iload S.1 S.2.1 d_MD_fits_87 (lv_at hl 1 rfl) ?_
            refine lv_goto (tgt := 94) S.1 S.2.1 d_MD_fits_89 (by decide) ?_
            exact J_94 _ (by simp [bI, fwY, c_64, c_69, c_79, c_84]) _ _ hO ls (lv_sub hl [0, 1, 2, 3, 4, 5, 6, 7] rfl)
      · skip
        refine lv_iload S.1 S.2.1 d_MD_fits_72 (lv_at hl 2 rfl) ?_
        refine lv_goto (tgt := 94) S.1 S.2.1 d_MD_fits_74 (by decide) ?_
        exact J_94 _ (by simp [bI, fwY, c_64, c_69]) _ _ hO ls (lv_sub hl [0, 1, 2, 3, 4, 5, 6, 7] rfl)
  refine lv_iload_n S.1 S.2.1 d_MD_fits_39 rfl (lv_at hl 6 rfl) ?_
  refine lv_iconst (v := 2) S.1 S.2.1 d_MD_fits_40 (by decide) ?_
  refine lv_icmp_ge (tgt := 49) S.1 S.2.1 d_MD_fits_41 (by decide) (fun c_41 => ?_) (fun c_41 => ?_)
  · skip
    refine lv_iload_n S.1 S.2.1 d_MD_fits_49 rfl (lv_at hl 6 rfl) ?_
    refine lv_iconst (v := 4) S.1 S.2.1 d_MD_fits_50 (by decide) ?_
    refine lv_icmp_ge (tgt := 59) S.1 S.2.1 d_MD_fits_51 (by decide) (fun c_51 => ?_) (fun c_51 => ?_)
    · skip
      refine lv_iload S.1 S.2.1 d_MD_fits_59 (lv_at hl 0 rfl) ?_
      exact J_61 _ (by simp [bI, fwX, c_41, Int32.not_lt.mpr c_41, c_51, Int32.not_lt.mpr c_51]) _ _ hO ls (lv_sub hl [0, 1, 2, 3, 4, 5, 6] rfl)
    · skip
      refine lv_iload S.1 S.2.1 d_MD_fits_54 (lv_at hl 1 rfl) ?_
      refine lv_goto (tgt := 61) S.1 S.2.1 d_MD_fits_56 (by decide) ?_
      exact J_61 _ (by simp [bI, fwX, c_41, Int32.not_lt.mpr c_41, c_51, Int32.not_le.mp c_51]) _ _ hO ls (lv_sub hl [0, 1, 2, 3, 4, 5, 6] rfl)
  · skip
    refine lv_iload S.1 S.2.1 d_MD_fits_44 (lv_at hl 2 rfl) ?_
    refine lv_goto (tgt := 61) S.1 S.2.1 d_MD_fits_46 (by decide) ?_
    exact J_61 _ (by simp [bI, fwX, c_41, Int32.not_le.mp c_41]) _ _ hO ls (lv_sub hl [0, 1, 2, 3, 4, 5, 6] rfl)
