/-! The reference: what refuses. Written by wip/tools/m30.py. -/
set_option maxHeartbeats 4000000 in
set_option maxRecDepth 100000 in
theorem k_MD_unlike (l : Launch) (G : gP) (ad : Nat → Nat) (σ : Nat → Nat → Int32) (τ : Nat → Nat → Int64) (wh : Nat) (hw3 : wh < 3) (u : Nat) (hu : u < 40) (pl : Int32) (nu : Nat) (hmu : σ 140 2 = nI nu) (hn4 : nu ≤ 40) : gpu l y_MD_unlike c_MD_unlike 9 (some .int) { frames := 1, cells := 0, slots := 0, locals := 23 } G ad σ τ [.ref (ad 140), .int (nI u), .int pl, .int (nI wh)] 0 0 (fun v => v = some (.int (ukI σ u pl wh nu))) (fun _ => False) := by
  refine gs_of (fun _ h => h.elim) (by decide) (Nat.le_of_ble_eq_true rfl) ?_
  intro p e s m args below meth c ls S hk hr hx hl hO
  have hl : lv_has ls 9 [(0, .ref (ad 140)), (1, .int (nI u)), (2, .int pl), (3, .int (nI wh))] := hl
  refine lv_iconst (v := 0) S.1 S.2.1 d_MD_unlike_0 (by decide) ?_
  refine lv_istore (lv' := [(4, .int 0), (0, .ref (ad 140)), (1, .int (nI u)), (2, .int pl), (3, .int (nI wh))]) S.1 S.2.1 d_MD_unlike_1 hl (by decide) rfl (fun ls hl => ?_)
  refine lv_iconst (v := 0) S.1 S.2.1 d_MD_unlike_3 (by decide) ?_
  refine lv_istore (lv' := [(5, .int 0), (4, .int 0), (0, .ref (ad 140)), (1, .int (nI u)), (2, .int pl), (3, .int (nI wh))]) S.1 S.2.1 d_MD_unlike_4 hl (by decide) rfl (fun ls hl => ?_)
  have K_6 : ∀ (n9 : Nat) (x : Nat), nu - x < n9 → (x ≤ nu) → ∀ (H : Heap) (locs : List Loc), gO G (fun _ => False) 159 ad (enc G ad σ τ) s H locs → ∀ ls : Array Slot, lv_has ls 9 [(5, .int (nI x)), (4, .int (ukI σ u pl wh x)), (0, .ref (ad 140)), (1, .int (nI u)), (2, .int pl), (3, .int (nI wh))] → W p l e { frames := 1, cells := 0, slots := 0, locals := 23 } s m args below meth c H locs 0 0 (gM below (fun _ => False) 0 0 (fun v _ => (fun v => v = some (.int (ukI σ u pl wh nu))) v) (fun x _ => (fun _ => False) x) args s) (F0 m 6 ls []) := by
    intro n9
    induction n9 with
    | zero =>
      intro x hn9 hxn H locs hO ls hl
      exact absurd hn9 (Nat.not_lt_zero _)
    | succ n9 ih_6 =>
      intro x hn9 hxn H locs hO ls hl
      refine lv_iload S.1 S.2.1 d_MD_unlike_6 (lv_at hl 0 rfl) ?_
      refine lv_aload_n S.1 S.2.1 d_MD_unlike_8 rfl (lv_at hl 2 rfl) ?_
      refine g_get S hO fl_MD_83 (by decide) (sh_140 G ad _ _) (v := .int (σ 140 2)) rfl d_MD_unlike_9 ?_
      refine W.eq (g2 := F0 m 12 ls [.int (nI nu), .int (nI x)]) (by rw [show σ 140 2 = nI nu from hmu]) ?_
      refine lv_icmp_ge (tgt := 186) S.1 S.2.1 d_MD_unlike_12 (by decide) (fun c_12 => ?_) (fun c_12 => ?_)
      · skip
        have hw : x = nu := by have h9 := ge_nI (x := nI nu) rfl rfl (by omega) (by omega) c_12; omega
        rw [hw] at hl
        refine lv_iload S.1 S.2.1 d_MD_unlike_186 (lv_at hl 1 rfl) ?_
        exact pu_i S hk hr hO (by rfl) (Nat.le_of_ble_eq_true rfl) (Nat.le_of_ble_eq_true rfl) d_MD_unlike_188
      · skip
        have hw : x < nu := ngt_nI (x := nI nu) rfl rfl (by omega) (by omega) c_12
        have J_58 : ∀ (z : Int32), z = (bI (ctB σ u pl wh x)) → ∀ (H : Heap) (locs : List Loc), gO G (fun _ => False) 159 ad (enc G ad σ τ) s H locs → ∀ ls : Array Slot, lv_has ls 9 [(5, .int (nI x)), (4, .int (ukI σ u pl wh x)), (0, .ref (ad 140)), (1, .int (nI u)), (2, .int pl), (3, .int (nI wh))] → W p l e { frames := 1, cells := 0, slots := 0, locals := 23 } s m args below meth c H locs 0 0 (gM below (fun _ => False) 0 0 (fun v _ => (fun v => v = some (.int (ukI σ u pl wh nu))) v) (fun x _ => (fun _ => False) x) args s) (F0 m 58 ls (.int z :: [])) := by
          intro z ez H locs hO ls hl
          subst ez
          refine lv_istore (lv' := [(6, .int (bI (ctB σ u pl wh x))), (5, .int (nI x)), (4, .int (ukI σ u pl wh x)), (0, .ref (ad 140)), (1, .int (nI u)), (2, .int pl), (3, .int (nI wh))]) S.1 S.2.1 d_MD_unlike_58 hl (by decide) rfl (fun ls hl => ?_)
          refine lv_iconst (v := 0) S.1 S.2.1 d_MD_unlike_60 (by decide) ?_
          refine lv_istore (lv' := [(7, .int 0), (6, .int (bI (ctB σ u pl wh x))), (5, .int (nI x)), (4, .int (ukI σ u pl wh x)), (0, .ref (ad 140)), (1, .int (nI u)), (2, .int pl), (3, .int (nI wh))]) S.1 S.2.1 d_MD_unlike_61 hl (by decide) rfl (fun ls hl => ?_)
          have K_63 : ∀ (n9 : Nat) (j : Nat), x - j < n9 → (j ≤ x) → ∀ (H : Heap) (locs : List Loc), gO G (fun _ => False) 159 ad (enc G ad σ τ) s H locs → ∀ ls : Array Slot, lv_has ls 9 [(7, .int (nI j)), (6, .int (bI (cnB σ u pl wh x j))), (5, .int (nI x)), (4, .int (ukI σ u pl wh x)), (0, .ref (ad 140)), (1, .int (nI u)), (2, .int pl), (3, .int (nI wh))] → W p l e { frames := 1, cells := 0, slots := 0, locals := 23 } s m args below meth c H locs 0 0 (gM below (fun _ => False) 0 0 (fun v _ => (fun v => v = some (.int (ukI σ u pl wh nu))) v) (fun x _ => (fun _ => False) x) args s) (F0 m 63 ls []) := by
            intro n9
            induction n9 with
            | zero =>
              intro j hn9 hj H locs hO ls hl
              exact absurd hn9 (Nat.not_lt_zero _)
            | succ n9 ih_63 =>
              intro j hn9 hj H locs hO ls hl
              refine lv_iload S.1 S.2.1 d_MD_unlike_63 (lv_at hl 0 rfl) ?_
              refine lv_iload S.1 S.2.1 d_MD_unlike_65 (lv_at hl 2 rfl) ?_
              refine lv_icmp_ge (tgt := 165) S.1 S.2.1 d_MD_unlike_67 (by decide) (fun c_67 => ?_) (fun c_67 => ?_)
              · skip
                have hw : j = x := by have h9 := ge_nI (x := nI x) rfl rfl (by omega) (by omega) c_67; omega
                rw [hw] at hl
                refine lv_iload S.1 S.2.1 d_MD_unlike_165 (lv_at hl 3 rfl) ?_
                have J_177 : ∀ (z : Int32), z = (bI (cnB σ u pl wh x x)) → ∀ (H : Heap) (locs : List Loc), gO G (fun _ => False) 159 ad (enc G ad σ τ) s H locs → ∀ ls : Array Slot, lv_has ls 9 [(7, .int (nI x)), (6, .int (bI (cnB σ u pl wh x x))), (5, .int (nI x)), (4, .int (ukI σ u pl wh x)), (0, .ref (ad 140)), (1, .int (nI u)), (2, .int pl), (3, .int (nI wh))] → W p l e { frames := 1, cells := 0, slots := 0, locals := 23 } s m args below meth c H locs 0 0 (gM below (fun _ => False) 0 0 (fun v _ => (fun v => v = some (.int (ukI σ u pl wh nu))) v) (fun x _ => (fun _ => False) x) args s) (F0 m 177 ls (.int z :: [.int (ukI σ u pl wh x)])) := by
                  intro z ez H locs hO ls hl
                  subst ez
                  refine lv_iadd S.1 S.2.1 d_MD_unlike_177 ?_
                  refine lv_istore (lv' := [(4, .int ((ukI σ u pl wh x) + (bI (cnB σ u pl wh x x)))), (7, .int (nI x)), (6, .int (bI (cnB σ u pl wh x x))), (5, .int (nI x)), (0, .ref (ad 140)), (1, .int (nI u)), (2, .int pl), (3, .int (nI wh))]) S.1 S.2.1 d_MD_unlike_178 hl (by decide) rfl (fun ls hl => ?_)
                  refine lv_iinc (v := nI (x + 1)) (lv' := [(5, .int (nI (x + 1))), (4, .int ((ukI σ u pl wh x) + (bI (cnB σ u pl wh x x)))), (7, .int (nI x)), (6, .int (bI (cnB σ u pl wh x x))), (0, .ref (ad 140)), (1, .int (nI u)), (2, .int pl), (3, .int (nI wh))]) S.1 S.2.1 d_MD_unlike_180 hl (k := 3) rfl (nI_1 _) (by decide) rfl (fun ls hl => ?_)
                  refine lv_goto (tgt := 6) S.1 S.2.1 d_MD_unlike_183 (by decide) ?_
                  exact ih_6 (x + 1) (by omega) (by omega) _ _ hO ls (lv_sub hl [0, 1, 4, 5, 6, 7] rfl)
                refine lv_iload S.1 S.2.1 d_MD_unlike_167 (lv_at hl 1 rfl) ?_
                refine lv_if_eq (tgt := 176) S.1 S.2.1 d_MD_unlike_169 (by decide) (fun c_169 => ?_) (fun c_169 => ?_)
                · skip
                  have q_169 : (cnB σ u pl wh x x) = false := b_0 c_169
                  refine lv_iconst (v := 0) S.1 S.2.1 d_MD_unlike_176 (by decide) ?_
                  exact J_177 _ (by simp [bI, q_169]) _ _ hO ls (lv_sub hl [0, 1, 2, 3, 4, 5, 6, 7] rfl)
                · skip
                  have q_169 : (cnB σ u pl wh x x) = true := b_1 c_169
                  refine lv_iconst (v := 1) S.1 S.2.1 d_MD_unlike_172 (by decide) ?_
                  refine lv_goto (tgt := 177) S.1 S.2.1 d_MD_unlike_173 (by decide) ?_
                  exact J_177 _ (by simp [bI, q_169]) _ _ hO ls (lv_sub hl [0, 1, 2, 3, 4, 5, 6, 7] rfl)
              · skip
                have hw2 : j < x := ngt_nI (x := nI x) rfl rfl (by omega) (by omega) c_67
                refine lv_iload S.1 S.2.1 d_MD_unlike_70 (lv_at hl 1 rfl) ?_
                refine lv_if_eq (tgt := 165) S.1 S.2.1 d_MD_unlike_72 (by decide) (fun c_72 => ?_) (fun c_72 => ?_)
                · skip
                  have q_72 : (cnB σ u pl wh x j) = false := b_0 c_72
                  have e9 : cnB σ u pl wh x j = cnB σ u pl wh x x := by
                    have h9 := cnB_f q_72 (x - j)
                    rw [show j + (x - j) = x by omega] at h9
                    rw [q_72, h9]
                  rw [e9] at hl
                  refine lv_iload S.1 S.2.1 d_MD_unlike_165 (lv_at hl 3 rfl) ?_
                  have J_177 : ∀ (z : Int32), z = (bI (cnB σ u pl wh x x)) → ∀ (H : Heap) (locs : List Loc), gO G (fun _ => False) 159 ad (enc G ad σ τ) s H locs → ∀ ls : Array Slot, lv_has ls 9 [(7, .int (nI j)), (6, .int (bI (cnB σ u pl wh x x))), (5, .int (nI x)), (4, .int (ukI σ u pl wh x)), (0, .ref (ad 140)), (1, .int (nI u)), (2, .int pl), (3, .int (nI wh))] → W p l e { frames := 1, cells := 0, slots := 0, locals := 23 } s m args below meth c H locs 0 0 (gM below (fun _ => False) 0 0 (fun v _ => (fun v => v = some (.int (ukI σ u pl wh nu))) v) (fun x _ => (fun _ => False) x) args s) (F0 m 177 ls (.int z :: [.int (ukI σ u pl wh x)])) := by
                    intro z ez H locs hO ls hl
                    subst ez
                    refine lv_iadd S.1 S.2.1 d_MD_unlike_177 ?_
                    refine lv_istore (lv' := [(4, .int ((ukI σ u pl wh x) + (bI (cnB σ u pl wh x x)))), (7, .int (nI j)), (6, .int (bI (cnB σ u pl wh x x))), (5, .int (nI x)), (0, .ref (ad 140)), (1, .int (nI u)), (2, .int pl), (3, .int (nI wh))]) S.1 S.2.1 d_MD_unlike_178 hl (by decide) rfl (fun ls hl => ?_)
                    refine lv_iinc (v := nI (x + 1)) (lv' := [(5, .int (nI (x + 1))), (4, .int ((ukI σ u pl wh x) + (bI (cnB σ u pl wh x x)))), (7, .int (nI j)), (6, .int (bI (cnB σ u pl wh x x))), (0, .ref (ad 140)), (1, .int (nI u)), (2, .int pl), (3, .int (nI wh))]) S.1 S.2.1 d_MD_unlike_180 hl (k := 3) rfl (nI_1 _) (by decide) rfl (fun ls hl => ?_)
                    refine lv_goto (tgt := 6) S.1 S.2.1 d_MD_unlike_183 (by decide) ?_
                    exact ih_6 (x + 1) (by omega) (by omega) _ _ hO ls (lv_sub hl [0, 1, 4, 5, 6, 7] rfl)
                  refine lv_iload S.1 S.2.1 d_MD_unlike_167 (lv_at hl 1 rfl) ?_
                  refine lv_if_eq (tgt := 176) S.1 S.2.1 d_MD_unlike_169 (by decide) (fun c_169 => ?_) (fun c_169 => ?_)
                  · skip
                    have q_169 : (cnB σ u pl wh x x) = false := b_0 c_169
                    refine lv_iconst (v := 0) S.1 S.2.1 d_MD_unlike_176 (by decide) ?_
                    exact J_177 _ (by simp [bI, q_169]) _ _ hO ls (lv_sub hl [0, 1, 2, 3, 4, 5, 6, 7] rfl)
                  · skip
                    have q_169 : (cnB σ u pl wh x x) = true := b_1 c_169
                    refine lv_iconst (v := 1) S.1 S.2.1 d_MD_unlike_172 (by decide) ?_
                    refine lv_goto (tgt := 177) S.1 S.2.1 d_MD_unlike_173 (by decide) ?_
                    exact J_177 _ (by simp [bI, q_169]) _ _ hO ls (lv_sub hl [0, 1, 2, 3, 4, 5, 6, 7] rfl)
                · skip
                  have q_72 : (cnB σ u pl wh x j) = true := b_1 c_72
                  have J_118 : ∀ (z : Int32), z = (bI (ctB σ u pl wh j)) → ∀ (H : Heap) (locs : List Loc), gO G (fun _ => False) 159 ad (enc G ad σ τ) s H locs → ∀ ls : Array Slot, lv_has ls 9 [(7, .int (nI j)), (6, .int (bI (cnB σ u pl wh x j))), (5, .int (nI x)), (4, .int (ukI σ u pl wh x)), (0, .ref (ad 140)), (1, .int (nI u)), (2, .int pl), (3, .int (nI wh))] → W p l e { frames := 1, cells := 0, slots := 0, locals := 23 } s m args below meth c H locs 0 0 (gM below (fun _ => False) 0 0 (fun v _ => (fun v => v = some (.int (ukI σ u pl wh nu))) v) (fun x _ => (fun _ => False) x) args s) (F0 m 118 ls (.int z :: [])) := by
                    intro z ez H locs hO ls hl
                    subst ez
                    refine lv_istore (lv' := [(8, .int (bI (ctB σ u pl wh j))), (7, .int (nI j)), (6, .int (bI (cnB σ u pl wh x j))), (5, .int (nI x)), (4, .int (ukI σ u pl wh x)), (0, .ref (ad 140)), (1, .int (nI u)), (2, .int pl), (3, .int (nI wh))]) S.1 S.2.1 d_MD_unlike_118 hl (by decide) rfl (fun ls hl => ?_)
                    have J_157 : ∀ (z : Int32), z = (bI (cnB σ u pl wh x (j + 1))) → ∀ (H : Heap) (locs : List Loc), gO G (fun _ => False) 159 ad (enc G ad σ τ) s H locs → ∀ ls : Array Slot, lv_has ls 9 [(8, .int (bI (ctB σ u pl wh j))), (7, .int (nI j)), (6, .int (bI (cnB σ u pl wh x j))), (5, .int (nI x)), (4, .int (ukI σ u pl wh x)), (0, .ref (ad 140)), (1, .int (nI u)), (2, .int pl), (3, .int (nI wh))] → W p l e { frames := 1, cells := 0, slots := 0, locals := 23 } s m args below meth c H locs 0 0 (gM below (fun _ => False) 0 0 (fun v _ => (fun v => v = some (.int (ukI σ u pl wh nu))) v) (fun x _ => (fun _ => False) x) args s) (F0 m 157 ls (.int z :: [])) := by
                      intro z ez H locs hO ls hl
                      subst ez
                      refine lv_istore (lv' := [(6, .int (bI (cnB σ u pl wh x (j + 1)))), (8, .int (bI (ctB σ u pl wh j))), (7, .int (nI j)), (5, .int (nI x)), (4, .int (ukI σ u pl wh x)), (0, .ref (ad 140)), (1, .int (nI u)), (2, .int pl), (3, .int (nI wh))]) S.1 S.2.1 d_MD_unlike_157 hl (by decide) rfl (fun ls hl => ?_)
                      refine lv_iinc (v := nI (j + 1)) (lv' := [(7, .int (nI (j + 1))), (6, .int (bI (cnB σ u pl wh x (j + 1)))), (8, .int (bI (ctB σ u pl wh j))), (5, .int (nI x)), (4, .int (ukI σ u pl wh x)), (0, .ref (ad 140)), (1, .int (nI u)), (2, .int pl), (3, .int (nI wh))]) S.1 S.2.1 d_MD_unlike_159 hl (k := 2) rfl (nI_1 _) (by decide) rfl (fun ls hl => ?_)
                      refine lv_goto (tgt := 63) S.1 S.2.1 d_MD_unlike_162 (by decide) ?_
                      exact ih_63 (j + 1) (by omega) (by omega) _ _ hO ls (lv_sub hl [0, 1, 3, 4, 5, 6, 7, 8] rfl)
                    refine lv_iload S.1 S.2.1 d_MD_unlike_120 (lv_at hl 0 rfl) ?_
                    refine lv_if_eq (tgt := 152) S.1 S.2.1 d_MD_unlike_122 (by decide) (fun c_122 => ?_) (fun c_122 => ?_)
                    · skip
                      have q_122 : (ctB σ u pl wh j) = false := b_0 c_122
                      refine lv_iconst (v := 1) S.1 S.2.1 d_MD_unlike_152 (by decide) ?_
                      refine lv_goto (tgt := 157) S.1 S.2.1 d_MD_unlike_153 (by decide) ?_
                      exact J_157 _ (by simp [bI, cnB_s, q_72, q_122]) _ _ hO ls (lv_sub hl [0, 1, 2, 3, 4, 5, 6, 7, 8] rfl)
                    · skip
                      have q_122 : (ctB σ u pl wh j) = true := b_1 c_122
                      refine lv_aload_n S.1 S.2.1 d_MD_unlike_125 rfl (lv_at hl 5 rfl) ?_
                      refine g_get S hO fl_MD_13 (by decide) (sh_140 G ad _ _) (v := .ref (ad 142)) rfl d_MD_unlike_126 ?_
                      refine lv_bipush (v := 10) S.1 S.2.1 d_MD_unlike_129 (by decide) ?_
                      refine lv_iload S.1 S.2.1 d_MD_unlike_131 (lv_at hl 1 rfl) ?_
                      refine lv_imul S.1 S.2.1 d_MD_unlike_133 ?_
                      refine W.eq (g2 := F0 m 134 ls [.int (nI (10 * j)), .ref (ad 142)]) (by rw [show (10 : Int32) * (nI j) = nI (10 * j) from pk_mul 10 j]) ?_
                      refine lv_iload_n S.1 S.2.1 d_MD_unlike_134 rfl (lv_at hl 8 rfl) ?_
                      refine lv_iadd S.1 S.2.1 d_MD_unlike_135 ?_
                      refine W.eq (g2 := F0 m 136 ls [.int (nI (10 * j + wh)), .ref (ad 142)]) (by rw [show (nI (10 * j)) + (nI wh) = nI (10 * j + wh) from nI_add (10 * j) wh]) ?_
                      refine g_ial S hO (by decide) (sh_142 G ad _ _) (vp_in_nI (show 10 * j + wh < 400 by omega) (by decide)) d_MD_unlike_136 ?_
                      refine W.eq (g2 := F0 m 137 ls [.int (σ 142 (10 * j + wh))]) (by rw [nI_clamp (show 10 * j + wh < 2 ^ 31 by omega)]) ?_
                      refine lv_aload_n S.1 S.2.1 d_MD_unlike_137 rfl (lv_at hl 5 rfl) ?_
                      refine g_get S hO fl_MD_13 (by decide) (sh_140 G ad _ _) (v := .ref (ad 142)) rfl d_MD_unlike_138 ?_
                      refine lv_bipush (v := 10) S.1 S.2.1 d_MD_unlike_141 (by decide) ?_
                      refine lv_iload S.1 S.2.1 d_MD_unlike_143 (lv_at hl 3 rfl) ?_
                      refine lv_imul S.1 S.2.1 d_MD_unlike_145 ?_
                      refine W.eq (g2 := F0 m 146 ls [.int (nI (10 * x)), .ref (ad 142), .int (σ 142 (10 * j + wh))]) (by rw [show (10 : Int32) * (nI x) = nI (10 * x) from pk_mul 10 x]) ?_
                      refine lv_iload_n S.1 S.2.1 d_MD_unlike_146 rfl (lv_at hl 8 rfl) ?_
                      refine lv_iadd S.1 S.2.1 d_MD_unlike_147 ?_
                      refine W.eq (g2 := F0 m 148 ls [.int (nI (10 * x + wh)), .ref (ad 142), .int (σ 142 (10 * j + wh))]) (by rw [show (nI (10 * x)) + (nI wh) = nI (10 * x + wh) from nI_add (10 * x) wh]) ?_
                      refine g_ial S hO (by decide) (sh_142 G ad _ _) (vp_in_nI (show 10 * x + wh < 400 by omega) (by decide)) d_MD_unlike_148 ?_
                      refine W.eq (g2 := F0 m 149 ls [.int (σ 142 (10 * x + wh)), .int (σ 142 (10 * j + wh))]) (by rw [nI_clamp (show 10 * x + wh < 2 ^ 31 by omega)]) ?_
                      refine lv_icmp_eq (tgt := 156) S.1 S.2.1 d_MD_unlike_149 (by decide) (fun c_149 => ?_) (fun c_149 => ?_)
                      · skip
                        refine lv_iconst (v := 0) S.1 S.2.1 d_MD_unlike_156 (by decide) ?_
                        exact J_157 _ (by simp [bI, cnB_s, q_72, q_122, c_149]) _ _ hO ls (lv_sub hl [0, 1, 2, 3, 4, 5, 6, 7, 8] rfl)
                      · skip
                        refine lv_iconst (v := 1) S.1 S.2.1 d_MD_unlike_152 (by decide) ?_
                        refine lv_goto (tgt := 157) S.1 S.2.1 d_MD_unlike_153 (by decide) ?_
                        exact J_157 _ (by simp [bI, cnB_s, q_72, q_122, c_149]) _ _ hO ls (lv_sub hl [0, 1, 2, 3, 4, 5, 6, 7, 8] rfl)
                  refine lv_aload_n S.1 S.2.1 d_MD_unlike_75 rfl (lv_at hl 4 rfl) ?_
                  refine lv_iload S.1 S.2.1 d_MD_unlike_76 (lv_at hl 0 rfl) ?_
                  refine lv_iload_n S.1 S.2.1 d_MD_unlike_78 rfl (lv_at hl 5 rfl) ?_
                  refine lv_iload_n S.1 S.2.1 d_MD_unlike_79 rfl (lv_at hl 6 rfl) ?_
                  refine g_VP (As := [.int (nI j), .int (nI u), .int pl]) (rest := []) S hO (k_MD_isThere l G ad σ τ j (by omega) u pl) cw_MD_159 (by decide) (sh_140 G ad _ _) rfl rfl hl.1 (Nat.le_of_ble_eq_true rfl) ⟨(Nat.le_of_ble_eq_true rfl), (Nat.le_of_ble_eq_true rfl)⟩ ⟨(Nat.le_of_ble_eq_true rfl), (Nat.le_of_ble_eq_true rfl)⟩ d_MD_unlike_80 (fun q x ce H h9 => h9.elim) (fun v H v_4 hO => ?_)
                  subst v_4
                  refine W.eq (g2 := F0 m 83 ls [.int (bI (thB σ u pl j))]) rfl ?_
                  refine lv_if_eq (tgt := 117) S.1 S.2.1 d_MD_unlike_83 (by decide) (fun c_83 => ?_) (fun c_83 => ?_)
                  · skip
                    have q_83 : (thB σ u pl j) = false := b_0 c_83
                    refine lv_iconst (v := 0) S.1 S.2.1 d_MD_unlike_117 (by decide) ?_
                    exact J_118 _ (by simp [bI, ctB, q_83]) _ _ hO ls (lv_sub hl [0, 1, 2, 3, 4, 5, 6, 7] rfl)
                  · skip
                    have q_83 : (thB σ u pl j) = true := b_1 c_83
                    refine lv_iload_n S.1 S.2.1 d_MD_unlike_86 rfl (lv_at hl 7 rfl) ?_
                    refine lv_iconst (v := 1) S.1 S.2.1 d_MD_unlike_87 (by decide) ?_
                    refine lv_icmp_ne (tgt := 113) S.1 S.2.1 d_MD_unlike_88 (by decide) (fun c_88 => ?_) (fun c_88 => ?_)
                    · skip
                      refine lv_iconst (v := 1) S.1 S.2.1 d_MD_unlike_113 (by decide) ?_
                      refine lv_goto (tgt := 118) S.1 S.2.1 d_MD_unlike_114 (by decide) ?_
                      exact J_118 _ (by simp [bI, ctB, q_83, c_88]) _ _ hO ls (lv_sub hl [0, 1, 2, 3, 4, 5, 6, 7] rfl)
                    · skip
                      refine lv_aload_n S.1 S.2.1 d_MD_unlike_91 rfl (lv_at hl 4 rfl) ?_
                      refine g_get S hO fl_MD_13 (by decide) (sh_140 G ad _ _) (v := .ref (ad 142)) rfl d_MD_unlike_92 ?_
                      refine lv_bipush (v := 10) S.1 S.2.1 d_MD_unlike_95 (by decide) ?_
                      refine lv_iload S.1 S.2.1 d_MD_unlike_97 (lv_at hl 0 rfl) ?_
                      refine lv_imul S.1 S.2.1 d_MD_unlike_99 ?_
                      refine W.eq (g2 := F0 m 100 ls [.int (nI (10 * j)), .ref (ad 142)]) (by rw [show (10 : Int32) * (nI j) = nI (10 * j) from pk_mul 10 j]) ?_
                      refine g_ial S hO (by decide) (sh_142 G ad _ _) (vp_in_nI (show 10 * j < 400 by omega) (by decide)) d_MD_unlike_100 ?_
                      refine W.eq (g2 := F0 m 101 ls [.int (σ 142 (10 * j))]) (by rw [nI_clamp (show 10 * j < 2 ^ 31 by omega)]) ?_
                      refine lv_aload_n S.1 S.2.1 d_MD_unlike_101 rfl (lv_at hl 4 rfl) ?_
                      refine g_get S hO fl_MD_13 (by decide) (sh_140 G ad _ _) (v := .ref (ad 142)) rfl d_MD_unlike_102 ?_
                      refine lv_bipush (v := 10) S.1 S.2.1 d_MD_unlike_105 (by decide) ?_
                      refine lv_iload_n S.1 S.2.1 d_MD_unlike_107 rfl (lv_at hl 5 rfl) ?_
                      refine lv_imul S.1 S.2.1 d_MD_unlike_108 ?_
                      refine W.eq (g2 := F0 m 109 ls [.int (nI (10 * u)), .ref (ad 142), .int (σ 142 (10 * j))]) (by rw [show (10 : Int32) * (nI u) = nI (10 * u) from pk_mul 10 u]) ?_
                      refine g_ial S hO (by decide) (sh_142 G ad _ _) (vp_in_nI (show 10 * u < 400 by omega) (by decide)) d_MD_unlike_109 ?_
                      refine W.eq (g2 := F0 m 110 ls [.int (σ 142 (10 * u)), .int (σ 142 (10 * j))]) (by rw [nI_clamp (show 10 * u < 2 ^ 31 by omega)]) ?_
                      refine lv_icmp_ne (tgt := 117) S.1 S.2.1 d_MD_unlike_110 (by decide) (fun c_110 => ?_) (fun c_110 => ?_)
                      · skip
                        refine lv_iconst (v := 0) S.1 S.2.1 d_MD_unlike_117 (by decide) ?_
                        exact J_118 _ (by simp [bI, ctB, q_83, c_88, c_110]) _ _ hO ls (lv_sub hl [0, 1, 2, 3, 4, 5, 6, 7] rfl)
                      · skip
                        refine lv_iconst (v := 1) S.1 S.2.1 d_MD_unlike_113 (by decide) ?_
                        refine lv_goto (tgt := 118) S.1 S.2.1 d_MD_unlike_114 (by decide) ?_
                        exact J_118 _ (by simp [bI, ctB, q_83, c_88, c_110]) _ _ hO ls (lv_sub hl [0, 1, 2, 3, 4, 5, 6, 7] rfl)
          exact K_63 (x + 1) 0 (by omega) (by omega) _ _ hO ls (lv_sub hl [0, 1, 2, 3, 4, 5, 6, 7] rfl)
        refine lv_aload_n S.1 S.2.1 d_MD_unlike_15 rfl (lv_at hl 2 rfl) ?_
        refine lv_iload S.1 S.2.1 d_MD_unlike_16 (lv_at hl 0 rfl) ?_
        refine lv_iload_n S.1 S.2.1 d_MD_unlike_18 rfl (lv_at hl 3 rfl) ?_
        refine lv_iload_n S.1 S.2.1 d_MD_unlike_19 rfl (lv_at hl 4 rfl) ?_
        refine g_VP (As := [.int (nI x), .int (nI u), .int pl]) (rest := []) S hO (k_MD_isThere l G ad σ τ x (by omega) u pl) cw_MD_159 (by decide) (sh_140 G ad _ _) rfl rfl hl.1 (Nat.le_of_ble_eq_true rfl) ⟨(Nat.le_of_ble_eq_true rfl), (Nat.le_of_ble_eq_true rfl)⟩ ⟨(Nat.le_of_ble_eq_true rfl), (Nat.le_of_ble_eq_true rfl)⟩ d_MD_unlike_20 (fun q x ce H h9 => h9.elim) (fun v H v_5 hO => ?_)
        subst v_5
        refine W.eq (g2 := F0 m 23 ls [.int (bI (thB σ u pl x))]) rfl ?_
        refine lv_if_eq (tgt := 57) S.1 S.2.1 d_MD_unlike_23 (by decide) (fun c_23 => ?_) (fun c_23 => ?_)
        · skip
          have q_23 : (thB σ u pl x) = false := b_0 c_23
          refine lv_iconst (v := 0) S.1 S.2.1 d_MD_unlike_57 (by decide) ?_
          exact J_58 _ (by simp [bI, ctB, q_23]) _ _ hO ls (lv_sub hl [0, 1, 2, 3, 4, 5] rfl)
        · skip
          have q_23 : (thB σ u pl x) = true := b_1 c_23
          refine lv_iload_n S.1 S.2.1 d_MD_unlike_26 rfl (lv_at hl 5 rfl) ?_
          refine lv_iconst (v := 1) S.1 S.2.1 d_MD_unlike_27 (by decide) ?_
          refine lv_icmp_ne (tgt := 53) S.1 S.2.1 d_MD_unlike_28 (by decide) (fun c_28 => ?_) (fun c_28 => ?_)
          · skip
            refine lv_iconst (v := 1) S.1 S.2.1 d_MD_unlike_53 (by decide) ?_
            refine lv_goto (tgt := 58) S.1 S.2.1 d_MD_unlike_54 (by decide) ?_
            exact J_58 _ (by simp [bI, ctB, q_23, c_28]) _ _ hO ls (lv_sub hl [0, 1, 2, 3, 4, 5] rfl)
          · skip
            refine lv_aload_n S.1 S.2.1 d_MD_unlike_31 rfl (lv_at hl 2 rfl) ?_
            refine g_get S hO fl_MD_13 (by decide) (sh_140 G ad _ _) (v := .ref (ad 142)) rfl d_MD_unlike_32 ?_
            refine lv_bipush (v := 10) S.1 S.2.1 d_MD_unlike_35 (by decide) ?_
            refine lv_iload S.1 S.2.1 d_MD_unlike_37 (lv_at hl 0 rfl) ?_
            refine lv_imul S.1 S.2.1 d_MD_unlike_39 ?_
            refine W.eq (g2 := F0 m 40 ls [.int (nI (10 * x)), .ref (ad 142)]) (by rw [show (10 : Int32) * (nI x) = nI (10 * x) from pk_mul 10 x]) ?_
            refine g_ial S hO (by decide) (sh_142 G ad _ _) (vp_in_nI (show 10 * x < 400 by omega) (by decide)) d_MD_unlike_40 ?_
            refine W.eq (g2 := F0 m 41 ls [.int (σ 142 (10 * x))]) (by rw [nI_clamp (show 10 * x < 2 ^ 31 by omega)]) ?_
            refine lv_aload_n S.1 S.2.1 d_MD_unlike_41 rfl (lv_at hl 2 rfl) ?_
            refine g_get S hO fl_MD_13 (by decide) (sh_140 G ad _ _) (v := .ref (ad 142)) rfl d_MD_unlike_42 ?_
            refine lv_bipush (v := 10) S.1 S.2.1 d_MD_unlike_45 (by decide) ?_
            refine lv_iload_n S.1 S.2.1 d_MD_unlike_47 rfl (lv_at hl 3 rfl) ?_
            refine lv_imul S.1 S.2.1 d_MD_unlike_48 ?_
            refine W.eq (g2 := F0 m 49 ls [.int (nI (10 * u)), .ref (ad 142), .int (σ 142 (10 * x))]) (by rw [show (10 : Int32) * (nI u) = nI (10 * u) from pk_mul 10 u]) ?_
            refine g_ial S hO (by decide) (sh_142 G ad _ _) (vp_in_nI (show 10 * u < 400 by omega) (by decide)) d_MD_unlike_49 ?_
            refine W.eq (g2 := F0 m 50 ls [.int (σ 142 (10 * u)), .int (σ 142 (10 * x))]) (by rw [nI_clamp (show 10 * u < 2 ^ 31 by omega)]) ?_
            refine lv_icmp_ne (tgt := 57) S.1 S.2.1 d_MD_unlike_50 (by decide) (fun c_50 => ?_) (fun c_50 => ?_)
            · skip
              refine lv_iconst (v := 0) S.1 S.2.1 d_MD_unlike_57 (by decide) ?_
              exact J_58 _ (by simp [bI, ctB, q_23, c_28, c_50]) _ _ hO ls (lv_sub hl [0, 1, 2, 3, 4, 5] rfl)
            · skip
              refine lv_iconst (v := 1) S.1 S.2.1 d_MD_unlike_53 (by decide) ?_
              refine lv_goto (tgt := 58) S.1 S.2.1 d_MD_unlike_54 (by decide) ?_
              exact J_58 _ (by simp [bI, ctB, q_23, c_28, c_50]) _ _ hO ls (lv_sub hl [0, 1, 2, 3, 4, 5] rfl)
  exact K_6 (nu + 1) 0 (by omega) (by omega) _ _ hO ls (lv_sub hl [0, 1, 2, 3, 4, 5] rfl)
def szV (σ : Nat → Nat → Int32) (u i : Nat) (a : Int32) : Bool := if a = 1 then szO σ u i 6 else szO σ u i 0
set_option maxHeartbeats 4000000 in
set_option maxRecDepth 100000 in
theorem k_MD_isSized (l : Launch) (G : gP) (ad : Nat → Nat) (σ : Nat → Nat → Int32) (τ : Nat → Nat → Int64) (u : Nat) (hu : u < 40) (i : Nat) (hi : i < 12) (a : Int32) : gpu l y_MD_isSized c_MD_isSized 6 (some .boolean) { frames := 1, cells := 0, slots := 0, locals := 28 } G ad σ τ [.ref (ad 140), .int (nI u), .int (nI i), .int a] 0 0 (fun v => v = some (.int (bI (szV σ u i a)))) (fun _ => False) := by
  refine gs_of (fun _ h => h.elim) (by decide) (Nat.le_of_ble_eq_true rfl) ?_
  intro p e s m args below meth c ls S hk hr hx hl hO
  have hl : lv_has ls 6 [(0, .ref (ad 140)), (1, .int (nI u)), (2, .int (nI i)), (3, .int a)] := hl
  have J_25 : ∀ (z : Int32), z = (bI (szO σ u i 0)) → ∀ (H : Heap) (locs : List Loc), gO G (fun _ => False) 159 ad (enc G ad σ τ) s H locs → ∀ ls : Array Slot, lv_has ls 6 [(0, .ref (ad 140)), (1, .int (nI u)), (2, .int (nI i)), (3, .int a)] → W p l e { frames := 1, cells := 0, slots := 0, locals := 28 } s m args below meth c H locs 0 0 (gM below (fun _ => False) 0 0 (fun v _ => (fun v => v = some (.int (bI (szV σ u i a)))) v) (fun x _ => (fun _ => False) x) args s) (F0 m 25 ls (.int z :: [])) := by
    intro z ez H locs hO ls hl
    subst ez
    refine lv_istore (lv' := [(4, .int (bI (szO σ u i 0))), (0, .ref (ad 140)), (1, .int (nI u)), (2, .int (nI i)), (3, .int a)]) S.1 S.2.1 d_MD_isSized_25 hl (by decide) rfl (fun ls hl => ?_)
    refine lv_iconst (v := 0) S.1 S.2.1 d_MD_isSized_27 (by decide) ?_
    refine lv_istore (lv' := [(5, .int 0), (4, .int (bI (szO σ u i 0))), (0, .ref (ad 140)), (1, .int (nI u)), (2, .int (nI i)), (3, .int a)]) S.1 S.2.1 d_MD_isSized_28 hl (by decide) rfl (fun ls hl => ?_)
    have K_30 : ∀ (n9 : Nat) (j : Nat), 6 - j < n9 → (j ≤ 6) → (j = 0 ∨ a = 1) → ∀ (H : Heap) (locs : List Loc), gO G (fun _ => False) 159 ad (enc G ad σ τ) s H locs → ∀ ls : Array Slot, lv_has ls 6 [(5, .int (nI j)), (4, .int (bI (szO σ u i j))), (0, .ref (ad 140)), (1, .int (nI u)), (2, .int (nI i)), (3, .int a)] → W p l e { frames := 1, cells := 0, slots := 0, locals := 28 } s m args below meth c H locs 0 0 (gM below (fun _ => False) 0 0 (fun v _ => (fun v => v = some (.int (bI (szV σ u i a)))) v) (fun x _ => (fun _ => False) x) args s) (F0 m 30 ls []) := by
      intro n9
      induction n9 with
      | zero =>
        intro j hn9 hj hja H locs hO ls hl
        exact absurd hn9 (Nat.not_lt_zero _)
      | succ n9 ih_30 =>
        intro j hn9 hj hja H locs hO ls hl
        refine lv_iload S.1 S.2.1 d_MD_isSized_30 (lv_at hl 0 rfl) ?_
        refine lv_bipush (v := 6) S.1 S.2.1 d_MD_isSized_32 (by decide) ?_
        refine lv_icmp_ge (tgt := 71) S.1 S.2.1 d_MD_isSized_34 (by decide) (fun c_34 => ?_) (fun c_34 => ?_)
        · skip
          have hw : j = 6 := by have h9 := ge_nI (x := 6) (n := 6) rfl rfl (by omega) (by omega) c_34; omega
          refine lv_iload S.1 S.2.1 d_MD_isSized_71 (lv_at hl 1 rfl) ?_
          exact pu_z S hk hr hO (by first | exact Or.inl rfl | exact Or.inr rfl | exact b_01) (by rw [szV, if_pos (by rcases hja with h9 | h9 <;> first | omega | exact h9), hw]) (Nat.le_of_ble_eq_true rfl) (Nat.le_of_ble_eq_true rfl) d_MD_isSized_73
        · skip
          have hw : j < 6 := ngt_nI (x := 6) (n := 6) rfl rfl (by omega) (by omega) c_34
          refine lv_iload_n S.1 S.2.1 d_MD_isSized_37 rfl (lv_at hl 5 rfl) ?_
          refine lv_iconst (v := 1) S.1 S.2.1 d_MD_isSized_38 (by decide) ?_
          refine lv_icmp_ne (tgt := 71) S.1 S.2.1 d_MD_isSized_39 (by decide) (fun c_39 => ?_) (fun c_39 => ?_)
          · skip
            refine lv_iload S.1 S.2.1 d_MD_isSized_71 (lv_at hl 1 rfl) ?_
            exact pu_z S hk hr hO (by first | exact Or.inl rfl | exact Or.inr rfl | exact b_01) (by rw [szV, if_neg c_39]; rcases hja with h9 | h9 <;> first | rw [h9] | exact absurd h9 c_39) (Nat.le_of_ble_eq_true rfl) (Nat.le_of_ble_eq_true rfl) d_MD_isSized_73
          · skip
            have J_63 : ∀ (z : Int32), z = (bI (szO σ u i (j + 1))) → ∀ (H : Heap) (locs : List Loc), gO G (fun _ => False) 159 ad (enc G ad σ τ) s H locs → ∀ ls : Array Slot, lv_has ls 6 [(5, .int (nI j)), (4, .int (bI (szO σ u i j))), (0, .ref (ad 140)), (1, .int (nI u)), (2, .int (nI i)), (3, .int a)] → W p l e { frames := 1, cells := 0, slots := 0, locals := 28 } s m args below meth c H locs 0 0 (gM below (fun _ => False) 0 0 (fun v _ => (fun v => v = some (.int (bI (szV σ u i a)))) v) (fun x _ => (fun _ => False) x) args s) (F0 m 63 ls (.int z :: [])) := by
              intro z ez H locs hO ls hl
              subst ez
              refine lv_istore (lv' := [(4, .int (bI (szO σ u i (j + 1)))), (5, .int (nI j)), (0, .ref (ad 140)), (1, .int (nI u)), (2, .int (nI i)), (3, .int a)]) S.1 S.2.1 d_MD_isSized_63 hl (by decide) rfl (fun ls hl => ?_)
              refine lv_iinc (v := nI (j + 1)) (lv' := [(5, .int (nI (j + 1))), (4, .int (bI (szO σ u i (j + 1)))), (0, .ref (ad 140)), (1, .int (nI u)), (2, .int (nI i)), (3, .int a)]) S.1 S.2.1 d_MD_isSized_65 hl (k := 1) rfl (nI_1 _) (by decide) rfl (fun ls hl => ?_)
              refine lv_goto (tgt := 30) S.1 S.2.1 d_MD_isSized_68 (by decide) ?_
              exact ih_30 (j + 1) (by omega) (by omega) (Or.inr c_39) _ _ hO ls (lv_sub hl [0, 1, 2, 3, 4, 5] rfl)
            refine lv_iload S.1 S.2.1 d_MD_isSized_42 (lv_at hl 1 rfl) ?_
            refine lv_if_ne (tgt := 58) S.1 S.2.1 d_MD_isSized_44 (by decide) (fun c_44 => ?_) (fun c_44 => ?_)
            · skip
              have q_44 : (szO σ u i j) = true := b_1 c_44
              refine lv_iconst (v := 1) S.1 S.2.1 d_MD_isSized_58 (by decide) ?_
              refine lv_goto (tgt := 63) S.1 S.2.1 d_MD_isSized_59 (by decide) ?_
              exact J_63 _ (by simp [bI, szO_s, q_44]) _ _ hO ls (lv_sub hl [0, 1, 2, 3, 4, 5] rfl)
            · skip
              have q_44 : (szO σ u i j) = false := b_0 c_44
              refine lv_aload_n S.1 S.2.1 d_MD_isSized_47 rfl (lv_at hl 2 rfl) ?_
              refine lv_iload_n S.1 S.2.1 d_MD_isSized_48 rfl (lv_at hl 3 rfl) ?_
              refine lv_iload_n S.1 S.2.1 d_MD_isSized_49 rfl (lv_at hl 4 rfl) ?_
              refine lv_iload S.1 S.2.1 d_MD_isSized_50 (lv_at hl 0 rfl) ?_
              refine g_VP (As := [.int (nI u), .int (nI i), .int (nI j)]) (rest := []) S hO (k_MD_fits l G ad σ τ u (by omega) i (by omega) (nI j)) cw_MD_162 (by decide) (sh_140 G ad _ _) rfl rfl hl.1 (Nat.le_of_ble_eq_true rfl) ⟨(Nat.le_of_ble_eq_true rfl), (Nat.le_of_ble_eq_true rfl)⟩ ⟨(Nat.le_of_ble_eq_true rfl), (Nat.le_of_ble_eq_true rfl)⟩ d_MD_isSized_52 (fun q x ce H h9 => h9.elim) (fun v H v_2 hO => ?_)
              subst v_2
              refine W.eq (g2 := F0 m 55 ls [.int (bI (ftB σ u i (nI j)))]) rfl ?_
              refine lv_if_eq (tgt := 62) S.1 S.2.1 d_MD_isSized_55 (by decide) (fun c_55 => ?_) (fun c_55 => ?_)
              · skip
                have q_55 : (ftB σ u i (nI j)) = false := b_0 c_55
                refine lv_iconst (v := 0) S.1 S.2.1 d_MD_isSized_62 (by decide) ?_
                exact J_63 _ (by simp [bI, szO_s, q_44, q_55]) _ _ hO ls (lv_sub hl [0, 1, 2, 3, 4, 5] rfl)
              · skip
                have q_55 : (ftB σ u i (nI j)) = true := b_1 c_55
                refine lv_iconst (v := 1) S.1 S.2.1 d_MD_isSized_58 (by decide) ?_
                refine lv_goto (tgt := 63) S.1 S.2.1 d_MD_isSized_59 (by decide) ?_
                exact J_63 _ (by simp [bI, szO_s, q_44, q_55]) _ _ hO ls (lv_sub hl [0, 1, 2, 3, 4, 5] rfl)
    exact K_30 7 0 (by omega) (by omega) (Or.inl rfl) _ _ hO ls (lv_sub hl [0, 1, 2, 3, 4, 5] rfl)
  refine lv_aload_n S.1 S.2.1 d_MD_isSized_0 rfl (lv_at hl 0 rfl) ?_
  refine lv_iload_n S.1 S.2.1 d_MD_isSized_1 rfl (lv_at hl 1 rfl) ?_
  refine lv_iload_n S.1 S.2.1 d_MD_isSized_2 rfl (lv_at hl 2 rfl) ?_
  refine lv_iconst (v := 0) S.1 S.2.1 d_MD_isSized_3 (by decide) ?_
  refine g_VP (As := [.int (nI u), .int (nI i), .int 0]) (rest := []) S hO (k_MD_fits l G ad σ τ u (by omega) i (by omega) 0) cw_MD_162 (by decide) (sh_140 G ad _ _) rfl rfl hl.1 (Nat.le_of_ble_eq_true rfl) ⟨(Nat.le_of_ble_eq_true rfl), (Nat.le_of_ble_eq_true rfl)⟩ ⟨(Nat.le_of_ble_eq_true rfl), (Nat.le_of_ble_eq_true rfl)⟩ d_MD_isSized_4 (fun q x ce H h9 => h9.elim) (fun v H v_3 hO => ?_)
  subst v_3
  refine W.eq (g2 := F0 m 7 ls [.int (bI (ftB σ u i 0))]) rfl ?_
  refine lv_if_ne (tgt := 20) S.1 S.2.1 d_MD_isSized_7 (by decide) (fun c_7 => ?_) (fun c_7 => ?_)
  · skip
    have q_7 : (ftB σ u i 0) = true := b_1 c_7
    refine lv_iconst (v := 1) S.1 S.2.1 d_MD_isSized_20 (by decide) ?_
    refine lv_goto (tgt := 25) S.1 S.2.1 d_MD_isSized_21 (by decide) ?_
    exact J_25 _ (by simp [bI, szO, q_7]) _ _ hO ls (lv_sub hl [0, 1, 2, 3] rfl)
  · skip
    have q_7 : (ftB σ u i 0) = false := b_0 c_7
    refine lv_aload_n S.1 S.2.1 d_MD_isSized_10 rfl (lv_at hl 0 rfl) ?_
    refine lv_iload_n S.1 S.2.1 d_MD_isSized_11 rfl (lv_at hl 1 rfl) ?_
    refine lv_iload_n S.1 S.2.1 d_MD_isSized_12 rfl (lv_at hl 2 rfl) ?_
    refine lv_iconst (v := 2) S.1 S.2.1 d_MD_isSized_13 (by decide) ?_
    refine g_VP (As := [.int (nI u), .int (nI i), .int 2]) (rest := []) S hO (k_MD_fits l G ad σ τ u (by omega) i (by omega) 2) cw_MD_162 (by decide) (sh_140 G ad _ _) rfl rfl hl.1 (Nat.le_of_ble_eq_true rfl) ⟨(Nat.le_of_ble_eq_true rfl), (Nat.le_of_ble_eq_true rfl)⟩ ⟨(Nat.le_of_ble_eq_true rfl), (Nat.le_of_ble_eq_true rfl)⟩ d_MD_isSized_14 (fun q x ce H h9 => h9.elim) (fun v H v_4 hO => ?_)
    subst v_4
    refine W.eq (g2 := F0 m 17 ls [.int (bI (ftB σ u i 2))]) rfl ?_
    refine lv_if_eq (tgt := 24) S.1 S.2.1 d_MD_isSized_17 (by decide) (fun c_17 => ?_) (fun c_17 => ?_)
    · skip
      have q_17 : (ftB σ u i 2) = false := b_0 c_17
      refine lv_iconst (v := 0) S.1 S.2.1 d_MD_isSized_24 (by decide) ?_
      exact J_25 _ (by simp [bI, szO, q_7, q_17]) _ _ hO ls (lv_sub hl [0, 1, 2, 3] rfl)
    · skip
      have q_17 : (ftB σ u i 2) = true := b_1 c_17
      refine lv_iconst (v := 1) S.1 S.2.1 d_MD_isSized_20 (by decide) ?_
      refine lv_goto (tgt := 25) S.1 S.2.1 d_MD_isSized_21 (by decide) ?_
      exact J_25 _ (by simp [bI, szO, q_7, q_17]) _ _ hO ls (lv_sub hl [0, 1, 2, 3] rfl)
def owB (σ : Nat → Nat → Int32) (q u : Nat) (p : Int32) (nu : Nat) : Bool := decide (σ 153 q = 1) || decide (σ 153 q = 3) || (decide (σ 153 q = 2) && !decide (σ 142 (10 * u + 6) ≤ otI σ u p nu))
def owF (σ : Nat → Nat → Int32) (q : Nat) : Nat → Nat → Int32 := up2 σ 140 17 (σ 140 17 + bI (decide (σ 153 q = 3)))
section FRM
variable {s σ : Nat → Nat → Int32} {u : Nat} {p : Int32}
theorem thB_e (h3 : s 143 = σ 143) (n : Nat) : thB s u p n = thB σ u p n := by unfold thB; rw [h3]
theorem otB_e (h3 : s 143 = σ 143) (n : Nat) : otB s u p n = otB σ u p n := by unfold otB; rw [h3]
theorem otI_e (h2 : s 142 = σ 142) (h3 : s 143 = σ 143) (n : Nat) : otI s u p n = otI σ u p n := by
  induction n with
  | zero => rfl
  | succ n ih =>
    show otI s u p n + (if otB s u p n = true then s 142 (10 * n + 6) else 0) = otI σ u p n + (if otB σ u p n = true then σ 142 (10 * n + 6) else 0)
    rw [ih, otB_e h3, h2]
theorem mnI_e (h3 : s 143 = σ 143) (n : Nat) : mnI s u p n = mnI σ u p n := by
  induction n with
  | zero => rfl
  | succ n ih =>
    show mnI s u p n + bI (thB s u p n) = mnI σ u p n + bI (thB σ u p n)
    rw [ih, thB_e h3]
theorem spL_e (h2 : s 142 = σ 142) (h3 : s 143 = σ 143) (n : Nat) : spL s u p n = spL σ u p n := by
  induction n with
  | zero => show s 142 _ = σ 142 _; rw [h2]
  | succ n ih =>
    show (if thB s u p n = true ∧ s 142 (10 * n + 9) < spL s u p n then s 142 (10 * n + 9) else spL s u p n) = (if thB σ u p n = true ∧ σ 142 (10 * n + 9) < spL σ u p n then σ 142 (10 * n + 9) else spL σ u p n)
    rw [ih, thB_e h3, h2]
theorem spM_e (h2 : s 142 = σ 142) (h3 : s 143 = σ 143) (n : Nat) : spM s u p n = spM σ u p n := by
  induction n with
  | zero => show s 142 _ = σ 142 _; rw [h2]
  | succ n ih =>
    show (if thB s u p n = true ∧ spM s u p n < s 142 (10 * n + 9) then s 142 (10 * n + 9) else spM s u p n) = (if thB σ u p n = true ∧ spM σ u p n < σ 142 (10 * n + 9) then σ 142 (10 * n + 9) else spM σ u p n)
    rw [ih, thB_e h3, h2]
theorem ctB_e {w : Nat} (h2 : s 142 = σ 142) (h3 : s 143 = σ 143) (n : Nat) : ctB s u p w n = ctB σ u p w n := by unfold ctB; rw [thB_e h3, h2]
theorem cnB_e {w x : Nat} (h2 : s 142 = σ 142) (h3 : s 143 = σ 143) (n : Nat) : cnB s u p w x n = cnB σ u p w x n := by
  induction n with
  | zero => exact ctB_e h2 h3 x
  | succ n ih => rw [cnB_s, cnB_s, ih, ctB_e h2 h3, h2]
theorem ukI_e {w : Nat} (h2 : s 142 = σ 142) (h3 : s 143 = σ 143) (n : Nat) : ukI s u p w n = ukI σ u p w n := by
  induction n with
  | zero => rfl
  | succ n ih =>
    show ukI s u p w n + bI (cnB s u p w n n) = ukI σ u p w n + bI (cnB σ u p w n n)
    rw [ih, cnB_e h2 h3]
theorem mtA_e {h : Int32} (h2 : s 142 = σ 142) (h3 : s 143 = σ 143) (n : Nat) : mtA s u p h n = mtA σ u p h n := by
  induction n with
  | zero => rfl
  | succ n ih =>
    rw [mtA_s, mtA_s, ih]
    unfold mtB
    rw [otB_e h3, h2]
theorem fwX_e {a : Int32} (h2 : s 142 = σ 142) : fwX s u a = fwX σ u a := by unfold fwX; rw [h2]
theorem fwY_e {a : Int32} (h2 : s 142 = σ 142) : fwY s u a = fwY σ u a := by unfold fwY; rw [h2]
theorem ftB_e {i : Nat} {a : Int32} (h1 : s 141 = σ 141) (h2 : s 142 = σ 142) : ftB s u i a = ftB σ u i a := by unfold ftB; rw [fwX_e h2, fwY_e h2, h1, h2]
theorem szO_e {i : Nat} (h1 : s 141 = σ 141) (h2 : s 142 = σ 142) (n : Nat) : szO s u i n = szO σ u i n := by
  induction n with
  | zero =>
    show (ftB s u i 0 || ftB s u i 2) = (ftB σ u i 0 || ftB σ u i 2)
    rw [ftB_e h1 h2, ftB_e h1 h2]
  | succ n ih => rw [szO_s, szO_s, ih, ftB_e h1 h2]
theorem szV_e {i : Nat} {a : Int32} (h1 : s 141 = σ 141) (h2 : s 142 = σ 142) : szV s u i a = szV σ u i a := by unfold szV; rw [szO_e h1 h2, szO_e h1 h2]
theorem owB_e {q nu : Nat} (h2 : s 142 = σ 142) (h3 : s 143 = σ 143) (h13 : s 153 = σ 153) : owB s q u p nu = owB σ q u p nu := by unfold owB; rw [otI_e h2 h3, h2, h13]
theorem ixB_e {r d : Int32} (h2 : s 142 = σ 142) (h9 : s 149 = σ 149) (h10 : s 150 = σ 150) (h11 : s 151 = σ 151) (h12 : s 152 = σ 152) (n : Nat) : ixB s r u p d n = ixB σ r u p d n := by unfold ixB xpB xoB; rw [h2, h9, h10, h11, h12]
theorem ixA_0 {r d : Int32} : ixA s r u p d 0 = false := rfl
theorem ixA_e {r d : Int32} (h2 : s 142 = σ 142) (h9 : s 149 = σ 149) (h10 : s 150 = σ 150) (h11 : s 151 = σ 151) (h12 : s 152 = σ 152) (n : Nat) : ixA s r u p d n = ixA σ r u p d n := by
  induction n with
  | zero => rw [ixA_0, ixA_0]
  | succ n ih => rw [ixA_s, ixA_s, ih, ixB_e h2 h9 h10 h11 h12]
end FRM
set_option maxHeartbeats 4000000 in
set_option maxRecDepth 100000 in
theorem k_MD_ownRefuses (l : Launch) (G : gP) (ad : Nat → Nat) (σ : Nat → Nat → Int32) (τ : Nat → Nat → Int64) (q : Nat) (hq : q < 4) (u : Nat) (hu : u < 40) (pl : Int32) (nu : Nat) (hmu : σ 140 2 = nI nu) (hn4 : nu ≤ 40) : gim l y_MD_ownRefuses c_MD_ownRefuses 4 (some .boolean) { frames := 1, cells := 0, slots := 0, locals := 24 } G ad σ τ [.ref (ad 140), .int (nI q), .int (nI u), .int pl] 0 0 (fun v σ1 τ1 => v = some (.int (bI (owB σ q u pl nu))) ∧ σ1 = owF σ q ∧ τ1 = τ) (fun _ => False) := by
  refine gs_of (fun _ h => h) (by decide) (Nat.le_of_ble_eq_true rfl) ?_
  intro p e s m args below meth c ls S hk hr hx hl hO
  have hl : lv_has ls 4 [(0, .ref (ad 140)), (1, .int (nI q)), (2, .int (nI u)), (3, .int pl)] := hl
  refine lv_aload_n S.1 S.2.1 d_MD_ownRefuses_0 rfl (lv_at hl 0 rfl) ?_
  refine lv_dup S.1 S.2.1 d_MD_ownRefuses_1 rfl ?_
  refine g_get S hO fl_MD_165 (by decide) (sh_140 G ad _ _) (v := .int (σ 140 17)) rfl d_MD_ownRefuses_2 ?_
  have J_20 : ∀ (z : Int32), z = (bI (decide (σ 153 q = 3))) → ∀ (H : Heap) (locs : List Loc), gO G (gA G) 159 ad (enc G ad σ τ) s H locs → ∀ ls : Array Slot, lv_has ls 4 [(0, .ref (ad 140)), (1, .int (nI q)), (2, .int (nI u)), (3, .int pl)] → W p l e { frames := 1, cells := 0, slots := 0, locals := 24 } s m args below meth c H locs 0 0 (gM below (gA G) 0 0 (fun v t => ∃ E1, (∃ σ1 τ1, E1 = enc G ad σ1 τ1 ∧ (fun v σ1 τ1 => v = some (.int (bI (owB σ q u pl nu))) ∧ σ1 = owF σ q ∧ τ1 = τ) v σ1 τ1) ∧ va_P G.1 gcl (gw 159 ad E1) t.heap) (fun x t => (fun _ => False) x ∧ va_P G.1 gcl (gw 159 ad (enc G ad σ τ)) t.heap) args s) (F0 m 20 ls (.int z :: [.int (σ 140 17), .ref (ad 140)])) := by
    intro z ez H locs hO ls hl
    subst ez
    refine lv_iadd S.1 S.2.1 d_MD_ownRefuses_20 ?_
    obtain ⟨sa, hsa⟩ : ∃ z : Nat → Nat → Int32, z = up2 σ 140 17 ((σ 140 17) + (bI (decide (σ 153 q = 3)))) := ⟨_, rfl⟩
    refine g_put S hO (fun _ h => h) fp_MD_165 (by decide) (sh_140 G ad _ _) (v := .int ((σ 140 17) + (bI (decide (σ 153 q = 3))))) rfl rfl (Nat.le_of_ble_eq_true rfl) (E2 := enc G ad sa τ) (by rw [hsa]; exact enc_i (sh_140 G ad _ _)) d_MD_ownRefuses_21 (fun H locs hO => ?_)
    have J_80 : ∀ (z : Int32), z = (bI (owB sa q u pl nu)) → ∀ (H : Heap) (locs : List Loc), gO G (gA G) 159 ad (enc G ad sa τ) s H locs → ∀ ls : Array Slot, lv_has ls 4 [(0, .ref (ad 140)), (1, .int (nI q)), (2, .int (nI u)), (3, .int pl)] → W p l e { frames := 1, cells := 0, slots := 0, locals := 24 } s m args below meth c H locs 0 0 (gM below (gA G) 0 0 (fun v t => ∃ E1, (∃ σ1 τ1, E1 = enc G ad σ1 τ1 ∧ (fun v σ1 τ1 => v = some (.int (bI (owB σ q u pl nu))) ∧ σ1 = owF σ q ∧ τ1 = τ) v σ1 τ1) ∧ va_P G.1 gcl (gw 159 ad E1) t.heap) (fun x t => (fun _ => False) x ∧ va_P G.1 gcl (gw 159 ad (enc G ad σ τ)) t.heap) args s) (F0 m 80 ls (.int z :: [])) := by
      intro z ez H locs hO ls hl
      subst ez
      subst hsa
      exact im_z S hk hr hO (by first | exact Or.inl rfl | exact Or.inr rfl | exact b_01) ⟨by rw [owB_e (up2_c (by decide)) (up2_c (by decide)) (up2_c (by decide))], rfl, rfl⟩ (Nat.le_of_ble_eq_true rfl) (Nat.le_of_ble_eq_true rfl) d_MD_ownRefuses_80
    refine lv_aload_n S.1 S.2.1 d_MD_ownRefuses_24 rfl (lv_at hl 0 rfl) ?_
    refine g_get S hO fl_MD_47 (by decide) (sh_140 G ad _ _) (v := .ref (ad 153)) rfl d_MD_ownRefuses_25 ?_
    refine lv_iload_n S.1 S.2.1 d_MD_ownRefuses_28 rfl (lv_at hl 1 rfl) ?_
    refine g_ial S hO (by decide) (sh_153 G ad _ _) (vp_in_nI (show q < 4 by omega) (by decide)) d_MD_ownRefuses_29 ?_
    refine W.eq (g2 := F0 m 30 ls [.int (sa 153 q)]) (by rw [nI_clamp (show q < 2 ^ 31 by omega)]) ?_
    refine lv_iconst (v := 1) S.1 S.2.1 d_MD_ownRefuses_30 (by decide) ?_
    refine lv_icmp_eq (tgt := 75) S.1 S.2.1 d_MD_ownRefuses_31 (by decide) (fun c_31 => ?_) (fun c_31 => ?_)
    · skip
      refine lv_iconst (v := 1) S.1 S.2.1 d_MD_ownRefuses_75 (by decide) ?_
      refine lv_goto (tgt := 80) S.1 S.2.1 d_MD_ownRefuses_76 (by decide) ?_
      exact J_80 _ (by simp [bI, owB, c_31]) _ _ hO ls (lv_sub hl [0, 1, 2, 3] rfl)
    · skip
      refine lv_aload_n S.1 S.2.1 d_MD_ownRefuses_34 rfl (lv_at hl 0 rfl) ?_
      refine g_get S hO fl_MD_47 (by decide) (sh_140 G ad _ _) (v := .ref (ad 153)) rfl d_MD_ownRefuses_35 ?_
      refine lv_iload_n S.1 S.2.1 d_MD_ownRefuses_38 rfl (lv_at hl 1 rfl) ?_
      refine g_ial S hO (by decide) (sh_153 G ad _ _) (vp_in_nI (show q < 4 by omega) (by decide)) d_MD_ownRefuses_39 ?_
      refine W.eq (g2 := F0 m 40 ls [.int (sa 153 q)]) (by rw [nI_clamp (show q < 2 ^ 31 by omega)]) ?_
      refine lv_iconst (v := 3) S.1 S.2.1 d_MD_ownRefuses_40 (by decide) ?_
      refine lv_icmp_eq (tgt := 75) S.1 S.2.1 d_MD_ownRefuses_41 (by decide) (fun c_41 => ?_) (fun c_41 => ?_)
      · skip
        refine lv_iconst (v := 1) S.1 S.2.1 d_MD_ownRefuses_75 (by decide) ?_
        refine lv_goto (tgt := 80) S.1 S.2.1 d_MD_ownRefuses_76 (by decide) ?_
        exact J_80 _ (by simp [bI, owB, c_31, c_41]) _ _ hO ls (lv_sub hl [0, 1, 2, 3] rfl)
      · skip
        refine lv_aload_n S.1 S.2.1 d_MD_ownRefuses_44 rfl (lv_at hl 0 rfl) ?_
        refine g_get S hO fl_MD_47 (by decide) (sh_140 G ad _ _) (v := .ref (ad 153)) rfl d_MD_ownRefuses_45 ?_
        refine lv_iload_n S.1 S.2.1 d_MD_ownRefuses_48 rfl (lv_at hl 1 rfl) ?_
        refine g_ial S hO (by decide) (sh_153 G ad _ _) (vp_in_nI (show q < 4 by omega) (by decide)) d_MD_ownRefuses_49 ?_
        refine W.eq (g2 := F0 m 50 ls [.int (sa 153 q)]) (by rw [nI_clamp (show q < 2 ^ 31 by omega)]) ?_
        refine lv_iconst (v := 2) S.1 S.2.1 d_MD_ownRefuses_50 (by decide) ?_
        refine lv_icmp_ne (tgt := 79) S.1 S.2.1 d_MD_ownRefuses_51 (by decide) (fun c_51 => ?_) (fun c_51 => ?_)
        · skip
          refine lv_iconst (v := 0) S.1 S.2.1 d_MD_ownRefuses_79 (by decide) ?_
          exact J_80 _ (by simp [bI, owB, c_31, c_41, c_51]) _ _ hO ls (lv_sub hl [0, 1, 2, 3] rfl)
        · skip
          refine lv_aload_n S.1 S.2.1 d_MD_ownRefuses_54 rfl (lv_at hl 0 rfl) ?_
          refine g_get S hO fl_MD_13 (by decide) (sh_140 G ad _ _) (v := .ref (ad 142)) rfl d_MD_ownRefuses_55 ?_
          refine lv_bipush (v := 10) S.1 S.2.1 d_MD_ownRefuses_58 (by decide) ?_
          refine lv_iload_n S.1 S.2.1 d_MD_ownRefuses_60 rfl (lv_at hl 2 rfl) ?_
          refine lv_imul S.1 S.2.1 d_MD_ownRefuses_61 ?_
          refine W.eq (g2 := F0 m 62 ls [.int (nI (10 * u)), .ref (ad 142)]) (by rw [show (10 : Int32) * (nI u) = nI (10 * u) from pk_mul 10 u]) ?_
          refine lv_bipush (v := 6) S.1 S.2.1 d_MD_ownRefuses_62 (by decide) ?_
          refine lv_iadd S.1 S.2.1 d_MD_ownRefuses_64 ?_
          refine W.eq (g2 := F0 m 65 ls [.int (nI (10 * u + 6)), .ref (ad 142)]) (by rw [show (nI (10 * u)) + (6 : Int32) = nI (10 * u + 6) from nI_add (10 * u) 6]) ?_
          refine g_ial S hO (by decide) (sh_142 G ad _ _) (vp_in_nI (show 10 * u + 6 < 400 by omega) (by decide)) d_MD_ownRefuses_65 ?_
          refine W.eq (g2 := F0 m 66 ls [.int (sa 142 (10 * u + 6))]) (by rw [nI_clamp (show 10 * u + 6 < 2 ^ 31 by omega)]) ?_
          refine lv_aload_n S.1 S.2.1 d_MD_ownRefuses_66 rfl (lv_at hl 0 rfl) ?_
          refine lv_iload_n S.1 S.2.1 d_MD_ownRefuses_67 rfl (lv_at hl 2 rfl) ?_
          refine lv_iload_n S.1 S.2.1 d_MD_ownRefuses_68 rfl (lv_at hl 3 rfl) ?_
          refine g_VP (As := [.int (nI u), .int pl]) (rest := [.int (sa 142 (10 * u + 6))]) S hO (k_MD_others l G ad sa τ u (by omega) pl nu (by simp [hsa, up2_at, hmu]) hn4) cw_MD_168 (by decide) (sh_140 G ad _ _) rfl rfl hl.1 (Nat.le_of_ble_eq_true rfl) ⟨(Nat.le_of_ble_eq_true rfl), (Nat.le_of_ble_eq_true rfl)⟩ ⟨(Nat.le_of_ble_eq_true rfl), (Nat.le_of_ble_eq_true rfl)⟩ d_MD_ownRefuses_69 (fun q x ce H h9 => h9.elim) (fun v H v_1 hO => ?_)
          subst v_1
          refine W.eq (g2 := F0 m 72 ls [.int (otI sa u pl nu), .int (sa 142 (10 * u + 6))]) rfl ?_
          refine lv_icmp_le (tgt := 79) S.1 S.2.1 d_MD_ownRefuses_72 (by decide) (fun c_72 => ?_) (fun c_72 => ?_)
          · skip
            refine lv_iconst (v := 0) S.1 S.2.1 d_MD_ownRefuses_79 (by decide) ?_
            exact J_80 _ (by simp [bI, owB, c_31, c_41, c_51, c_72, Int32.not_lt.mpr c_72]) _ _ hO ls (lv_sub hl [0, 1, 2, 3] rfl)
          · skip
            refine lv_iconst (v := 1) S.1 S.2.1 d_MD_ownRefuses_75 (by decide) ?_
            refine lv_goto (tgt := 80) S.1 S.2.1 d_MD_ownRefuses_76 (by decide) ?_
            exact J_80 _ (by simp [bI, owB, c_31, c_41, c_51, c_72, Int32.not_le.mp c_72]) _ _ hO ls (lv_sub hl [0, 1, 2, 3] rfl)
  refine lv_aload_n S.1 S.2.1 d_MD_ownRefuses_5 rfl (lv_at hl 0 rfl) ?_
  refine g_get S hO fl_MD_47 (by decide) (sh_140 G ad _ _) (v := .ref (ad 153)) rfl d_MD_ownRefuses_6 ?_
  refine lv_iload_n S.1 S.2.1 d_MD_ownRefuses_9 rfl (lv_at hl 1 rfl) ?_
  refine g_ial S hO (by decide) (sh_153 G ad _ _) (vp_in_nI (show q < 4 by omega) (by decide)) d_MD_ownRefuses_10 ?_
  refine W.eq (g2 := F0 m 11 ls [.int (σ 153 q), .int (σ 140 17), .ref (ad 140)]) (by rw [nI_clamp (show q < 2 ^ 31 by omega)]) ?_
  refine lv_iconst (v := 3) S.1 S.2.1 d_MD_ownRefuses_11 (by decide) ?_
  refine lv_icmp_ne (tgt := 19) S.1 S.2.1 d_MD_ownRefuses_12 (by decide) (fun c_12 => ?_) (fun c_12 => ?_)
  · skip
    refine lv_iconst (v := 0) S.1 S.2.1 d_MD_ownRefuses_19 (by decide) ?_
    exact J_20 _ (by simp [bI, c_12]) _ _ hO ls (lv_sub hl [0, 1, 2, 3] rfl)
  · skip
    refine lv_iconst (v := 1) S.1 S.2.1 d_MD_ownRefuses_15 (by decide) ?_
    refine lv_goto (tgt := 20) S.1 S.2.1 d_MD_ownRefuses_16 (by decide) ?_
    exact J_20 _ (by simp [bI, c_12]) _ _ hO ls (lv_sub hl [0, 1, 2, 3] rfl)
theorem sw09 {x : Int32} (h0 : ¬ x = 0) (h1 : ¬ x = 1) (h2 : ¬ x = 2) (h3 : ¬ x = 3) (h4 : ¬ x = 4) (h5 : ¬ x = 5) (h6 : ¬ x = 6) (h7 : ¬ x = 7) (h8 : ¬ x = 8) (h9 : ¬ x = 9) : x.toInt < 0 ∨ 9 < x.toInt := by
  by_cases hc : x.toInt < 0 ∨ 9 < x.toInt
  · exact hc
  · exfalso
    have e : ∀ k : Int32, x.toInt = k.toInt → x = k := fun k h => Int32.toInt_inj.mp h
    have hx : x.toInt = 0 ∨ x.toInt = 1 ∨ x.toInt = 2 ∨ x.toInt = 3 ∨ x.toInt = 4 ∨ x.toInt = 5 ∨ x.toInt = 6 ∨ x.toInt = 7 ∨ x.toInt = 8 ∨ x.toInt = 9 := by omega
    rcases hx with h | h | h | h | h | h | h | h | h | h
    · exact h0 (e 0 h)
    · exact h1 (e 1 h)
    · exact h2 (e 2 h)
    · exact h3 (e 3 h)
    · exact h4 (e 4 h)
    · exact h5 (e 5 h)
    · exact h6 (e 6 h)
    · exact h7 (e 7 h)
    · exact h8 (e 8 h)
    · exact h9 (e 9 h)
def mrB (σ : Nat → Nat → Int32) (nu r u i : Nat) (d : Int32) : Bool := if σ 145 r = 0 then (!szV σ u i (σ 146 r)) else if σ 145 r = 1 then (!decide (σ 142 (10 * u + 6) + otI σ u (nI i) nu ≤ σ 141 (5 * i + 3) - σ 146 r)) else if σ 145 r = 2 then (!decide (ukI σ u (nI i) 0 nu ≤ σ 146 r)) else if σ 145 r = 3 then (!decide (ukI σ u (nI i) 1 nu ≤ σ 146 r)) else if σ 145 r = 4 then (!decide (ukI σ u (nI i) 2 nu ≤ σ 146 r)) else if σ 145 r = 5 then ((decide (σ 142 (10 * u + 7) = σ 146 r) && mtA σ u (nI i) (σ 147 r) nu) || (decide (σ 142 (10 * u + 7) = σ 147 r) && mtA σ u (nI i) (σ 146 r) nu)) else if σ 145 r = 6 then (decide (σ 142 (10 * u + 8) = σ 146 r) && !decide (σ 141 (5 * i + 4) = σ 147 r)) else if σ 145 r = 7 then (!decide (mnI σ u (nI i) nu ≤ σ 146 r)) else if σ 145 r = 8 then (!decide (spM σ u (nI i) nu - spL σ u (nI i) nu ≤ σ 146 r)) else if σ 145 r = 9 then (!decide (σ 146 r ≤ σ 142 (10 * u + 9) - d)) else owB σ (σ 146 r).toNatClampNeg u (nI i) nu
def isO (x : Int32) : Bool := !decide (x = 0) && !decide (x = 1) && !decide (x = 2) && !decide (x = 3) && !decide (x = 4) && !decide (x = 5) && !decide (x = 6) && !decide (x = 7) && !decide (x = 8) && !decide (x = 9)
def mrS (σ : Nat → Nat → Int32) (r : Nat) : Nat → Nat → Int32 := if isO (σ 145 r) = true then owF σ (σ 146 r).toNatClampNeg else σ
set_option maxHeartbeats 4000000 in
set_option maxRecDepth 100000 in
theorem k_MD_refuses (l : Launch) (G : gP) (ad : Nat → Nat) (σ : Nat → Nat → Int32) (τ : Nat → Nat → Int64) (r : Nat) (hr4 : r < 24) (u : Nat) (hu : u < 40) (i : Nat) (hi : i < 12) (d : Int32) (nu : Nat) (hmu : σ 140 2 = nI nu) (hn4 : nu ≤ 40) (hown : ¬ σ 145 r = 0 → ¬ σ 145 r = 1 → ¬ σ 145 r = 2 → ¬ σ 145 r = 3 → ¬ σ 145 r = 4 → ¬ σ 145 r = 5 → ¬ σ 145 r = 6 → ¬ σ 145 r = 7 → ¬ σ 145 r = 8 → ¬ σ 145 r = 9 → ∃ q : Nat, q < 4 ∧ σ 146 r = nI q) : gim l y_MD_refuses c_MD_refuses 8 (some .boolean) { frames := 2, cells := 0, slots := 0, locals := 53 } G ad σ τ [.ref (ad 140), .int (nI r), .int (nI u), .int (nI i), .int d] 0 0 (fun v σ1 τ1 => v = some (.int (bI (mrB σ nu r u i d))) ∧ σ1 = mrS σ r ∧ τ1 = τ) (fun _ => False) := by
  refine gs_of (fun _ h => h) (by decide) (Nat.le_of_ble_eq_true rfl) ?_
  intro p e s m args below meth c ls S hk hr hx hl hO
  have hl : lv_has ls 8 [(0, .ref (ad 140)), (1, .int (nI r)), (2, .int (nI u)), (3, .int (nI i)), (4, .int d)] := hl
  refine lv_aload_n S.1 S.2.1 d_MD_refuses_0 rfl (lv_at hl 0 rfl) ?_
  refine g_get S hO fl_MD_25 (by decide) (sh_140 G ad _ _) (v := .ref (ad 146)) rfl d_MD_refuses_1 ?_
  refine lv_iload_n S.1 S.2.1 d_MD_refuses_4 rfl (lv_at hl 1 rfl) ?_
  refine g_ial S hO (by decide) (sh_146 G ad _ _) (vp_in_nI (show r < 24 by omega) (by decide)) d_MD_refuses_5 ?_
  refine W.eq (g2 := F0 m 6 ls [.int (σ 146 r)]) (by rw [nI_clamp (show r < 2 ^ 31 by omega)]) ?_
  refine lv_istore (lv' := [(5, .int (σ 146 r)), (0, .ref (ad 140)), (1, .int (nI r)), (2, .int (nI u)), (3, .int (nI i)), (4, .int d)]) S.1 S.2.1 d_MD_refuses_6 hl (by decide) rfl (fun ls hl => ?_)
  refine lv_aload_n S.1 S.2.1 d_MD_refuses_8 rfl (lv_at hl 1 rfl) ?_
  refine g_get S hO fl_MD_28 (by decide) (sh_140 G ad _ _) (v := .ref (ad 147)) rfl d_MD_refuses_9 ?_
  refine lv_iload_n S.1 S.2.1 d_MD_refuses_12 rfl (lv_at hl 2 rfl) ?_
  refine g_ial S hO (by decide) (sh_147 G ad _ _) (vp_in_nI (show r < 24 by omega) (by decide)) d_MD_refuses_13 ?_
  refine W.eq (g2 := F0 m 14 ls [.int (σ 147 r)]) (by rw [nI_clamp (show r < 2 ^ 31 by omega)]) ?_
  refine lv_istore (lv' := [(6, .int (σ 147 r)), (5, .int (σ 146 r)), (0, .ref (ad 140)), (1, .int (nI r)), (2, .int (nI u)), (3, .int (nI i)), (4, .int d)]) S.1 S.2.1 d_MD_refuses_14 hl (by decide) rfl (fun ls hl => ?_)
  refine lv_aload_n S.1 S.2.1 d_MD_refuses_16 rfl (lv_at hl 2 rfl) ?_
  refine g_get S hO fl_MD_22 (by decide) (sh_140 G ad _ _) (v := .ref (ad 145)) rfl d_MD_refuses_17 ?_
  refine lv_iload_n S.1 S.2.1 d_MD_refuses_20 rfl (lv_at hl 3 rfl) ?_
  refine g_ial S hO (by decide) (sh_145 G ad _ _) (vp_in_nI (show r < 24 by omega) (by decide)) d_MD_refuses_21 ?_
  refine W.eq (g2 := F0 m 22 ls [.int (σ 145 r)]) (by rw [nI_clamp (show r < 2 ^ 31 by omega)]) ?_
  by_cases w_22_0 : σ 145 r = 0
  · refine W.eq (g2 := F0 m 22 ls [.int 0]) (by rw [w_22_0]) ?_
    refine lv_tableIn (tgt := 76) S.1 S.2.1 d_MD_refuses_22 (by decide) (by decide) rfl (by decide) ?_
    have J_92 : ∀ (z : Int32), z = (bI (!szV σ u i (σ 146 r))) → ∀ (H : Heap) (locs : List Loc), gO G (gA G) 159 ad (enc G ad σ τ) s H locs → ∀ ls : Array Slot, lv_has ls 8 [(6, .int (σ 147 r)), (5, .int (σ 146 r)), (0, .ref (ad 140)), (1, .int (nI r)), (2, .int (nI u)), (3, .int (nI i)), (4, .int d)] → W p l e { frames := 2, cells := 0, slots := 0, locals := 53 } s m args below meth c H locs 0 0 (gM below (gA G) 0 0 (fun v t => ∃ E1, (∃ σ1 τ1, E1 = enc G ad σ1 τ1 ∧ (fun v σ1 τ1 => v = some (.int (bI (mrB σ nu r u i d))) ∧ σ1 = mrS σ r ∧ τ1 = τ) v σ1 τ1) ∧ va_P G.1 gcl (gw 159 ad E1) t.heap) (fun x t => (fun _ => False) x ∧ va_P G.1 gcl (gw 159 ad (enc G ad σ τ)) t.heap) args s) (F0 m 92 ls (.int z :: [])) := by
      intro z ez H locs hO ls hl
      subst ez
      exact im_z S hk hr hO (by first | exact Or.inl rfl | exact Or.inr rfl | exact b_01) ⟨by rw [mrB, if_pos w_22_0], by rw [mrS, isO, w_22_0]; rfl, rfl⟩ (Nat.le_of_ble_eq_true rfl) (Nat.le_of_ble_eq_true rfl) d_MD_refuses_92
    refine lv_aload_n S.1 S.2.1 d_MD_refuses_76 rfl (lv_at hl 2 rfl) ?_
    refine lv_iload_n S.1 S.2.1 d_MD_refuses_77 rfl (lv_at hl 4 rfl) ?_
    refine lv_iload_n S.1 S.2.1 d_MD_refuses_78 rfl (lv_at hl 5 rfl) ?_
    refine lv_iload S.1 S.2.1 d_MD_refuses_79 (lv_at hl 1 rfl) ?_
    refine g_VP (As := [.int (nI u), .int (nI i), .int (σ 146 r)]) (rest := []) S hO (k_MD_isSized l G ad σ τ u (by omega) i (by omega) (σ 146 r)) cw_MD_171 (by decide) (sh_140 G ad _ _) rfl rfl hl.1 (Nat.le_of_ble_eq_true rfl) ⟨(Nat.le_of_ble_eq_true rfl), (Nat.le_of_ble_eq_true rfl)⟩ ⟨(Nat.le_of_ble_eq_true rfl), (Nat.le_of_ble_eq_true rfl)⟩ d_MD_refuses_81 (fun q x ce H h9 => h9.elim) (fun v H v_1 hO => ?_)
    subst v_1
    refine W.eq (g2 := F0 m 84 ls [.int (bI (szV σ u i (σ 146 r)))]) rfl ?_
    refine lv_if_ne (tgt := 91) S.1 S.2.1 d_MD_refuses_84 (by decide) (fun c_84 => ?_) (fun c_84 => ?_)
    · skip
      have q_84 : (szV σ u i (σ 146 r)) = true := b_1 c_84
      refine lv_iconst (v := 0) S.1 S.2.1 d_MD_refuses_91 (by decide) ?_
      exact J_92 _ (by simp [bI, q_84]) _ _ hO ls (lv_sub hl [0, 1, 2, 3, 4, 5, 6] rfl)
    · skip
      have q_84 : (szV σ u i (σ 146 r)) = false := b_0 c_84
      refine lv_iconst (v := 1) S.1 S.2.1 d_MD_refuses_87 (by decide) ?_
      refine lv_goto (tgt := 92) S.1 S.2.1 d_MD_refuses_88 (by decide) ?_
      exact J_92 _ (by simp [bI, q_84]) _ _ hO ls (lv_sub hl [0, 1, 2, 3, 4, 5, 6] rfl)
  by_cases w_22_1 : σ 145 r = 1
  · refine W.eq (g2 := F0 m 22 ls [.int 1]) (by rw [w_22_1]) ?_
    refine lv_tableIn (tgt := 93) S.1 S.2.1 d_MD_refuses_22 (by decide) (by decide) rfl (by decide) ?_
    have J_133 : ∀ (z : Int32), z = (bI (!decide (σ 142 (10 * u + 6) + otI σ u (nI i) nu ≤ σ 141 (5 * i + 3) - σ 146 r))) → ∀ (H : Heap) (locs : List Loc), gO G (gA G) 159 ad (enc G ad σ τ) s H locs → ∀ ls : Array Slot, lv_has ls 8 [(6, .int (σ 147 r)), (5, .int (σ 146 r)), (0, .ref (ad 140)), (1, .int (nI r)), (2, .int (nI u)), (3, .int (nI i)), (4, .int d)] → W p l e { frames := 2, cells := 0, slots := 0, locals := 53 } s m args below meth c H locs 0 0 (gM below (gA G) 0 0 (fun v t => ∃ E1, (∃ σ1 τ1, E1 = enc G ad σ1 τ1 ∧ (fun v σ1 τ1 => v = some (.int (bI (mrB σ nu r u i d))) ∧ σ1 = mrS σ r ∧ τ1 = τ) v σ1 τ1) ∧ va_P G.1 gcl (gw 159 ad E1) t.heap) (fun x t => (fun _ => False) x ∧ va_P G.1 gcl (gw 159 ad (enc G ad σ τ)) t.heap) args s) (F0 m 133 ls (.int z :: [])) := by
      intro z ez H locs hO ls hl
      subst ez
      exact im_z S hk hr hO (by first | exact Or.inl rfl | exact Or.inr rfl | exact b_01) ⟨by rw [mrB, if_neg w_22_0, if_pos w_22_1], by rw [mrS, isO, w_22_1]; rfl, rfl⟩ (Nat.le_of_ble_eq_true rfl) (Nat.le_of_ble_eq_true rfl) d_MD_refuses_133
    refine lv_aload_n S.1 S.2.1 d_MD_refuses_93 rfl (lv_at hl 2 rfl) ?_
    refine g_get S hO fl_MD_13 (by decide) (sh_140 G ad _ _) (v := .ref (ad 142)) rfl d_MD_refuses_94 ?_
    refine lv_bipush (v := 10) S.1 S.2.1 d_MD_refuses_97 (by decide) ?_
    refine lv_iload_n S.1 S.2.1 d_MD_refuses_99 rfl (lv_at hl 4 rfl) ?_
    refine lv_imul S.1 S.2.1 d_MD_refuses_100 ?_
    refine W.eq (g2 := F0 m 101 ls [.int (nI (10 * u)), .ref (ad 142)]) (by rw [show (10 : Int32) * (nI u) = nI (10 * u) from pk_mul 10 u]) ?_
    refine lv_bipush (v := 6) S.1 S.2.1 d_MD_refuses_101 (by decide) ?_
    refine lv_iadd S.1 S.2.1 d_MD_refuses_103 ?_
    refine W.eq (g2 := F0 m 104 ls [.int (nI (10 * u + 6)), .ref (ad 142)]) (by rw [show (nI (10 * u)) + (6 : Int32) = nI (10 * u + 6) from nI_add (10 * u) 6]) ?_
    refine g_ial S hO (by decide) (sh_142 G ad _ _) (vp_in_nI (show 10 * u + 6 < 400 by omega) (by decide)) d_MD_refuses_104 ?_
    refine W.eq (g2 := F0 m 105 ls [.int (σ 142 (10 * u + 6))]) (by rw [nI_clamp (show 10 * u + 6 < 2 ^ 31 by omega)]) ?_
    refine lv_aload_n S.1 S.2.1 d_MD_refuses_105 rfl (lv_at hl 2 rfl) ?_
    refine lv_iload_n S.1 S.2.1 d_MD_refuses_106 rfl (lv_at hl 4 rfl) ?_
    refine lv_iload_n S.1 S.2.1 d_MD_refuses_107 rfl (lv_at hl 5 rfl) ?_
    refine g_VP (As := [.int (nI u), .int (nI i)]) (rest := [.int (σ 142 (10 * u + 6))]) S hO (k_MD_others l G ad σ τ u (by omega) (nI i) nu hmu hn4) cw_MD_168 (by decide) (sh_140 G ad _ _) rfl rfl hl.1 (Nat.le_of_ble_eq_true rfl) ⟨(Nat.le_of_ble_eq_true rfl), (Nat.le_of_ble_eq_true rfl)⟩ ⟨(Nat.le_of_ble_eq_true rfl), (Nat.le_of_ble_eq_true rfl)⟩ d_MD_refuses_108 (fun q x ce H h9 => h9.elim) (fun v H v_2 hO => ?_)
    subst v_2
    refine W.eq (g2 := F0 m 111 ls [.int (otI σ u (nI i) nu), .int (σ 142 (10 * u + 6))]) rfl ?_
    refine lv_iadd S.1 S.2.1 d_MD_refuses_111 ?_
    refine lv_aload_n S.1 S.2.1 d_MD_refuses_112 rfl (lv_at hl 2 rfl) ?_
    refine g_get S hO fl_MD_7 (by decide) (sh_140 G ad _ _) (v := .ref (ad 141)) rfl d_MD_refuses_113 ?_
    refine lv_iconst (v := 5) S.1 S.2.1 d_MD_refuses_116 (by decide) ?_
    refine lv_iload_n S.1 S.2.1 d_MD_refuses_117 rfl (lv_at hl 5 rfl) ?_
    refine lv_imul S.1 S.2.1 d_MD_refuses_118 ?_
    refine W.eq (g2 := F0 m 119 ls [.int (nI (5 * i)), .ref (ad 141), .int ((σ 142 (10 * u + 6)) + (otI σ u (nI i) nu))]) (by rw [show (5 : Int32) * (nI i) = nI (5 * i) from pk_mul 5 i]) ?_
    refine lv_iconst (v := 3) S.1 S.2.1 d_MD_refuses_119 (by decide) ?_
    refine lv_iadd S.1 S.2.1 d_MD_refuses_120 ?_
    refine W.eq (g2 := F0 m 121 ls [.int (nI (5 * i + 3)), .ref (ad 141), .int ((σ 142 (10 * u + 6)) + (otI σ u (nI i) nu))]) (by rw [show (nI (5 * i)) + (3 : Int32) = nI (5 * i + 3) from nI_add (5 * i) 3]) ?_
    refine g_ial S hO (by decide) (sh_141 G ad _ _) (vp_in_nI (show 5 * i + 3 < 60 by omega) (by decide)) d_MD_refuses_121 ?_
    refine W.eq (g2 := F0 m 122 ls [.int (σ 141 (5 * i + 3)), .int ((σ 142 (10 * u + 6)) + (otI σ u (nI i) nu))]) (by rw [nI_clamp (show 5 * i + 3 < 2 ^ 31 by omega)]) ?_
    refine lv_iload S.1 S.2.1 d_MD_refuses_122 (lv_at hl 1 rfl) ?_
    refine lv_isub S.1 S.2.1 d_MD_refuses_124 ?_
    refine lv_icmp_le (tgt := 132) S.1 S.2.1 d_MD_refuses_125 (by decide) (fun c_125 => ?_) (fun c_125 => ?_)
    · skip
      refine lv_iconst (v := 0) S.1 S.2.1 d_MD_refuses_132 (by decide) ?_
      exact J_133 _ (by simp [bI, c_125, Int32.not_lt.mpr c_125]) _ _ hO ls (lv_sub hl [0, 1, 2, 3, 4, 5, 6] rfl)
    · skip
      refine lv_iconst (v := 1) S.1 S.2.1 d_MD_refuses_128 (by decide) ?_
      refine lv_goto (tgt := 133) S.1 S.2.1 d_MD_refuses_129 (by decide) ?_
      exact J_133 _ (by simp [bI, c_125, Int32.not_le.mp c_125]) _ _ hO ls (lv_sub hl [0, 1, 2, 3, 4, 5, 6] rfl)
  by_cases w_22_2 : σ 145 r = 2
  · refine W.eq (g2 := F0 m 22 ls [.int 2]) (by rw [w_22_2]) ?_
    refine lv_tableIn (tgt := 134) S.1 S.2.1 d_MD_refuses_22 (by decide) (by decide) rfl (by decide) ?_
    have J_158 : ∀ (z : Int32), z = (bI (!decide (ukI σ u (nI i) 0 nu ≤ σ 146 r))) → ∀ (H : Heap) (locs : List Loc), gO G (gA G) 159 ad (enc G ad σ τ) s H locs → ∀ ls : Array Slot, lv_has ls 8 [(6, .int (σ 147 r)), (5, .int (σ 146 r)), (0, .ref (ad 140)), (1, .int (nI r)), (2, .int (nI u)), (3, .int (nI i)), (4, .int d)] → W p l e { frames := 2, cells := 0, slots := 0, locals := 53 } s m args below meth c H locs 0 0 (gM below (gA G) 0 0 (fun v t => ∃ E1, (∃ σ1 τ1, E1 = enc G ad σ1 τ1 ∧ (fun v σ1 τ1 => v = some (.int (bI (mrB σ nu r u i d))) ∧ σ1 = mrS σ r ∧ τ1 = τ) v σ1 τ1) ∧ va_P G.1 gcl (gw 159 ad E1) t.heap) (fun x t => (fun _ => False) x ∧ va_P G.1 gcl (gw 159 ad (enc G ad σ τ)) t.heap) args s) (F0 m 158 ls (.int z :: [])) := by
      intro z ez H locs hO ls hl
      subst ez
      exact im_z S hk hr hO (by first | exact Or.inl rfl | exact Or.inr rfl | exact b_01) ⟨by rw [mrB, if_neg w_22_0, if_neg w_22_1, if_pos w_22_2], by rw [mrS, isO, w_22_2]; rfl, rfl⟩ (Nat.le_of_ble_eq_true rfl) (Nat.le_of_ble_eq_true rfl) d_MD_refuses_158
    refine lv_aload_n S.1 S.2.1 d_MD_refuses_134 rfl (lv_at hl 2 rfl) ?_
    refine lv_iload_n S.1 S.2.1 d_MD_refuses_135 rfl (lv_at hl 4 rfl) ?_
    refine lv_iload_n S.1 S.2.1 d_MD_refuses_136 rfl (lv_at hl 5 rfl) ?_
    refine lv_aload_n S.1 S.2.1 d_MD_refuses_137 rfl (lv_at hl 2 rfl) ?_
    refine g_get S hO fl_MD_22 (by decide) (sh_140 G ad _ _) (v := .ref (ad 145)) rfl d_MD_refuses_138 ?_
    refine lv_iload_n S.1 S.2.1 d_MD_refuses_141 rfl (lv_at hl 3 rfl) ?_
    refine g_ial S hO (by decide) (sh_145 G ad _ _) (vp_in_nI (show r < 24 by omega) (by decide)) d_MD_refuses_142 ?_
    refine W.eq (g2 := F0 m 143 ls [.int (σ 145 r), .int (nI i), .int (nI u), .ref (ad 140)]) (by rw [nI_clamp (show r < 2 ^ 31 by omega)]) ?_
    refine lv_iconst (v := 2) S.1 S.2.1 d_MD_refuses_143 (by decide) ?_
    refine lv_isub S.1 S.2.1 d_MD_refuses_144 ?_
    refine W.eq (g2 := F0 m 145 ls [.int (nI 0), .int (nI i), .int (nI u), .ref (ad 140)]) (by rw [w_22_2]; rfl) ?_
    refine g_VP (As := [.int (nI u), .int (nI i), .int (nI 0)]) (rest := []) S hO (k_MD_unlike l G ad σ τ 0 (by omega) u (by omega) (nI i) nu hmu hn4) cw_MD_174 (by decide) (sh_140 G ad _ _) rfl rfl hl.1 (Nat.le_of_ble_eq_true rfl) ⟨(Nat.le_of_ble_eq_true rfl), (Nat.le_of_ble_eq_true rfl)⟩ ⟨(Nat.le_of_ble_eq_true rfl), (Nat.le_of_ble_eq_true rfl)⟩ d_MD_refuses_145 (fun q x ce H h9 => h9.elim) (fun v H v_3 hO => ?_)
    subst v_3
    refine W.eq (g2 := F0 m 148 ls [.int (ukI σ u (nI i) 0 nu)]) rfl ?_
    refine lv_iload S.1 S.2.1 d_MD_refuses_148 (lv_at hl 1 rfl) ?_
    refine lv_icmp_le (tgt := 157) S.1 S.2.1 d_MD_refuses_150 (by decide) (fun c_150 => ?_) (fun c_150 => ?_)
    · skip
      refine lv_iconst (v := 0) S.1 S.2.1 d_MD_refuses_157 (by decide) ?_
      exact J_158 _ (by simp [bI, c_150, Int32.not_lt.mpr c_150]) _ _ hO ls (lv_sub hl [0, 1, 2, 3, 4, 5, 6] rfl)
    · skip
      refine lv_iconst (v := 1) S.1 S.2.1 d_MD_refuses_153 (by decide) ?_
      refine lv_goto (tgt := 158) S.1 S.2.1 d_MD_refuses_154 (by decide) ?_
      exact J_158 _ (by simp [bI, c_150, Int32.not_le.mp c_150]) _ _ hO ls (lv_sub hl [0, 1, 2, 3, 4, 5, 6] rfl)
  by_cases w_22_3 : σ 145 r = 3
  · refine W.eq (g2 := F0 m 22 ls [.int 3]) (by rw [w_22_3]) ?_
    refine lv_tableIn (tgt := 134) S.1 S.2.1 d_MD_refuses_22 (by decide) (by decide) rfl (by decide) ?_
    have J_158 : ∀ (z : Int32), z = (bI (!decide (ukI σ u (nI i) 1 nu ≤ σ 146 r))) → ∀ (H : Heap) (locs : List Loc), gO G (gA G) 159 ad (enc G ad σ τ) s H locs → ∀ ls : Array Slot, lv_has ls 8 [(6, .int (σ 147 r)), (5, .int (σ 146 r)), (0, .ref (ad 140)), (1, .int (nI r)), (2, .int (nI u)), (3, .int (nI i)), (4, .int d)] → W p l e { frames := 2, cells := 0, slots := 0, locals := 53 } s m args below meth c H locs 0 0 (gM below (gA G) 0 0 (fun v t => ∃ E1, (∃ σ1 τ1, E1 = enc G ad σ1 τ1 ∧ (fun v σ1 τ1 => v = some (.int (bI (mrB σ nu r u i d))) ∧ σ1 = mrS σ r ∧ τ1 = τ) v σ1 τ1) ∧ va_P G.1 gcl (gw 159 ad E1) t.heap) (fun x t => (fun _ => False) x ∧ va_P G.1 gcl (gw 159 ad (enc G ad σ τ)) t.heap) args s) (F0 m 158 ls (.int z :: [])) := by
      intro z ez H locs hO ls hl
      subst ez
      exact im_z S hk hr hO (by first | exact Or.inl rfl | exact Or.inr rfl | exact b_01) ⟨by rw [mrB, if_neg w_22_0, if_neg w_22_1, if_neg w_22_2, if_pos w_22_3], by rw [mrS, isO, w_22_3]; rfl, rfl⟩ (Nat.le_of_ble_eq_true rfl) (Nat.le_of_ble_eq_true rfl) d_MD_refuses_158
    refine lv_aload_n S.1 S.2.1 d_MD_refuses_134 rfl (lv_at hl 2 rfl) ?_
    refine lv_iload_n S.1 S.2.1 d_MD_refuses_135 rfl (lv_at hl 4 rfl) ?_
    refine lv_iload_n S.1 S.2.1 d_MD_refuses_136 rfl (lv_at hl 5 rfl) ?_
    refine lv_aload_n S.1 S.2.1 d_MD_refuses_137 rfl (lv_at hl 2 rfl) ?_
    refine g_get S hO fl_MD_22 (by decide) (sh_140 G ad _ _) (v := .ref (ad 145)) rfl d_MD_refuses_138 ?_
    refine lv_iload_n S.1 S.2.1 d_MD_refuses_141 rfl (lv_at hl 3 rfl) ?_
    refine g_ial S hO (by decide) (sh_145 G ad _ _) (vp_in_nI (show r < 24 by omega) (by decide)) d_MD_refuses_142 ?_
    refine W.eq (g2 := F0 m 143 ls [.int (σ 145 r), .int (nI i), .int (nI u), .ref (ad 140)]) (by rw [nI_clamp (show r < 2 ^ 31 by omega)]) ?_
    refine lv_iconst (v := 2) S.1 S.2.1 d_MD_refuses_143 (by decide) ?_
    refine lv_isub S.1 S.2.1 d_MD_refuses_144 ?_
    refine W.eq (g2 := F0 m 145 ls [.int (nI 1), .int (nI i), .int (nI u), .ref (ad 140)]) (by rw [w_22_3]; rfl) ?_
    refine g_VP (As := [.int (nI u), .int (nI i), .int (nI 1)]) (rest := []) S hO (k_MD_unlike l G ad σ τ 1 (by omega) u (by omega) (nI i) nu hmu hn4) cw_MD_174 (by decide) (sh_140 G ad _ _) rfl rfl hl.1 (Nat.le_of_ble_eq_true rfl) ⟨(Nat.le_of_ble_eq_true rfl), (Nat.le_of_ble_eq_true rfl)⟩ ⟨(Nat.le_of_ble_eq_true rfl), (Nat.le_of_ble_eq_true rfl)⟩ d_MD_refuses_145 (fun q x ce H h9 => h9.elim) (fun v H v_4 hO => ?_)
    subst v_4
    refine W.eq (g2 := F0 m 148 ls [.int (ukI σ u (nI i) 1 nu)]) rfl ?_
    refine lv_iload S.1 S.2.1 d_MD_refuses_148 (lv_at hl 1 rfl) ?_
    refine lv_icmp_le (tgt := 157) S.1 S.2.1 d_MD_refuses_150 (by decide) (fun c_150 => ?_) (fun c_150 => ?_)
    · skip
      refine lv_iconst (v := 0) S.1 S.2.1 d_MD_refuses_157 (by decide) ?_
      exact J_158 _ (by simp [bI, c_150, Int32.not_lt.mpr c_150]) _ _ hO ls (lv_sub hl [0, 1, 2, 3, 4, 5, 6] rfl)
    · skip
      refine lv_iconst (v := 1) S.1 S.2.1 d_MD_refuses_153 (by decide) ?_
      refine lv_goto (tgt := 158) S.1 S.2.1 d_MD_refuses_154 (by decide) ?_
      exact J_158 _ (by simp [bI, c_150, Int32.not_le.mp c_150]) _ _ hO ls (lv_sub hl [0, 1, 2, 3, 4, 5, 6] rfl)
  by_cases w_22_4 : σ 145 r = 4
  · refine W.eq (g2 := F0 m 22 ls [.int 4]) (by rw [w_22_4]) ?_
    refine lv_tableIn (tgt := 134) S.1 S.2.1 d_MD_refuses_22 (by decide) (by decide) rfl (by decide) ?_
    have J_158 : ∀ (z : Int32), z = (bI (!decide (ukI σ u (nI i) 2 nu ≤ σ 146 r))) → ∀ (H : Heap) (locs : List Loc), gO G (gA G) 159 ad (enc G ad σ τ) s H locs → ∀ ls : Array Slot, lv_has ls 8 [(6, .int (σ 147 r)), (5, .int (σ 146 r)), (0, .ref (ad 140)), (1, .int (nI r)), (2, .int (nI u)), (3, .int (nI i)), (4, .int d)] → W p l e { frames := 2, cells := 0, slots := 0, locals := 53 } s m args below meth c H locs 0 0 (gM below (gA G) 0 0 (fun v t => ∃ E1, (∃ σ1 τ1, E1 = enc G ad σ1 τ1 ∧ (fun v σ1 τ1 => v = some (.int (bI (mrB σ nu r u i d))) ∧ σ1 = mrS σ r ∧ τ1 = τ) v σ1 τ1) ∧ va_P G.1 gcl (gw 159 ad E1) t.heap) (fun x t => (fun _ => False) x ∧ va_P G.1 gcl (gw 159 ad (enc G ad σ τ)) t.heap) args s) (F0 m 158 ls (.int z :: [])) := by
      intro z ez H locs hO ls hl
      subst ez
      exact im_z S hk hr hO (by first | exact Or.inl rfl | exact Or.inr rfl | exact b_01) ⟨by rw [mrB, if_neg w_22_0, if_neg w_22_1, if_neg w_22_2, if_neg w_22_3, if_pos w_22_4], by rw [mrS, isO, w_22_4]; rfl, rfl⟩ (Nat.le_of_ble_eq_true rfl) (Nat.le_of_ble_eq_true rfl) d_MD_refuses_158
    refine lv_aload_n S.1 S.2.1 d_MD_refuses_134 rfl (lv_at hl 2 rfl) ?_
    refine lv_iload_n S.1 S.2.1 d_MD_refuses_135 rfl (lv_at hl 4 rfl) ?_
    refine lv_iload_n S.1 S.2.1 d_MD_refuses_136 rfl (lv_at hl 5 rfl) ?_
    refine lv_aload_n S.1 S.2.1 d_MD_refuses_137 rfl (lv_at hl 2 rfl) ?_
    refine g_get S hO fl_MD_22 (by decide) (sh_140 G ad _ _) (v := .ref (ad 145)) rfl d_MD_refuses_138 ?_
    refine lv_iload_n S.1 S.2.1 d_MD_refuses_141 rfl (lv_at hl 3 rfl) ?_
    refine g_ial S hO (by decide) (sh_145 G ad _ _) (vp_in_nI (show r < 24 by omega) (by decide)) d_MD_refuses_142 ?_
    refine W.eq (g2 := F0 m 143 ls [.int (σ 145 r), .int (nI i), .int (nI u), .ref (ad 140)]) (by rw [nI_clamp (show r < 2 ^ 31 by omega)]) ?_
    refine lv_iconst (v := 2) S.1 S.2.1 d_MD_refuses_143 (by decide) ?_
    refine lv_isub S.1 S.2.1 d_MD_refuses_144 ?_
    refine W.eq (g2 := F0 m 145 ls [.int (nI 2), .int (nI i), .int (nI u), .ref (ad 140)]) (by rw [w_22_4]; rfl) ?_
    refine g_VP (As := [.int (nI u), .int (nI i), .int (nI 2)]) (rest := []) S hO (k_MD_unlike l G ad σ τ 2 (by omega) u (by omega) (nI i) nu hmu hn4) cw_MD_174 (by decide) (sh_140 G ad _ _) rfl rfl hl.1 (Nat.le_of_ble_eq_true rfl) ⟨(Nat.le_of_ble_eq_true rfl), (Nat.le_of_ble_eq_true rfl)⟩ ⟨(Nat.le_of_ble_eq_true rfl), (Nat.le_of_ble_eq_true rfl)⟩ d_MD_refuses_145 (fun q x ce H h9 => h9.elim) (fun v H v_5 hO => ?_)
    subst v_5
    refine W.eq (g2 := F0 m 148 ls [.int (ukI σ u (nI i) 2 nu)]) rfl ?_
    refine lv_iload S.1 S.2.1 d_MD_refuses_148 (lv_at hl 1 rfl) ?_
    refine lv_icmp_le (tgt := 157) S.1 S.2.1 d_MD_refuses_150 (by decide) (fun c_150 => ?_) (fun c_150 => ?_)
    · skip
      refine lv_iconst (v := 0) S.1 S.2.1 d_MD_refuses_157 (by decide) ?_
      exact J_158 _ (by simp [bI, c_150, Int32.not_lt.mpr c_150]) _ _ hO ls (lv_sub hl [0, 1, 2, 3, 4, 5, 6] rfl)
    · skip
      refine lv_iconst (v := 1) S.1 S.2.1 d_MD_refuses_153 (by decide) ?_
      refine lv_goto (tgt := 158) S.1 S.2.1 d_MD_refuses_154 (by decide) ?_
      exact J_158 _ (by simp [bI, c_150, Int32.not_le.mp c_150]) _ _ hO ls (lv_sub hl [0, 1, 2, 3, 4, 5, 6] rfl)
  by_cases w_22_5 : σ 145 r = 5
  · refine W.eq (g2 := F0 m 22 ls [.int 5]) (by rw [w_22_5]) ?_
    refine lv_tableIn (tgt := 159) S.1 S.2.1 d_MD_refuses_22 (by decide) (by decide) rfl (by decide) ?_
    refine lv_aload_n S.1 S.2.1 d_MD_refuses_159 rfl (lv_at hl 2 rfl) ?_
    refine g_get S hO fl_MD_13 (by decide) (sh_140 G ad _ _) (v := .ref (ad 142)) rfl d_MD_refuses_160 ?_
    refine lv_bipush (v := 10) S.1 S.2.1 d_MD_refuses_163 (by decide) ?_
    refine lv_iload_n S.1 S.2.1 d_MD_refuses_165 rfl (lv_at hl 4 rfl) ?_
    refine lv_imul S.1 S.2.1 d_MD_refuses_166 ?_
    refine W.eq (g2 := F0 m 167 ls [.int (nI (10 * u)), .ref (ad 142)]) (by rw [show (10 : Int32) * (nI u) = nI (10 * u) from pk_mul 10 u]) ?_
    refine lv_bipush (v := 7) S.1 S.2.1 d_MD_refuses_167 (by decide) ?_
    refine lv_iadd S.1 S.2.1 d_MD_refuses_169 ?_
    refine W.eq (g2 := F0 m 170 ls [.int (nI (10 * u + 7)), .ref (ad 142)]) (by rw [show (nI (10 * u)) + (7 : Int32) = nI (10 * u + 7) from nI_add (10 * u) 7]) ?_
    refine g_ial S hO (by decide) (sh_142 G ad _ _) (vp_in_nI (show 10 * u + 7 < 400 by omega) (by decide)) d_MD_refuses_170 ?_
    refine W.eq (g2 := F0 m 171 ls [.int (σ 142 (10 * u + 7))]) (by rw [nI_clamp (show 10 * u + 7 < 2 ^ 31 by omega)]) ?_
    refine lv_istore (lv' := [(7, .int (σ 142 (10 * u + 7))), (6, .int (σ 147 r)), (5, .int (σ 146 r)), (0, .ref (ad 140)), (1, .int (nI r)), (2, .int (nI u)), (3, .int (nI i)), (4, .int d)]) S.1 S.2.1 d_MD_refuses_171 hl (by decide) rfl (fun ls hl => ?_)
    have J_214 : ∀ (z : Int32), z = (bI ((decide (σ 142 (10 * u + 7) = σ 146 r) && mtA σ u (nI i) (σ 147 r) nu) || (decide (σ 142 (10 * u + 7) = σ 147 r) && mtA σ u (nI i) (σ 146 r) nu))) → ∀ (H : Heap) (locs : List Loc), gO G (gA G) 159 ad (enc G ad σ τ) s H locs → ∀ ls : Array Slot, lv_has ls 8 [(7, .int (σ 142 (10 * u + 7))), (6, .int (σ 147 r)), (5, .int (σ 146 r)), (0, .ref (ad 140)), (1, .int (nI r)), (2, .int (nI u)), (3, .int (nI i)), (4, .int d)] → W p l e { frames := 2, cells := 0, slots := 0, locals := 53 } s m args below meth c H locs 0 0 (gM below (gA G) 0 0 (fun v t => ∃ E1, (∃ σ1 τ1, E1 = enc G ad σ1 τ1 ∧ (fun v σ1 τ1 => v = some (.int (bI (mrB σ nu r u i d))) ∧ σ1 = mrS σ r ∧ τ1 = τ) v σ1 τ1) ∧ va_P G.1 gcl (gw 159 ad E1) t.heap) (fun x t => (fun _ => False) x ∧ va_P G.1 gcl (gw 159 ad (enc G ad σ τ)) t.heap) args s) (F0 m 214 ls (.int z :: [])) := by
      intro z ez H locs hO ls hl
      subst ez
      exact im_z S hk hr hO (by first | exact Or.inl rfl | exact Or.inr rfl | exact b_01) ⟨by rw [mrB, if_neg w_22_0, if_neg w_22_1, if_neg w_22_2, if_neg w_22_3, if_neg w_22_4, if_pos w_22_5], by rw [mrS, isO, w_22_5]; rfl, rfl⟩ (Nat.le_of_ble_eq_true rfl) (Nat.le_of_ble_eq_true rfl) d_MD_refuses_214
    refine lv_iload S.1 S.2.1 d_MD_refuses_173 (lv_at hl 0 rfl) ?_
    refine lv_iload S.1 S.2.1 d_MD_refuses_175 (lv_at hl 2 rfl) ?_
    refine lv_icmp_ne (tgt := 191) S.1 S.2.1 d_MD_refuses_177 (by decide) (fun c_177 => ?_) (fun c_177 => ?_)
    · skip
      refine lv_iload S.1 S.2.1 d_MD_refuses_191 (lv_at hl 0 rfl) ?_
      refine lv_iload S.1 S.2.1 d_MD_refuses_193 (lv_at hl 1 rfl) ?_
      refine lv_icmp_ne (tgt := 213) S.1 S.2.1 d_MD_refuses_195 (by decide) (fun c_195 => ?_) (fun c_195 => ?_)
      · skip
        refine lv_iconst (v := 0) S.1 S.2.1 d_MD_refuses_213 (by decide) ?_
        exact J_214 _ (by rw [decide_eq_false c_177, decide_eq_false c_195]; rfl) _ _ hO ls (lv_sub hl [0, 1, 2, 3, 4, 5, 6, 7] rfl)
      · skip
        refine lv_aload_n S.1 S.2.1 d_MD_refuses_198 rfl (lv_at hl 3 rfl) ?_
        refine lv_iload_n S.1 S.2.1 d_MD_refuses_199 rfl (lv_at hl 5 rfl) ?_
        refine lv_iload_n S.1 S.2.1 d_MD_refuses_200 rfl (lv_at hl 6 rfl) ?_
        refine lv_iload S.1 S.2.1 d_MD_refuses_201 (lv_at hl 2 rfl) ?_
        refine g_VP (As := [.int (nI u), .int (nI i), .int (σ 146 r)]) (rest := []) S hO (k_MD_meets l G ad σ τ u (by omega) (nI i) (σ 146 r) nu hmu hn4) cw_MD_178 (by decide) (sh_140 G ad _ _) rfl rfl hl.1 (Nat.le_of_ble_eq_true rfl) ⟨(Nat.le_of_ble_eq_true rfl), (Nat.le_of_ble_eq_true rfl)⟩ ⟨(Nat.le_of_ble_eq_true rfl), (Nat.le_of_ble_eq_true rfl)⟩ d_MD_refuses_203 (fun q x ce H h9 => h9.elim) (fun v H v_6 hO => ?_)
        subst v_6
        refine W.eq (g2 := F0 m 206 ls [.int (bI (mtA σ u (nI i) (σ 146 r) nu))]) rfl ?_
        refine lv_if_eq (tgt := 213) S.1 S.2.1 d_MD_refuses_206 (by decide) (fun c_206 => ?_) (fun c_206 => ?_)
        · skip
          have q_206 : (mtA σ u (nI i) (σ 146 r) nu) = false := b_0 c_206
          refine lv_iconst (v := 0) S.1 S.2.1 d_MD_refuses_213 (by decide) ?_
          exact J_214 _ (by rw [decide_eq_false c_177, decide_eq_true c_195, q_206]; rfl) _ _ hO ls (lv_sub hl [0, 1, 2, 3, 4, 5, 6, 7] rfl)
        · skip
          have q_206 : (mtA σ u (nI i) (σ 146 r) nu) = true := b_1 c_206
          refine lv_iconst (v := 1) S.1 S.2.1 d_MD_refuses_209 (by decide) ?_
          refine lv_goto (tgt := 214) S.1 S.2.1 d_MD_refuses_210 (by decide) ?_
          exact J_214 _ (by rw [decide_eq_false c_177, decide_eq_true c_195, q_206]; rfl) _ _ hO ls (lv_sub hl [0, 1, 2, 3, 4, 5, 6, 7] rfl)
    · skip
      refine lv_aload_n S.1 S.2.1 d_MD_refuses_180 rfl (lv_at hl 3 rfl) ?_
      refine lv_iload_n S.1 S.2.1 d_MD_refuses_181 rfl (lv_at hl 5 rfl) ?_
      refine lv_iload_n S.1 S.2.1 d_MD_refuses_182 rfl (lv_at hl 6 rfl) ?_
      refine lv_iload S.1 S.2.1 d_MD_refuses_183 (lv_at hl 1 rfl) ?_
      refine g_VP (As := [.int (nI u), .int (nI i), .int (σ 147 r)]) (rest := []) S hO (k_MD_meets l G ad σ τ u (by omega) (nI i) (σ 147 r) nu hmu hn4) cw_MD_178 (by decide) (sh_140 G ad _ _) rfl rfl hl.1 (Nat.le_of_ble_eq_true rfl) ⟨(Nat.le_of_ble_eq_true rfl), (Nat.le_of_ble_eq_true rfl)⟩ ⟨(Nat.le_of_ble_eq_true rfl), (Nat.le_of_ble_eq_true rfl)⟩ d_MD_refuses_185 (fun q x ce H h9 => h9.elim) (fun v H v_7 hO => ?_)
      subst v_7
      refine W.eq (g2 := F0 m 188 ls [.int (bI (mtA σ u (nI i) (σ 147 r) nu))]) rfl ?_
      refine lv_if_ne (tgt := 209) S.1 S.2.1 d_MD_refuses_188 (by decide) (fun c_188 => ?_) (fun c_188 => ?_)
      · skip
        have q_188 : (mtA σ u (nI i) (σ 147 r) nu) = true := b_1 c_188
        refine lv_iconst (v := 1) S.1 S.2.1 d_MD_refuses_209 (by decide) ?_
        refine lv_goto (tgt := 214) S.1 S.2.1 d_MD_refuses_210 (by decide) ?_
        exact J_214 _ (by rw [decide_eq_true c_177, q_188]; rfl) _ _ hO ls (lv_sub hl [0, 1, 2, 3, 4, 5, 6, 7] rfl)
      · skip
        have q_188 : (mtA σ u (nI i) (σ 147 r) nu) = false := b_0 c_188
        refine lv_iload S.1 S.2.1 d_MD_refuses_191 (lv_at hl 0 rfl) ?_
        refine lv_iload S.1 S.2.1 d_MD_refuses_193 (lv_at hl 1 rfl) ?_
        refine lv_icmp_ne (tgt := 213) S.1 S.2.1 d_MD_refuses_195 (by decide) (fun c_195 => ?_) (fun c_195 => ?_)
        · skip
          refine lv_iconst (v := 0) S.1 S.2.1 d_MD_refuses_213 (by decide) ?_
          exact J_214 _ (by rw [decide_eq_true c_177, q_188, decide_eq_false c_195]; rfl) _ _ hO ls (lv_sub hl [0, 1, 2, 3, 4, 5, 6, 7] rfl)
        · skip
          refine lv_aload_n S.1 S.2.1 d_MD_refuses_198 rfl (lv_at hl 3 rfl) ?_
          refine lv_iload_n S.1 S.2.1 d_MD_refuses_199 rfl (lv_at hl 5 rfl) ?_
          refine lv_iload_n S.1 S.2.1 d_MD_refuses_200 rfl (lv_at hl 6 rfl) ?_
          refine lv_iload S.1 S.2.1 d_MD_refuses_201 (lv_at hl 2 rfl) ?_
          refine g_VP (As := [.int (nI u), .int (nI i), .int (σ 146 r)]) (rest := []) S hO (k_MD_meets l G ad σ τ u (by omega) (nI i) (σ 146 r) nu hmu hn4) cw_MD_178 (by decide) (sh_140 G ad _ _) rfl rfl hl.1 (Nat.le_of_ble_eq_true rfl) ⟨(Nat.le_of_ble_eq_true rfl), (Nat.le_of_ble_eq_true rfl)⟩ ⟨(Nat.le_of_ble_eq_true rfl), (Nat.le_of_ble_eq_true rfl)⟩ d_MD_refuses_203 (fun q x ce H h9 => h9.elim) (fun v H v_8 hO => ?_)
          subst v_8
          refine W.eq (g2 := F0 m 206 ls [.int (bI (mtA σ u (nI i) (σ 146 r) nu))]) rfl ?_
          refine lv_if_eq (tgt := 213) S.1 S.2.1 d_MD_refuses_206 (by decide) (fun c_206 => ?_) (fun c_206 => ?_)
          · skip
            have q_206 : (mtA σ u (nI i) (σ 146 r) nu) = false := b_0 c_206
            refine lv_iconst (v := 0) S.1 S.2.1 d_MD_refuses_213 (by decide) ?_
            exact J_214 _ (by rw [decide_eq_true c_177, q_188, decide_eq_true c_195, q_206]; rfl) _ _ hO ls (lv_sub hl [0, 1, 2, 3, 4, 5, 6, 7] rfl)
          · skip
            have q_206 : (mtA σ u (nI i) (σ 146 r) nu) = true := b_1 c_206
            refine lv_iconst (v := 1) S.1 S.2.1 d_MD_refuses_209 (by decide) ?_
            refine lv_goto (tgt := 214) S.1 S.2.1 d_MD_refuses_210 (by decide) ?_
            exact J_214 _ (by rw [decide_eq_true c_177, q_188, decide_eq_true c_195, q_206]; rfl) _ _ hO ls (lv_sub hl [0, 1, 2, 3, 4, 5, 6, 7] rfl)
  by_cases w_22_6 : σ 145 r = 6
  · refine W.eq (g2 := F0 m 22 ls [.int 6]) (by rw [w_22_6]) ?_
    refine lv_tableIn (tgt := 215) S.1 S.2.1 d_MD_refuses_22 (by decide) (by decide) rfl (by decide) ?_
    have J_252 : ∀ (z : Int32), z = (bI (decide (σ 142 (10 * u + 8) = σ 146 r) && !decide (σ 141 (5 * i + 4) = σ 147 r))) → ∀ (H : Heap) (locs : List Loc), gO G (gA G) 159 ad (enc G ad σ τ) s H locs → ∀ ls : Array Slot, lv_has ls 8 [(6, .int (σ 147 r)), (5, .int (σ 146 r)), (0, .ref (ad 140)), (1, .int (nI r)), (2, .int (nI u)), (3, .int (nI i)), (4, .int d)] → W p l e { frames := 2, cells := 0, slots := 0, locals := 53 } s m args below meth c H locs 0 0 (gM below (gA G) 0 0 (fun v t => ∃ E1, (∃ σ1 τ1, E1 = enc G ad σ1 τ1 ∧ (fun v σ1 τ1 => v = some (.int (bI (mrB σ nu r u i d))) ∧ σ1 = mrS σ r ∧ τ1 = τ) v σ1 τ1) ∧ va_P G.1 gcl (gw 159 ad E1) t.heap) (fun x t => (fun _ => False) x ∧ va_P G.1 gcl (gw 159 ad (enc G ad σ τ)) t.heap) args s) (F0 m 252 ls (.int z :: [])) := by
      intro z ez H locs hO ls hl
      subst ez
      exact im_z S hk hr hO (by first | exact Or.inl rfl | exact Or.inr rfl | exact b_01) ⟨by rw [mrB, if_neg w_22_0, if_neg w_22_1, if_neg w_22_2, if_neg w_22_3, if_neg w_22_4, if_neg w_22_5, if_pos w_22_6], by rw [mrS, isO, w_22_6]; rfl, rfl⟩ (Nat.le_of_ble_eq_true rfl) (Nat.le_of_ble_eq_true rfl) d_MD_refuses_252
    refine lv_aload_n S.1 S.2.1 d_MD_refuses_215 rfl (lv_at hl 2 rfl) ?_
    refine g_get S hO fl_MD_13 (by decide) (sh_140 G ad _ _) (v := .ref (ad 142)) rfl d_MD_refuses_216 ?_
    refine lv_bipush (v := 10) S.1 S.2.1 d_MD_refuses_219 (by decide) ?_
    refine lv_iload_n S.1 S.2.1 d_MD_refuses_221 rfl (lv_at hl 4 rfl) ?_
    refine lv_imul S.1 S.2.1 d_MD_refuses_222 ?_
    refine W.eq (g2 := F0 m 223 ls [.int (nI (10 * u)), .ref (ad 142)]) (by rw [show (10 : Int32) * (nI u) = nI (10 * u) from pk_mul 10 u]) ?_
    refine lv_bipush (v := 8) S.1 S.2.1 d_MD_refuses_223 (by decide) ?_
    refine lv_iadd S.1 S.2.1 d_MD_refuses_225 ?_
    refine W.eq (g2 := F0 m 226 ls [.int (nI (10 * u + 8)), .ref (ad 142)]) (by rw [show (nI (10 * u)) + (8 : Int32) = nI (10 * u + 8) from nI_add (10 * u) 8]) ?_
    refine g_ial S hO (by decide) (sh_142 G ad _ _) (vp_in_nI (show 10 * u + 8 < 400 by omega) (by decide)) d_MD_refuses_226 ?_
    refine W.eq (g2 := F0 m 227 ls [.int (σ 142 (10 * u + 8))]) (by rw [nI_clamp (show 10 * u + 8 < 2 ^ 31 by omega)]) ?_
    refine lv_iload S.1 S.2.1 d_MD_refuses_227 (lv_at hl 1 rfl) ?_
    refine lv_icmp_ne (tgt := 251) S.1 S.2.1 d_MD_refuses_229 (by decide) (fun c_229 => ?_) (fun c_229 => ?_)
    · skip
      refine lv_iconst (v := 0) S.1 S.2.1 d_MD_refuses_251 (by decide) ?_
      exact J_252 _ (by simp [bI, c_229]) _ _ hO ls (lv_sub hl [0, 1, 2, 3, 4, 5, 6] rfl)
    · skip
      refine lv_aload_n S.1 S.2.1 d_MD_refuses_232 rfl (lv_at hl 2 rfl) ?_
      refine g_get S hO fl_MD_7 (by decide) (sh_140 G ad _ _) (v := .ref (ad 141)) rfl d_MD_refuses_233 ?_
      refine lv_iconst (v := 5) S.1 S.2.1 d_MD_refuses_236 (by decide) ?_
      refine lv_iload_n S.1 S.2.1 d_MD_refuses_237 rfl (lv_at hl 5 rfl) ?_
      refine lv_imul S.1 S.2.1 d_MD_refuses_238 ?_
      refine W.eq (g2 := F0 m 239 ls [.int (nI (5 * i)), .ref (ad 141)]) (by rw [show (5 : Int32) * (nI i) = nI (5 * i) from pk_mul 5 i]) ?_
      refine lv_iconst (v := 4) S.1 S.2.1 d_MD_refuses_239 (by decide) ?_
      refine lv_iadd S.1 S.2.1 d_MD_refuses_240 ?_
      refine W.eq (g2 := F0 m 241 ls [.int (nI (5 * i + 4)), .ref (ad 141)]) (by rw [show (nI (5 * i)) + (4 : Int32) = nI (5 * i + 4) from nI_add (5 * i) 4]) ?_
      refine g_ial S hO (by decide) (sh_141 G ad _ _) (vp_in_nI (show 5 * i + 4 < 60 by omega) (by decide)) d_MD_refuses_241 ?_
      refine W.eq (g2 := F0 m 242 ls [.int (σ 141 (5 * i + 4))]) (by rw [nI_clamp (show 5 * i + 4 < 2 ^ 31 by omega)]) ?_
      refine lv_iload S.1 S.2.1 d_MD_refuses_242 (lv_at hl 0 rfl) ?_
      refine lv_icmp_eq (tgt := 251) S.1 S.2.1 d_MD_refuses_244 (by decide) (fun c_244 => ?_) (fun c_244 => ?_)
      · skip
        refine lv_iconst (v := 0) S.1 S.2.1 d_MD_refuses_251 (by decide) ?_
        exact J_252 _ (by simp [bI, c_229, c_244]) _ _ hO ls (lv_sub hl [0, 1, 2, 3, 4, 5, 6] rfl)
      · skip
        refine lv_iconst (v := 1) S.1 S.2.1 d_MD_refuses_247 (by decide) ?_
        refine lv_goto (tgt := 252) S.1 S.2.1 d_MD_refuses_248 (by decide) ?_
        exact J_252 _ (by simp [bI, c_229, c_244]) _ _ hO ls (lv_sub hl [0, 1, 2, 3, 4, 5, 6] rfl)
  by_cases w_22_7 : σ 145 r = 7
  · refine W.eq (g2 := F0 m 22 ls [.int 7]) (by rw [w_22_7]) ?_
    refine lv_tableIn (tgt := 253) S.1 S.2.1 d_MD_refuses_22 (by decide) (by decide) rfl (by decide) ?_
    have J_269 : ∀ (z : Int32), z = (bI (!decide (mnI σ u (nI i) nu ≤ σ 146 r))) → ∀ (H : Heap) (locs : List Loc), gO G (gA G) 159 ad (enc G ad σ τ) s H locs → ∀ ls : Array Slot, lv_has ls 8 [(6, .int (σ 147 r)), (5, .int (σ 146 r)), (0, .ref (ad 140)), (1, .int (nI r)), (2, .int (nI u)), (3, .int (nI i)), (4, .int d)] → W p l e { frames := 2, cells := 0, slots := 0, locals := 53 } s m args below meth c H locs 0 0 (gM below (gA G) 0 0 (fun v t => ∃ E1, (∃ σ1 τ1, E1 = enc G ad σ1 τ1 ∧ (fun v σ1 τ1 => v = some (.int (bI (mrB σ nu r u i d))) ∧ σ1 = mrS σ r ∧ τ1 = τ) v σ1 τ1) ∧ va_P G.1 gcl (gw 159 ad E1) t.heap) (fun x t => (fun _ => False) x ∧ va_P G.1 gcl (gw 159 ad (enc G ad σ τ)) t.heap) args s) (F0 m 269 ls (.int z :: [])) := by
      intro z ez H locs hO ls hl
      subst ez
      exact im_z S hk hr hO (by first | exact Or.inl rfl | exact Or.inr rfl | exact b_01) ⟨by rw [mrB, if_neg w_22_0, if_neg w_22_1, if_neg w_22_2, if_neg w_22_3, if_neg w_22_4, if_neg w_22_5, if_neg w_22_6, if_pos w_22_7], by rw [mrS, isO, w_22_7]; rfl, rfl⟩ (Nat.le_of_ble_eq_true rfl) (Nat.le_of_ble_eq_true rfl) d_MD_refuses_269
    refine lv_aload_n S.1 S.2.1 d_MD_refuses_253 rfl (lv_at hl 2 rfl) ?_
    refine lv_iload_n S.1 S.2.1 d_MD_refuses_254 rfl (lv_at hl 4 rfl) ?_
    refine lv_iload_n S.1 S.2.1 d_MD_refuses_255 rfl (lv_at hl 5 rfl) ?_
    refine g_VP (As := [.int (nI u), .int (nI i)]) (rest := []) S hO (k_MD_many l G ad σ τ u (by omega) (nI i) nu hmu hn4) cw_MD_181 (by decide) (sh_140 G ad _ _) rfl rfl hl.1 (Nat.le_of_ble_eq_true rfl) ⟨(Nat.le_of_ble_eq_true rfl), (Nat.le_of_ble_eq_true rfl)⟩ ⟨(Nat.le_of_ble_eq_true rfl), (Nat.le_of_ble_eq_true rfl)⟩ d_MD_refuses_256 (fun q x ce H h9 => h9.elim) (fun v H v_9 hO => ?_)
    subst v_9
    refine W.eq (g2 := F0 m 259 ls [.int (mnI σ u (nI i) nu)]) rfl ?_
    refine lv_iload S.1 S.2.1 d_MD_refuses_259 (lv_at hl 1 rfl) ?_
    refine lv_icmp_le (tgt := 268) S.1 S.2.1 d_MD_refuses_261 (by decide) (fun c_261 => ?_) (fun c_261 => ?_)
    · skip
      refine lv_iconst (v := 0) S.1 S.2.1 d_MD_refuses_268 (by decide) ?_
      exact J_269 _ (by simp [bI, c_261, Int32.not_lt.mpr c_261]) _ _ hO ls (lv_sub hl [0, 1, 2, 3, 4, 5, 6] rfl)
    · skip
      refine lv_iconst (v := 1) S.1 S.2.1 d_MD_refuses_264 (by decide) ?_
      refine lv_goto (tgt := 269) S.1 S.2.1 d_MD_refuses_265 (by decide) ?_
      exact J_269 _ (by simp [bI, c_261, Int32.not_le.mp c_261]) _ _ hO ls (lv_sub hl [0, 1, 2, 3, 4, 5, 6] rfl)
  by_cases w_22_8 : σ 145 r = 8
  · refine W.eq (g2 := F0 m 22 ls [.int 8]) (by rw [w_22_8]) ?_
    refine lv_tableIn (tgt := 270) S.1 S.2.1 d_MD_refuses_22 (by decide) (by decide) rfl (by decide) ?_
    have J_286 : ∀ (z : Int32), z = (bI (!decide (spM σ u (nI i) nu - spL σ u (nI i) nu ≤ σ 146 r))) → ∀ (H : Heap) (locs : List Loc), gO G (gA G) 159 ad (enc G ad σ τ) s H locs → ∀ ls : Array Slot, lv_has ls 8 [(6, .int (σ 147 r)), (5, .int (σ 146 r)), (0, .ref (ad 140)), (1, .int (nI r)), (2, .int (nI u)), (3, .int (nI i)), (4, .int d)] → W p l e { frames := 2, cells := 0, slots := 0, locals := 53 } s m args below meth c H locs 0 0 (gM below (gA G) 0 0 (fun v t => ∃ E1, (∃ σ1 τ1, E1 = enc G ad σ1 τ1 ∧ (fun v σ1 τ1 => v = some (.int (bI (mrB σ nu r u i d))) ∧ σ1 = mrS σ r ∧ τ1 = τ) v σ1 τ1) ∧ va_P G.1 gcl (gw 159 ad E1) t.heap) (fun x t => (fun _ => False) x ∧ va_P G.1 gcl (gw 159 ad (enc G ad σ τ)) t.heap) args s) (F0 m 286 ls (.int z :: [])) := by
      intro z ez H locs hO ls hl
      subst ez
      exact im_z S hk hr hO (by first | exact Or.inl rfl | exact Or.inr rfl | exact b_01) ⟨by rw [mrB, if_neg w_22_0, if_neg w_22_1, if_neg w_22_2, if_neg w_22_3, if_neg w_22_4, if_neg w_22_5, if_neg w_22_6, if_neg w_22_7, if_pos w_22_8], by rw [mrS, isO, w_22_8]; rfl, rfl⟩ (Nat.le_of_ble_eq_true rfl) (Nat.le_of_ble_eq_true rfl) d_MD_refuses_286
    refine lv_aload_n S.1 S.2.1 d_MD_refuses_270 rfl (lv_at hl 2 rfl) ?_
    refine lv_iload_n S.1 S.2.1 d_MD_refuses_271 rfl (lv_at hl 4 rfl) ?_
    refine lv_iload_n S.1 S.2.1 d_MD_refuses_272 rfl (lv_at hl 5 rfl) ?_
    refine g_VP (As := [.int (nI u), .int (nI i)]) (rest := []) S hO (k_MD_span l G ad σ τ u (by omega) (nI i) nu hmu hn4) cw_MD_184 (by decide) (sh_140 G ad _ _) rfl rfl hl.1 (Nat.le_of_ble_eq_true rfl) ⟨(Nat.le_of_ble_eq_true rfl), (Nat.le_of_ble_eq_true rfl)⟩ ⟨(Nat.le_of_ble_eq_true rfl), (Nat.le_of_ble_eq_true rfl)⟩ d_MD_refuses_273 (fun q x ce H h9 => h9.elim) (fun v H v_10 hO => ?_)
    subst v_10
    refine W.eq (g2 := F0 m 276 ls [.int (spM σ u (nI i) nu - spL σ u (nI i) nu)]) rfl ?_
    refine lv_iload S.1 S.2.1 d_MD_refuses_276 (lv_at hl 1 rfl) ?_
    refine lv_icmp_le (tgt := 285) S.1 S.2.1 d_MD_refuses_278 (by decide) (fun c_278 => ?_) (fun c_278 => ?_)
    · skip
      refine lv_iconst (v := 0) S.1 S.2.1 d_MD_refuses_285 (by decide) ?_
      exact J_286 _ (by simp [bI, c_278, Int32.not_lt.mpr c_278]) _ _ hO ls (lv_sub hl [0, 1, 2, 3, 4, 5, 6] rfl)
    · skip
      refine lv_iconst (v := 1) S.1 S.2.1 d_MD_refuses_281 (by decide) ?_
      refine lv_goto (tgt := 286) S.1 S.2.1 d_MD_refuses_282 (by decide) ?_
      exact J_286 _ (by simp [bI, c_278, Int32.not_le.mp c_278]) _ _ hO ls (lv_sub hl [0, 1, 2, 3, 4, 5, 6] rfl)
  by_cases w_22_9 : σ 145 r = 9
  · refine W.eq (g2 := F0 m 22 ls [.int 9]) (by rw [w_22_9]) ?_
    refine lv_tableIn (tgt := 287) S.1 S.2.1 d_MD_refuses_22 (by decide) (by decide) rfl (by decide) ?_
    have J_312 : ∀ (z : Int32), z = (bI (!decide (σ 146 r ≤ σ 142 (10 * u + 9) - d))) → ∀ (H : Heap) (locs : List Loc), gO G (gA G) 159 ad (enc G ad σ τ) s H locs → ∀ ls : Array Slot, lv_has ls 8 [(6, .int (σ 147 r)), (5, .int (σ 146 r)), (0, .ref (ad 140)), (1, .int (nI r)), (2, .int (nI u)), (3, .int (nI i)), (4, .int d)] → W p l e { frames := 2, cells := 0, slots := 0, locals := 53 } s m args below meth c H locs 0 0 (gM below (gA G) 0 0 (fun v t => ∃ E1, (∃ σ1 τ1, E1 = enc G ad σ1 τ1 ∧ (fun v σ1 τ1 => v = some (.int (bI (mrB σ nu r u i d))) ∧ σ1 = mrS σ r ∧ τ1 = τ) v σ1 τ1) ∧ va_P G.1 gcl (gw 159 ad E1) t.heap) (fun x t => (fun _ => False) x ∧ va_P G.1 gcl (gw 159 ad (enc G ad σ τ)) t.heap) args s) (F0 m 312 ls (.int z :: [])) := by
      intro z ez H locs hO ls hl
      subst ez
      exact im_z S hk hr hO (by first | exact Or.inl rfl | exact Or.inr rfl | exact b_01) ⟨by rw [mrB, if_neg w_22_0, if_neg w_22_1, if_neg w_22_2, if_neg w_22_3, if_neg w_22_4, if_neg w_22_5, if_neg w_22_6, if_neg w_22_7, if_neg w_22_8, if_pos w_22_9], by rw [mrS, isO, w_22_9]; rfl, rfl⟩ (Nat.le_of_ble_eq_true rfl) (Nat.le_of_ble_eq_true rfl) d_MD_refuses_312
    refine lv_aload_n S.1 S.2.1 d_MD_refuses_287 rfl (lv_at hl 2 rfl) ?_
    refine g_get S hO fl_MD_13 (by decide) (sh_140 G ad _ _) (v := .ref (ad 142)) rfl d_MD_refuses_288 ?_
    refine lv_bipush (v := 10) S.1 S.2.1 d_MD_refuses_291 (by decide) ?_
    refine lv_iload_n S.1 S.2.1 d_MD_refuses_293 rfl (lv_at hl 4 rfl) ?_
    refine lv_imul S.1 S.2.1 d_MD_refuses_294 ?_
    refine W.eq (g2 := F0 m 295 ls [.int (nI (10 * u)), .ref (ad 142)]) (by rw [show (10 : Int32) * (nI u) = nI (10 * u) from pk_mul 10 u]) ?_
    refine lv_bipush (v := 9) S.1 S.2.1 d_MD_refuses_295 (by decide) ?_
    refine lv_iadd S.1 S.2.1 d_MD_refuses_297 ?_
    refine W.eq (g2 := F0 m 298 ls [.int (nI (10 * u + 9)), .ref (ad 142)]) (by rw [show (nI (10 * u)) + (9 : Int32) = nI (10 * u + 9) from nI_add (10 * u) 9]) ?_
    refine g_ial S hO (by decide) (sh_142 G ad _ _) (vp_in_nI (show 10 * u + 9 < 400 by omega) (by decide)) d_MD_refuses_298 ?_
    refine W.eq (g2 := F0 m 299 ls [.int (σ 142 (10 * u + 9))]) (by rw [nI_clamp (show 10 * u + 9 < 2 ^ 31 by omega)]) ?_
    refine lv_iload S.1 S.2.1 d_MD_refuses_299 (lv_at hl 6 rfl) ?_
    refine lv_isub S.1 S.2.1 d_MD_refuses_301 ?_
    refine lv_iload S.1 S.2.1 d_MD_refuses_302 (lv_at hl 1 rfl) ?_
    refine lv_icmp_ge (tgt := 311) S.1 S.2.1 d_MD_refuses_304 (by decide) (fun c_304 => ?_) (fun c_304 => ?_)
    · skip
      refine lv_iconst (v := 0) S.1 S.2.1 d_MD_refuses_311 (by decide) ?_
      exact J_312 _ (by simp [bI, c_304, Int32.not_lt.mpr c_304]) _ _ hO ls (lv_sub hl [0, 1, 2, 3, 4, 5, 6] rfl)
    · skip
      refine lv_iconst (v := 1) S.1 S.2.1 d_MD_refuses_307 (by decide) ?_
      refine lv_goto (tgt := 312) S.1 S.2.1 d_MD_refuses_308 (by decide) ?_
      exact J_312 _ (by simp [bI, c_304, Int32.not_le.mp c_304]) _ _ hO ls (lv_sub hl [0, 1, 2, 3, 4, 5, 6] rfl)
  refine lv_tableOut (tgt := 313) S.1 S.2.1 d_MD_refuses_22 (sw09 w_22_0 w_22_1 w_22_2 w_22_3 w_22_4 w_22_5 w_22_6 w_22_7 w_22_8 w_22_9) (by decide) ?_
  obtain ⟨q, hq4, hqa⟩ := hown w_22_0 w_22_1 w_22_2 w_22_3 w_22_4 w_22_5 w_22_6 w_22_7 w_22_8 w_22_9
  rw [hqa] at hl
  refine lv_aload_n S.1 S.2.1 d_MD_refuses_313 rfl (lv_at hl 2 rfl) ?_
  refine lv_iload S.1 S.2.1 d_MD_refuses_314 (lv_at hl 1 rfl) ?_
  refine lv_iload_n S.1 S.2.1 d_MD_refuses_316 rfl (lv_at hl 4 rfl) ?_
  refine lv_iload_n S.1 S.2.1 d_MD_refuses_317 rfl (lv_at hl 5 rfl) ?_
  refine g_VI (As := [.int (nI q), .int (nI u), .int (nI i)]) (rest := []) S hO (fun _ h => h) (k_MD_ownRefuses l G ad σ τ q (by omega) u (by omega) (nI i) nu hmu hn4) cw_MD_187 (by decide) (sh_140 G ad _ _) rfl rfl hl.1 (Nat.le_of_ble_eq_true rfl) ⟨(Nat.le_of_ble_eq_true rfl), (Nat.le_of_ble_eq_true rfl)⟩ ⟨(Nat.le_of_ble_eq_true rfl), (Nat.le_of_ble_eq_true rfl)⟩ d_MD_refuses_318 (fun q x ce H locs h9 => h9.elim) (fun v E1 H locs v_11 hO => ?_)
  obtain ⟨s_12, t_13, rfl, rfl, hs_12, ht_13⟩ := v_11
  rw [ht_13] at hO
  refine W.eq (g2 := F0 m 321 ls [.int (bI (owB σ q u (nI i) nu))]) rfl ?_
  subst hs_12
  exact im_z S hk hr hO (by first | exact Or.inl rfl | exact Or.inr rfl | exact b_01) ⟨by rw [mrB, if_neg w_22_0, if_neg w_22_1, if_neg w_22_2, if_neg w_22_3, if_neg w_22_4, if_neg w_22_5, if_neg w_22_6, if_neg w_22_7, if_neg w_22_8, if_neg w_22_9, hqa, nI_clamp (by omega)], by rw [mrS, if_pos (by simp [isO, w_22_0, w_22_1, w_22_2, w_22_3, w_22_4, w_22_5, w_22_6, w_22_7, w_22_8, w_22_9]), hqa, nI_clamp (by omega)], rfl⟩ (Nat.le_of_ble_eq_true rfl) (Nat.le_of_ble_eq_true rfl) d_MD_refuses_321
