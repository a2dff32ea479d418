/-! The reference: walk begins -/
def clD (D : Dd) (k : Int) : Dd := fun a j => if a = 292 ∧ (j : Int) < k then 0 else D a j
theorem cl_0 (D : Dd) : clD D 0 = D := by
  funext a j
  unfold clD
  rw [if_neg (by omega)]
theorem cl_s (D : Dd) (k : Int) (h0 : 0 ≤ k) : upD (clD D k) 292 k.toNat 0 = clD D (k + 1) := by
  funext a j
  unfold clD
  rw [upD_rd]
  by_cases h : a = 292
  · rw [if_pos h]
    by_cases h2 : j = k.toNat
    · rw [if_pos h2, if_pos (show a = 292 ∧ (j : Int) < k + 1 from ⟨h, by omega⟩)]
    · rw [if_neg h2]
      by_cases h3 : (j : Int) < k
      · rw [if_pos (show a = 292 ∧ (j : Int) < k from ⟨h, h3⟩), if_pos (show a = 292 ∧ (j : Int) < k + 1 from ⟨h, by omega⟩)]
      · rw [if_neg (show ¬ (a = 292 ∧ (j : Int) < k) by omega), if_neg (show ¬ (a = 292 ∧ (j : Int) < k + 1) by omega)]
  · rw [if_neg h, if_neg (show ¬ (a = 292 ∧ (j : Int) < k) by omega), if_neg (show ¬ (a = 292 ∧ (j : Int) < k + 1) by omega)]
theorem cl_k {D : Dd} {k : Int} {a j : Nat} (h : a ≠ 292) : clD D k a j = D a j := by
  unfold clD
  rw [if_neg (by omega)]
def w0M (D : Dd) : Dd := upD (upD (upD (clD D 4096) 293 0 (D 279 1 - 1)) 294 0 0) 295 0 0

set_option maxRecDepth 100000 in
set_option maxHeartbeats 4000000 in
theorem l_mclear {X : Cx} {Q : State → Prop} {P : Option AV → Dd → Prop} (hX : GX X yX10_walk cX10_walk 9 (some .int) 2 0 0) (hF : FX X Q P) (b : Int) (D : Dd) (hgo : ∀ w1 w2 w3 w4 w5 w6, W0 X Q 38 [vR 279, vL b, vN, w1, w2, w3, w4, w5, w6] [] (clD D 4096)) : ∀ (m : Nat) (k : Int) (w2 w3 w4 w5 w6 : AV), (4096 - k).toNat < m → 0 ≤ k → k ≤ 4096 → W0 X Q 18 [vR 279, vL b, vN, vI k, w2, w3, w4, w5, w6] [] (clD D k) := by
  intro m
  induction m with
  | zero =>
    intro k w2 w3 w4 w5 w6 hm h0 h1
    exact absurd hm (Nat.not_lt_zero _)
  | succ m ih =>
    intro k w2 w3 w4 w5 w6 hm h0 h1
    refine w_iload_n (i := 3) hX dX10_walk_18 rfl rfl rfl ?_
    refine w_sipush hX dX10_walk_19 rfl (by decide) ?_
    refine w_icmp_ge (tgt := 38) hX dX10_walk_22 rfl (by decide) (fun h22 => ?_) (fun h22 => ?_)
    · have zq_e : (4096 : Int) = k := by omega
      rw [zq_e] at hgo
      exact hgo _ _ _ _ _ _
    · refine w_aload_n (i := 0) hX dX10_walk_25 rfl rfl rfl ?_
      refine w_getR (j := 21) hX cl9 fl_RX10_54_9 rfl (by decide) rfl rfl dX10_walk_26 rfl ?_
      refine w_iload_n (i := 3) hX dX10_walk_29 rfl rfl rfl ?_
      refine w_iconst hX dX10_walk_30 rfl (by decide) ?_
      refine w_iast hX rfl (by omega) (by omega) dX10_walk_31 rfl ?_
      refine w_iinc hX dX10_walk_32 rfl rfl (by decide) (by omega) ?_
      dsimp only [st1X, st2X, klX_I, klX_L, klX_R, klX_S, klX_N]
      refine w_goto (tgt := 18) hX dX10_walk_35 (by decide) ?_
      rw [cl_s D k h0]
      exact ih (k + 1) _ _ _ _ _ (by omega) (by omega) (by omega)

set_option maxRecDepth 100000 in
set_option maxHeartbeats 4000000 in
theorem t_mwalk {X : Cx} {Q : State → Prop} {P : Option AV → Dd → Prop} (hX : GX X yX10_walk cX10_walk 9 (some .int) 2 0 0) (hF : FX X Q P) (b : Int) (D : Dd) (hu : 0 ≤ D 279 1 ∧ D 279 1 ≤ 16) (J : Int → Int → Int → Dd → Prop) (hJ : JW b J) (hj0 : J 0 0 0 (w0M D)) (hyes : ∀ x D2, WR b 0 0 0 (w0M D) x D2 → P (some (vI x)) D2) (w1 w2 w3 w4 w5 w6 : AV) : W0 X Q 38 [vR 279, vL b, vN, w1, w2, w3, w4, w5, w6] [] (clD D 4096) := by
  refine w_iconst hX dX10_walk_38 rfl (by decide) ?_
  refine w_istore_n (i := 3) hX dX10_walk_39 rfl rfl (by decide) ?_
  dsimp only [st1X, st2X, klX_I, klX_L, klX_R, klX_S, klX_N]
  refine w_iconst hX dX10_walk_40 rfl (by decide) ?_
  refine w_istore hX dX10_walk_41 rfl (by decide) ?_
  dsimp only [st1X, st2X, klX_I, klX_L, klX_R, klX_S, klX_N]
  refine w_iconst hX dX10_walk_43 rfl (by decide) ?_
  refine w_istore hX dX10_walk_44 rfl (by decide) ?_
  dsimp only [st1X, st2X, klX_I, klX_L, klX_R, klX_S, klX_N]
  refine w_aload_n (i := 0) hX dX10_walk_46 rfl rfl rfl ?_
  refine w_getR (j := 22) hX cl9 fl_RX10_57_9 rfl (by decide) rfl rfl dX10_walk_47 rfl ?_
  refine w_iconst hX dX10_walk_50 rfl (by decide) ?_
  refine w_aload_n (i := 0) hX dX10_walk_51 rfl rfl rfl ?_
  refine w_getI (j := 1) hX cl9 fl_RX10_83_9 rfl (by decide) rfl dX10_walk_52 rfl ?_
  rw [cl_k (by decide)]
  refine w_iconst hX dX10_walk_55 rfl (by decide) ?_
  refine w_isub hX dX10_walk_56 rfl (by omega) ?_
  refine w_iast hX rfl (by omega) (by omega) dX10_walk_57 rfl ?_
  refine w_aload_n (i := 0) hX dX10_walk_58 rfl rfl rfl ?_
  refine w_getR (j := 23) hX cl9 fl_RX10_60_9 rfl (by decide) rfl rfl dX10_walk_59 rfl ?_
  refine w_iconst hX dX10_walk_62 rfl (by decide) ?_
  refine w_iconst hX dX10_walk_63 rfl (by decide) ?_
  refine w_iast hX rfl (by omega) (by omega) dX10_walk_64 rfl ?_
  refine w_aload_n (i := 0) hX dX10_walk_65 rfl rfl rfl ?_
  refine w_getR (j := 24) hX cl9 fl_RX10_63_9 rfl (by decide) rfl rfl dX10_walk_66 rfl ?_
  refine w_iconst hX dX10_walk_69 rfl (by decide) ?_
  refine w_iconst hX dX10_walk_70 rfl (by decide) ?_
  refine w_iast hX rfl (by omega) (by omega) dX10_walk_71 rfl ?_
  exact l_mwalk hX hF b J hJ _ 0 0 0 (w0M D) _ _ _ (Nat.lt_succ_self _) (by decide) hj0 (by decide) hyes

set_option maxRecDepth 100000 in
set_option maxHeartbeats 4000000 in
theorem r_walk (D : Dd) (hu : 0 ≤ D 279 1 ∧ D 279 1 ≤ 16) (b : Int) (J : Int → Int → Int → Dd → Prop) (hJ : JW b J) (hj0 : D 279 20 ≠ 0 ∧ D 279 1 ≠ 0 → J 0 0 0 (w0M D)) : MC 2 yX10_walk cX10_walk 9 (some .int) [vR 279, vL b] D (fun r D2 => ((D 279 20 = 0 ∨ D 279 1 = 0) ∧ some (vI (-1)) = r ∧ D = D2) ∨ ((D 279 20 ≠ 0 ∧ D 279 1 ≠ 0) ∧ ∃ x, some (vI x) = r ∧ WR b 0 0 0 (w0M D) x D2)) := by
  refine MC.mk [vR 279, vL b, vN, vN, vN, vN, vN, vN, vN] (by decide) (Nat.le_of_ble_eq_true rfl) rfl (fun X Q hX hF hok hol => ?_)
  refine w_aload_n (i := 0) hX dX10_walk_0 rfl rfl rfl ?_
  refine w_getI (j := 20) hX cl9 fl_RX10_70_9 rfl (by decide) rfl dX10_walk_1 rfl ?_
  refine w_if_eq (tgt := 14) hX dX10_walk_4 rfl (by decide) (fun h4 => ?_) (fun h4 => ?_)
  · refine w_iconst hX dX10_walk_14 rfl (by decide) ?_
    exact e_i hX hF dX10_walk_15 (Or.inl ⟨by omega, rfl, rfl⟩)
  · refine w_aload_n (i := 0) hX dX10_walk_7 rfl rfl rfl ?_
    refine w_getI (j := 1) hX cl9 fl_RX10_83_9 rfl (by decide) rfl dX10_walk_8 rfl ?_
    refine w_if_ne (tgt := 16) hX dX10_walk_11 rfl (by decide) (fun h11 => ?_) (fun h11 => ?_)
    · refine w_iconst hX dX10_walk_16 rfl (by decide) ?_
      refine w_istore_n (i := 3) hX dX10_walk_17 rfl rfl (by decide) ?_
      dsimp only [st1X, st2X, klX_I, klX_L, klX_R, klX_S, klX_N]
      have zq_l := l_mclear hX hF b D (fun w1 w2 w3 w4 w5 w6 => t_mwalk hX hF b D hu J hJ (hj0 ⟨by omega, by omega⟩) (fun x D2 zq_w => Or.inr ⟨⟨by omega, by omega⟩, x, rfl, zq_w⟩) w1 w2 w3 w4 w5 w6) _ 0 vN vN vN vN vN (Nat.lt_succ_self _) (by decide) (by decide)
      rw [cl_0] at zq_l
      exact zq_l
    · refine w_iconst hX dX10_walk_14 rfl (by decide) ?_
      exact e_i hX hF dX10_walk_15 (Or.inl ⟨by omega, rfl, rfl⟩)
