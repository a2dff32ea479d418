/-! The reference: isWrongLoop -/
abbrev HS (D : Dd) (k o n : Int) : Prop := (0 ≤ o ∧ o < D 279 11) ∧ (D 283 (D 279 10 + o).toNat) = n ∧ (D 284 (D 279 10 + o).toNat) = (D 284 (D 279 10 + k).toNat)
def exM (D : Dd) (q : Int → Prop) : Prop := ∃ x : Int, (0 : Int) ≤ x ∧ x < D 279 11 ∧ q x
/-- fault 7 -/
def lpM (D : Dd) (k : Int) : Prop := ((D 283 (D 279 10 + k).toNat) = 12 ∧ (¬ HS D k (k + 1) 13 ∨ exM D (wcM D k))) ∨ ((D 283 (D 279 10 + k).toNat) = 13 ∧ ((¬ HS D k (k - 1) 12 ∨ (D 283 (D 279 10 + ((D 285 (D 279 10 + k).toNat) - 1)).toNat) ≠ 14 ∨ (D 284 (D 279 10 + ((D 285 (D 279 10 + k).toNat) - 1)).toNat) ≠ k) ∨ exM D (wnM D k))) ∨ ((D 283 (D 279 10 + k).toNat) = 14 ∧ ((D 283 (D 279 10 + ((D 284 (D 279 10 + k).toNat))).toNat) ≠ 13 ∨ (D 285 (D 279 10 + ((D 284 (D 279 10 + k).toNat))).toNat) ≠ k + 1)) ∨ (((D 283 (D 279 10 + k).toNat) = 10 ∨ (D 283 (D 279 10 + k).toNat) = 11) ∧ exM D (giM D k))
theorem lq_12 {D : Dd} {k : Int} (h : (D 283 (D 279 10 + k).toNat) = 12) : lpM D k ↔ (¬ HS D k (k + 1) 13 ∨ exM D (wcM D k)) := by
  unfold lpM
  constructor
  · rintro (q | q | q | q)
    · exact q.2
    · exact absurd q.1 (by omega)
    · exact absurd q.1 (by omega)
    · exact absurd q.1 (by omega)
  · exact fun q => Or.inl ⟨h, q⟩
theorem lq_13 {D : Dd} {k : Int} (h : (D 283 (D 279 10 + k).toNat) = 13) : lpM D k ↔ ((¬ HS D k (k - 1) 12 ∨ (D 283 (D 279 10 + ((D 285 (D 279 10 + k).toNat) - 1)).toNat) ≠ 14 ∨ (D 284 (D 279 10 + ((D 285 (D 279 10 + k).toNat) - 1)).toNat) ≠ k) ∨ exM D (wnM D k)) := by
  unfold lpM
  constructor
  · rintro (q | q | q | q)
    · exact absurd q.1 (by omega)
    · exact q.2
    · exact absurd q.1 (by omega)
    · exact absurd q.1 (by omega)
  · exact fun q => Or.inr (Or.inl ⟨h, q⟩)
theorem lq_14 {D : Dd} {k : Int} (h : (D 283 (D 279 10 + k).toNat) = 14) : lpM D k ↔ ((D 283 (D 279 10 + ((D 284 (D 279 10 + k).toNat))).toNat) ≠ 13 ∨ (D 285 (D 279 10 + ((D 284 (D 279 10 + k).toNat))).toNat) ≠ k + 1) := by
  unfold lpM
  constructor
  · rintro (q | q | q | q)
    · exact absurd q.1 (by omega)
    · exact absurd q.1 (by omega)
    · exact q.2
    · exact absurd q.1 (by omega)
  · exact fun q => Or.inr (Or.inr (Or.inl ⟨h, q⟩))
theorem lq_10 {D : Dd} {k : Int} (h : (D 283 (D 279 10 + k).toNat) = 10 ∨ (D 283 (D 279 10 + k).toNat) = 11) : lpM D k ↔ exM D (giM D k) := by
  unfold lpM
  constructor
  · rintro (q | q | q | q)
    · exact absurd q.1 (by omega)
    · exact absurd q.1 (by omega)
    · exact absurd q.1 (by omega)
    · exact q.2
  · exact fun q => Or.inr (Or.inr (Or.inr ⟨h, q⟩))
theorem lp_no {D : Dd} {k : Int} (h : ¬ ((D 283 (D 279 10 + k).toNat) = 10 ∨ (D 283 (D 279 10 + k).toNat) = 11 ∨ (D 283 (D 279 10 + k).toNat) = 12 ∨ (D 283 (D 279 10 + k).toNat) = 13 ∨ (D 283 (D 279 10 + k).toNat) = 14)) : ¬ lpM D k := by
  unfold lpM
  rintro (q | q | q | q)
  · exact absurd q.1 (by omega)
  · exact absurd q.1 (by omega)
  · exact absurd q.1 (by omega)
  · exact absurd q.1 (by omega)
theorem f_or {p : Prop} : (False ∨ p) ↔ p := ⟨fun h => h.resolve_left id, Or.inr⟩
theorem b2_w {w : Int} (hw : w = 0 ∨ w = 1) {p : Prop} (h : w = 1 ↔ p) : b2 p = w := by
  rcases hw with rfl | rfl
  · exact b2_f (fun q => absurd (h.mpr q) (by decide))
  · exact b2_t (h.mp rfl)

set_option maxRecDepth 100000 in
set_option maxHeartbeats 4000000 in
theorem r_isWrongLoop (D : Dd) (hF0 : FM D) (hV : V3 D) (k : Int) (hk : 0 ≤ k ∧ k < D 279 11) (hg : ¬ gwM D k ((D 283 (D 279 10 + k).toNat)) ((D 284 (D 279 10 + k).toNat)) ((D 285 (D 279 10 + k).toNat))) : MC 3 yX10_isWrongLoop cX10_isWrongLoop 8 (some .boolean) [vR 279, vI k] D (Is (some (vI (b2 (lpM D k)))) D) := by
  refine MC.mk [vR 279, vI k, vN, vN, vN, vN, vN, vN] (by decide) (Nat.le_of_ble_eq_true rfl) rfl (fun X Q hX hF hok hol => ?_)
  have zq_F := hF0
  unfold FM at hF0
  unfold gwM at hg
  refine w_iconst hX dX10_isWrongLoop_0 rfl (by decide) ?_
  refine w_istore_n (i := 2) hX dX10_isWrongLoop_1 rfl rfl (by decide) ?_
  dsimp only [st1X, st2X, klX_I, klX_L, klX_R, klX_S, klX_N]
  refine w_aload_n (i := 0) hX dX10_isWrongLoop_2 rfl rfl rfl ?_
  refine w_iload_n (i := 1) hX dX10_isWrongLoop_3 rfl rfl rfl ?_
  refine c_V hX ml_RX10_128 cl9 dX10_isWrongLoop_4 rfl (r_numberAt D zq_F k hk) rfl rfl rfl (by decide) (Nat.le_of_ble_eq_true rfl) ?_
  rintro _ _ ⟨rfl, rfl⟩ -
  all_goals try dsimp only [Option.toList, List.cons_append, List.nil_append]
  refine w_nameI (fun sw7 hsw7 => ?_)
  by_cases g7_0 : sw7 = 10 ∨ sw7 = 11
  · refine w_tsw (tgt := 296) hX dX10_isWrongLoop_7 rfl (by rcases g7_0 with w | w <;> rw [w] <;> decide) ?_
    refine w_aload_n (i := 0) hX dX10_isWrongLoop_296 rfl rfl rfl ?_
    refine w_getR (j := 7) hX cl9 fl_RX10_22_9 rfl (by decide) rfl rfl dX10_isWrongLoop_297 rfl ?_
    refine w_aload_n (i := 0) hX dX10_isWrongLoop_300 rfl rfl rfl ?_
    refine w_getI (j := 10) hX cl9 fl_RX10_125_9 rfl (by decide) rfl dX10_isWrongLoop_301 rfl ?_
    refine w_iload_n (i := 1) hX dX10_isWrongLoop_304 rfl rfl rfl ?_
    refine w_iadd hX dX10_isWrongLoop_305 rfl (by omega) ?_
    refine w_iald hX rfl (by omega) (by omega) dX10_isWrongLoop_306 rfl ?_
    refine w_istore hX dX10_isWrongLoop_307 rfl (by decide) ?_
    dsimp only [st1X, st2X, klX_I, klX_L, klX_R, klX_S, klX_N]
    refine w_iconst hX dX10_isWrongLoop_309 rfl (by decide) ?_
    refine w_istore hX dX10_isWrongLoop_310 rfl (by decide) ?_
    dsimp only [st1X, st2X, klX_I, klX_L, klX_R, klX_S, klX_N]
    refine l_wl10 hX hF D zq_F hV k hk (by omega) (False) (fun w zq_w zq_r => ⟨?_, rfl⟩) _ 0 _ _ _ _ (Nat.lt_succ_self _) (by omega) (by omega) (by omega) ⟨fun zq_q => ?_, fun zq_q => ?_⟩
    · rw [b2_w zq_w (zq_r.trans (f_or.trans (lq_10 (by omega)).symm))]
    · first | exact absurd zq_q (by decide) | exact Or.inl (by omega)
    · first | rfl | (exfalso; rcases zq_q with zq_q | ⟨x, zq_a, zq_b, _⟩; omega; omega)
  by_cases g7_1 : sw7 = 12
  · refine w_tsw (tgt := 40) hX dX10_isWrongLoop_7 rfl (by rw [g7_1]; decide) ?_
    refine w_aload_n (i := 0) hX dX10_isWrongLoop_40 rfl rfl rfl ?_
    refine w_iload_n (i := 1) hX dX10_isWrongLoop_41 rfl rfl rfl ?_
    refine w_iload_n (i := 1) hX dX10_isWrongLoop_42 rfl rfl rfl ?_
    refine w_iconst hX dX10_isWrongLoop_43 rfl (by decide) ?_
    refine w_iadd hX dX10_isWrongLoop_44 rfl (by omega) ?_
    refine w_bipush hX dX10_isWrongLoop_45 rfl (by decide) ?_
    refine c_V hX ml_RX10_153 cl9 dX10_isWrongLoop_47 rfl (r_hasSame D zq_F k (k + 1) 13 hk) rfl rfl rfl (by decide) (Nat.le_of_ble_eq_true rfl) ?_
    rintro _ _ ⟨rfl, rfl⟩ -
    all_goals try dsimp only [Option.toList, List.cons_append, List.nil_append]
    refine w_if_ne (tgt := 57) hX dX10_isWrongLoop_50 rfl (by decide) (fun h50 => ?_) (fun h50 => ?_)
    · rw [b2_ne] at h50
      refine w_iconst hX dX10_isWrongLoop_57 rfl (by decide) ?_
      refine w_istore_n (i := 2) hX dX10_isWrongLoop_58 rfl rfl (by decide) ?_
      dsimp only [st1X, st2X, klX_I, klX_L, klX_R, klX_S, klX_N]
      refine w_iconst hX dX10_isWrongLoop_59 rfl (by decide) ?_
      refine w_istore_n (i := 3) hX dX10_isWrongLoop_60 rfl rfl (by decide) ?_
      dsimp only [st1X, st2X, klX_I, klX_L, klX_R, klX_S, klX_N]
      refine l_wl12 hX hF D zq_F hV k hk (¬ HS D k (k + 1) 13) (fun w zq_w zq_r => ⟨?_, rfl⟩) _ 0 _ _ _ _ _ (Nat.lt_succ_self _) (by omega) (by omega) (by omega) ⟨fun zq_q => ?_, fun zq_q => ?_⟩
      · rw [b2_w zq_w (zq_r.trans (lq_12 (by omega)).symm)]
      · first | exact absurd zq_q (by decide) | exact Or.inl (by omega)
      · first | rfl | (exfalso; rcases zq_q with zq_q | ⟨x, zq_a, zq_b, _⟩; omega; omega)
    · rw [b2_nn] at h50
      refine w_iconst hX dX10_isWrongLoop_53 rfl (by decide) ?_
      refine w_goto (tgt := 58) hX dX10_isWrongLoop_54 (by decide) ?_
      refine w_istore_n (i := 2) hX dX10_isWrongLoop_58 rfl rfl (by decide) ?_
      dsimp only [st1X, st2X, klX_I, klX_L, klX_R, klX_S, klX_N]
      refine w_iconst hX dX10_isWrongLoop_59 rfl (by decide) ?_
      refine w_istore_n (i := 3) hX dX10_isWrongLoop_60 rfl rfl (by decide) ?_
      dsimp only [st1X, st2X, klX_I, klX_L, klX_R, klX_S, klX_N]
      refine l_wl12 hX hF D zq_F hV k hk (¬ HS D k (k + 1) 13) (fun w zq_w zq_r => ⟨?_, rfl⟩) _ 0 _ _ _ _ _ (Nat.lt_succ_self _) (by omega) (by omega) (by omega) ⟨fun zq_q => ?_, fun zq_q => ?_⟩
      · rw [b2_w zq_w (zq_r.trans (lq_12 (by omega)).symm)]
      · first | exact absurd zq_q (by decide) | exact Or.inl (by omega)
      · first | rfl | (exfalso; rcases zq_q with zq_q | ⟨x, zq_a, zq_b, _⟩; omega; omega)
  by_cases g7_2 : sw7 = 13
  · refine w_tsw (tgt := 131) hX dX10_isWrongLoop_7 rfl (by rw [g7_2]; decide) ?_
    refine w_aload_n (i := 0) hX dX10_isWrongLoop_131 rfl rfl rfl ?_
    refine w_iload_n (i := 1) hX dX10_isWrongLoop_132 rfl rfl rfl ?_
    refine c_V hX ml_RX10_150 cl9 dX10_isWrongLoop_133 rfl (r_lastOf D zq_F k hk (by omega)) rfl rfl rfl (by decide) (Nat.le_of_ble_eq_true rfl) ?_
    rintro _ _ ⟨rfl, rfl⟩ -
    all_goals try dsimp only [Option.toList, List.cons_append, List.nil_append]
    refine w_istore_n (i := 3) hX dX10_isWrongLoop_136 rfl rfl (by decide) ?_
    dsimp only [st1X, st2X, klX_I, klX_L, klX_R, klX_S, klX_N]
    refine w_aload_n (i := 0) hX dX10_isWrongLoop_137 rfl rfl rfl ?_
    refine w_iload_n (i := 1) hX dX10_isWrongLoop_138 rfl rfl rfl ?_
    refine w_iload_n (i := 1) hX dX10_isWrongLoop_139 rfl rfl rfl ?_
    refine w_iconst hX dX10_isWrongLoop_140 rfl (by decide) ?_
    refine w_isub hX dX10_isWrongLoop_141 rfl (by omega) ?_
    refine w_bipush hX dX10_isWrongLoop_142 rfl (by decide) ?_
    refine c_V hX ml_RX10_153 cl9 dX10_isWrongLoop_144 rfl (r_hasSame D zq_F k (k - 1) 12 hk) rfl rfl rfl (by decide) (Nat.le_of_ble_eq_true rfl) ?_
    rintro _ _ ⟨rfl, rfl⟩ -
    all_goals try dsimp only [Option.toList, List.cons_append, List.nil_append]
    refine w_if_eq (tgt := 175) hX dX10_isWrongLoop_147 rfl (by decide) (fun h147 => ?_) (fun h147 => ?_)
    · rw [b2_0] at h147
      refine w_iconst hX dX10_isWrongLoop_175 rfl (by decide) ?_
      refine w_goto (tgt := 180) hX dX10_isWrongLoop_176 (by decide) ?_
      refine w_istore_n (i := 2) hX dX10_isWrongLoop_180 rfl rfl (by decide) ?_
      dsimp only [st1X, st2X, klX_I, klX_L, klX_R, klX_S, klX_N]
      refine w_iconst hX dX10_isWrongLoop_181 rfl (by decide) ?_
      refine w_istore hX dX10_isWrongLoop_182 rfl (by decide) ?_
      dsimp only [st1X, st2X, klX_I, klX_L, klX_R, klX_S, klX_N]
      refine l_wl13 hX hF D zq_F hV k hk _ rfl (¬ HS D k (k - 1) 12 ∨ (D 283 (D 279 10 + ((D 285 (D 279 10 + k).toNat) - 1)).toNat) ≠ 14 ∨ (D 284 (D 279 10 + ((D 285 (D 279 10 + k).toNat) - 1)).toNat) ≠ k) (fun w zq_w zq_r => ⟨?_, rfl⟩) _ 0 _ _ _ _ (Nat.lt_succ_self _) (by omega) (by omega) (by omega) ⟨fun zq_q => ?_, fun zq_q => ?_⟩
      · rw [b2_w zq_w (zq_r.trans (lq_13 (by omega)).symm)]
      · first | exact absurd zq_q (by decide) | exact Or.inl (by omega)
      · first | rfl | (exfalso; rcases zq_q with zq_q | ⟨x, zq_a, zq_b, _⟩; omega; omega)
    · rw [b2_n] at h147
      refine w_aload_n (i := 0) hX dX10_isWrongLoop_150 rfl rfl rfl ?_
      refine w_iload_n (i := 3) hX dX10_isWrongLoop_151 rfl rfl rfl ?_
      refine c_V hX ml_RX10_128 cl9 dX10_isWrongLoop_152 rfl (r_numberAt D zq_F ((D 285 (D 279 10 + k).toNat) - 1) (by omega)) rfl rfl rfl (by decide) (Nat.le_of_ble_eq_true rfl) ?_
      rintro _ _ ⟨rfl, rfl⟩ -
      all_goals try dsimp only [Option.toList, List.cons_append, List.nil_append]
      refine w_bipush hX dX10_isWrongLoop_155 rfl (by decide) ?_
      refine w_icmp_ne (tgt := 175) hX dX10_isWrongLoop_157 rfl (by decide) (fun h157 => ?_) (fun h157 => ?_)
      · refine w_iconst hX dX10_isWrongLoop_175 rfl (by decide) ?_
        refine w_goto (tgt := 180) hX dX10_isWrongLoop_176 (by decide) ?_
        refine w_istore_n (i := 2) hX dX10_isWrongLoop_180 rfl rfl (by decide) ?_
        dsimp only [st1X, st2X, klX_I, klX_L, klX_R, klX_S, klX_N]
        refine w_iconst hX dX10_isWrongLoop_181 rfl (by decide) ?_
        refine w_istore hX dX10_isWrongLoop_182 rfl (by decide) ?_
        dsimp only [st1X, st2X, klX_I, klX_L, klX_R, klX_S, klX_N]
        refine l_wl13 hX hF D zq_F hV k hk _ rfl (¬ HS D k (k - 1) 12 ∨ (D 283 (D 279 10 + ((D 285 (D 279 10 + k).toNat) - 1)).toNat) ≠ 14 ∨ (D 284 (D 279 10 + ((D 285 (D 279 10 + k).toNat) - 1)).toNat) ≠ k) (fun w zq_w zq_r => ⟨?_, rfl⟩) _ 0 _ _ _ _ (Nat.lt_succ_self _) (by omega) (by omega) (by omega) ⟨fun zq_q => ?_, fun zq_q => ?_⟩
        · rw [b2_w zq_w (zq_r.trans (lq_13 (by omega)).symm)]
        · first | exact absurd zq_q (by decide) | exact Or.inl (by omega)
        · first | rfl | (exfalso; rcases zq_q with zq_q | ⟨x, zq_a, zq_b, _⟩; omega; omega)
      · refine w_aload_n (i := 0) hX dX10_isWrongLoop_160 rfl rfl rfl ?_
        refine w_getR (j := 7) hX cl9 fl_RX10_22_9 rfl (by decide) rfl rfl dX10_isWrongLoop_161 rfl ?_
        refine w_aload_n (i := 0) hX dX10_isWrongLoop_164 rfl rfl rfl ?_
        refine w_getI (j := 10) hX cl9 fl_RX10_125_9 rfl (by decide) rfl dX10_isWrongLoop_165 rfl ?_
        refine w_iload_n (i := 3) hX dX10_isWrongLoop_168 rfl rfl rfl ?_
        refine w_iadd hX dX10_isWrongLoop_169 rfl (by omega) ?_
        refine w_iald hX rfl (by omega) (by omega) dX10_isWrongLoop_170 rfl ?_
        refine w_iload_n (i := 1) hX dX10_isWrongLoop_171 rfl rfl rfl ?_
        refine w_icmp_eq (tgt := 179) hX dX10_isWrongLoop_172 rfl (by decide) (fun h172 => ?_) (fun h172 => ?_)
        · refine w_iconst hX dX10_isWrongLoop_179 rfl (by decide) ?_
          refine w_istore_n (i := 2) hX dX10_isWrongLoop_180 rfl rfl (by decide) ?_
          dsimp only [st1X, st2X, klX_I, klX_L, klX_R, klX_S, klX_N]
          refine w_iconst hX dX10_isWrongLoop_181 rfl (by decide) ?_
          refine w_istore hX dX10_isWrongLoop_182 rfl (by decide) ?_
          dsimp only [st1X, st2X, klX_I, klX_L, klX_R, klX_S, klX_N]
          refine l_wl13 hX hF D zq_F hV k hk _ rfl (¬ HS D k (k - 1) 12 ∨ (D 283 (D 279 10 + ((D 285 (D 279 10 + k).toNat) - 1)).toNat) ≠ 14 ∨ (D 284 (D 279 10 + ((D 285 (D 279 10 + k).toNat) - 1)).toNat) ≠ k) (fun w zq_w zq_r => ⟨?_, rfl⟩) _ 0 _ _ _ _ (Nat.lt_succ_self _) (by omega) (by omega) (by omega) ⟨fun zq_q => ?_, fun zq_q => ?_⟩
          · rw [b2_w zq_w (zq_r.trans (lq_13 (by omega)).symm)]
          · first | exact absurd zq_q (by decide) | exact Or.inl (by omega)
          · first | rfl | (exfalso; rcases zq_q with zq_q | ⟨x, zq_a, zq_b, _⟩; omega; omega)
        · refine w_iconst hX dX10_isWrongLoop_175 rfl (by decide) ?_
          refine w_goto (tgt := 180) hX dX10_isWrongLoop_176 (by decide) ?_
          refine w_istore_n (i := 2) hX dX10_isWrongLoop_180 rfl rfl (by decide) ?_
          dsimp only [st1X, st2X, klX_I, klX_L, klX_R, klX_S, klX_N]
          refine w_iconst hX dX10_isWrongLoop_181 rfl (by decide) ?_
          refine w_istore hX dX10_isWrongLoop_182 rfl (by decide) ?_
          dsimp only [st1X, st2X, klX_I, klX_L, klX_R, klX_S, klX_N]
          refine l_wl13 hX hF D zq_F hV k hk _ rfl (¬ HS D k (k - 1) 12 ∨ (D 283 (D 279 10 + ((D 285 (D 279 10 + k).toNat) - 1)).toNat) ≠ 14 ∨ (D 284 (D 279 10 + ((D 285 (D 279 10 + k).toNat) - 1)).toNat) ≠ k) (fun w zq_w zq_r => ⟨?_, rfl⟩) _ 0 _ _ _ _ (Nat.lt_succ_self _) (by omega) (by omega) (by omega) ⟨fun zq_q => ?_, fun zq_q => ?_⟩
          · rw [b2_w zq_w (zq_r.trans (lq_13 (by omega)).symm)]
          · first | exact absurd zq_q (by decide) | exact Or.inl (by omega)
          · first | rfl | (exfalso; rcases zq_q with zq_q | ⟨x, zq_a, zq_b, _⟩; omega; omega)
  by_cases g7_3 : sw7 = 14
  · refine w_tsw (tgt := 248) hX dX10_isWrongLoop_7 rfl (by rw [g7_3]; decide) ?_
    refine w_aload_n (i := 0) hX dX10_isWrongLoop_248 rfl rfl rfl ?_
    refine w_getR (j := 7) hX cl9 fl_RX10_22_9 rfl (by decide) rfl rfl dX10_isWrongLoop_249 rfl ?_
    refine w_aload_n (i := 0) hX dX10_isWrongLoop_252 rfl rfl rfl ?_
    refine w_getI (j := 10) hX cl9 fl_RX10_125_9 rfl (by decide) rfl dX10_isWrongLoop_253 rfl ?_
    refine w_iload_n (i := 1) hX dX10_isWrongLoop_256 rfl rfl rfl ?_
    refine w_iadd hX dX10_isWrongLoop_257 rfl (by omega) ?_
    refine w_iald hX rfl (by omega) (by omega) dX10_isWrongLoop_258 rfl ?_
    refine w_istore hX dX10_isWrongLoop_259 rfl (by decide) ?_
    dsimp only [st1X, st2X, klX_I, klX_L, klX_R, klX_S, klX_N]
    refine w_aload_n (i := 0) hX dX10_isWrongLoop_261 rfl rfl rfl ?_
    refine w_iload hX dX10_isWrongLoop_262 rfl rfl ?_
    refine c_V hX ml_RX10_128 cl9 dX10_isWrongLoop_264 rfl (r_numberAt D zq_F ((D 284 (D 279 10 + k).toNat)) (by omega)) rfl rfl rfl (by decide) (Nat.le_of_ble_eq_true rfl) ?_
    rintro _ _ ⟨rfl, rfl⟩ -
    all_goals try dsimp only [Option.toList, List.cons_append, List.nil_append]
    refine w_bipush hX dX10_isWrongLoop_267 rfl (by decide) ?_
    refine w_icmp_ne (tgt := 290) hX dX10_isWrongLoop_269 rfl (by decide) (fun h269 => ?_) (fun h269 => ?_)
    · refine w_iconst hX dX10_isWrongLoop_290 rfl (by decide) ?_
      refine w_goto (tgt := 295) hX dX10_isWrongLoop_291 (by decide) ?_
      exact e_z hX hF dX10_isWrongLoop_295 (by decide) ⟨by rw [propext (lq_14 (by omega))]; first | rw [b2_t (by omega)] | rw [b2_f (by omega)], rfl⟩
    · refine w_aload_n (i := 0) hX dX10_isWrongLoop_272 rfl rfl rfl ?_
      refine w_getR (j := 8) hX cl9 fl_RX10_25_9 rfl (by decide) rfl rfl dX10_isWrongLoop_273 rfl ?_
      refine w_aload_n (i := 0) hX dX10_isWrongLoop_276 rfl rfl rfl ?_
      refine w_getI (j := 10) hX cl9 fl_RX10_125_9 rfl (by decide) rfl dX10_isWrongLoop_277 rfl ?_
      refine w_iload hX dX10_isWrongLoop_280 rfl rfl ?_
      refine w_iadd hX dX10_isWrongLoop_282 rfl (by omega) ?_
      refine w_iald hX rfl (by omega) (by omega) dX10_isWrongLoop_283 rfl ?_
      refine w_iload_n (i := 1) hX dX10_isWrongLoop_284 rfl rfl rfl ?_
      refine w_iconst hX dX10_isWrongLoop_285 rfl (by decide) ?_
      refine w_iadd hX dX10_isWrongLoop_286 rfl (by omega) ?_
      refine w_icmp_eq (tgt := 294) hX dX10_isWrongLoop_287 rfl (by decide) (fun h287 => ?_) (fun h287 => ?_)
      · refine w_iconst hX dX10_isWrongLoop_294 rfl (by decide) ?_
        exact e_z hX hF dX10_isWrongLoop_295 (by decide) ⟨by rw [propext (lq_14 (by omega))]; first | rw [b2_t (by omega)] | rw [b2_f (by omega)], rfl⟩
      · refine w_iconst hX dX10_isWrongLoop_290 rfl (by decide) ?_
        refine w_goto (tgt := 295) hX dX10_isWrongLoop_291 (by decide) ?_
        exact e_z hX hF dX10_isWrongLoop_295 (by decide) ⟨by rw [propext (lq_14 (by omega))]; first | rw [b2_t (by omega)] | rw [b2_f (by omega)], rfl⟩
  refine w_tsw (tgt := 390) hX dX10_isWrongLoop_7 rfl (by rw [sw_dflt [10, 11, 12, 13, 14] (by decide) (by simp only [List.mem_cons, List.not_mem_nil, or_false]; omega)]; decide) ?_
  refine w_iconst hX dX10_isWrongLoop_390 rfl (by decide) ?_
  exact e_z hX hF dX10_isWrongLoop_391 (by decide) ⟨by rw [b2_f (lp_no (by omega))], rfl⟩
