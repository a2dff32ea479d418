/-! Walker.walked, CodeProof.walk -/
theorem cb_id {D : Dd} (h : D 275 7 < D 275 6) : cbD D = D := by
  unfold cbD
  cases (D 275 4).toNat with
  | zero => rfl
  | succ m => exact it_f (by omega)

set_option maxRecDepth 100000 in
set_option maxHeartbeats 4000000 in
theorem l_walked {X : Cx} {Q : State → Prop} {P : Option AV → Dd → Prop} (hX : GX X yX7_walked cX7_walked 4 (some .int) 5 0 0) (hF : FX X Q P) (b : Int) : ∀ (m : Nat) (t : Int) (D : Dd), (1000000 - t).toNat < m → 0 ≤ t → t ≤ 1000000 → WI D t → P (some (vI (wkF b (1000000 - t).toNat t D).1)) (wkF b (1000000 - t).toNat t D).2 → W0 X Q 24 [vR 275, vL b, vN, vI t] [] D := by
  intro m
  induction m with
  | zero =>
    intro t D hm h0 h1 hW hP
    exact absurd hm (Nat.not_lt_zero _)
  | succ m ih =>
    intro t D hm h0 h1 hW hP
    have zq_4 := hW.2.2.1
    have zq_8 := hW.2.2.2.2.2.1
    refine w_iload_n (i := 3) hX dX7_walked_24 rfl rfl rfl ?_
    refine w_ldc (x := 1000000) hX ki_RX7_42 dX7_walked_25 rfl (by decide) (by decide) ?_
    refine w_icmp_ge (tgt := 76) hX dX7_walked_27 rfl (by decide) (fun h27 => ?_) (fun h27 => ?_)
    · have zq_e : t = 1000000 := by omega
      subst zq_e
      have hP : P (some (vI 1000000)) D := hP
      refine w_ldc (x := 1000000) hX ki_RX7_42 dX7_walked_76 rfl (by decide) (by decide) ?_
      exact e_i hX hF dX7_walked_78 hP
    · have zq_e : (1000000 - t).toNat = (1000000 - (t + 1)).toNat + 1 := by omega
      rw [zq_e] at hP
      have hP : P (some (vI (itP (cbD D 275 7 < cbD D 275 6) (wkF b (1000000 - (t + 1)).toNat (t + 1) (tsD (cbD D) (atF (cbD D) (cbD D 275 5) (cbD D 275 7)) b)) (t, cbD D)).1)) (itP (cbD D 275 7 < cbD D 275 6) (wkF b (1000000 - (t + 1)).toNat (t + 1) (tsD (cbD D) (atF (cbD D) (cbD D 275 5) (cbD D 275 7)) b)) (t, cbD D)).2 := hP
      refine w_aload_n (i := 0) hX dX7_walked_30 rfl rfl rfl ?_
      refine w_getI (j := 7) hX cl6 fl_RX7_43_6 rfl (by decide) rfl dX7_walked_31 rfl ?_
      refine w_aload_n (i := 0) hX dX7_walked_34 rfl rfl rfl ?_
      refine w_getI (j := 6) hX cl6 fl_RX7_46_6 rfl (by decide) rfl dX7_walked_35 rfl ?_
      refine w_icmp_lt (tgt := 50) hX dX7_walked_38 rfl (by decide) (fun h38 => ?_) (fun h38 => ?_)
      · rw [cb_id h38, it_t h38] at hP
        obtain ⟨E, zq_E⟩ : ∃ E, E = D := ⟨_, rfl⟩
        rw [← zq_E] at hP
        have zq_W : WI E t := by rw [zq_E]; exact hW
        have zq_l : E 275 7 < E 275 6 := by rw [zq_E]; exact h38
        rw [← zq_E]
        refine w_aload_n (i := 0) hX dX7_walked_50 rfl rfl rfl ?_
        refine w_aload_n (i := 0) hX dX7_walked_51 rfl rfl rfl ?_
        refine w_getR (j := 0) hX cl6 fl_RX7_21_6 rfl (by decide) rfl rfl dX7_walked_52 rfl ?_
        refine w_aload_n (i := 0) hX dX7_walked_55 rfl rfl rfl ?_
        refine w_getI (j := 5) hX cl6 fl_RX7_53_6 rfl (by decide) rfl dX7_walked_56 rfl ?_
        refine w_aload_n (i := 0) hX dX7_walked_59 rfl rfl rfl ?_
        refine w_getI (j := 7) hX cl6 fl_RX7_43_6 rfl (by decide) rfl dX7_walked_60 rfl ?_
        refine c_V hX ml_RX7_56 cl0 dX7_walked_63 rfl (m_at E zq_W.1 (E 275 5) (E 275 7)) rfl rfl rfl (by decide) (Nat.le_of_ble_eq_true rfl) ?_
        rintro _ _ ⟨rfl, rfl⟩ -
        all_goals try dsimp only [Option.toList, List.cons_append, List.nil_append]
        refine w_lload_n (i := 1) hX dX7_walked_66 rfl rfl rfl ?_
        refine c_V hX ml_RX7_59 cl6 dX7_walked_67 rfl (m_takeStep E zq_W.1 _ (at_ins zq_W.1 _ _) b (by have zq_6 := zq_W.2.2.2.1; have zq_7 := zq_W.2.2.2.2.1; omega) (by have zq_9 := zq_W.2.2.2.2.2.1; omega) zq_W.2.2.2.2.2.2.1) rfl rfl rfl (by decide) (Nat.le_of_ble_eq_true rfl) ?_
        rintro _ _ ⟨rfl, rfl⟩ -
        all_goals try dsimp only [Option.toList, List.cons_append, List.nil_append]
        refine w_iinc hX dX7_walked_70 rfl rfl (by decide) (by omega) ?_
        dsimp only [st1X, st2X, klX_I, klX_L, klX_R, klX_S, klX_N]
        refine w_goto (tgt := 24) hX dX7_walked_73 (by decide) ?_
        exact ih (t + 1) _ (by omega) (by omega) (by omega) (zq_W.ts h0 zq_l) hP
      · refine w_aload_n (i := 0) hX dX7_walked_41 rfl rfl rfl ?_
        refine c_V hX ml_RX7_49 cl6 dX7_walked_42 rfl (m_comesBack D hW.1 zq_4.2) rfl rfl rfl (by decide) (Nat.le_of_ble_eq_true rfl) ?_
        rintro _ _ ⟨rfl, rfl⟩ -
        all_goals try dsimp only [Option.toList, List.cons_append, List.nil_append]
        refine w_if_ne (tgt := 50) hX dX7_walked_45 rfl (by decide) (fun h45 => ?_) (fun h45 => ?_)
        · rw [b2_ne] at h45
          rw [it_t h45] at hP
          obtain ⟨E, zq_E⟩ : ∃ E, E = cbD D := ⟨_, rfl⟩
          rw [← zq_E] at hP h45
          have zq_W : WI E t := by rw [zq_E]; exact hW.cb
          have zq_l : E 275 7 < E 275 6 := h45
          rw [← zq_E]
          refine w_aload_n (i := 0) hX dX7_walked_50 rfl rfl rfl ?_
          refine w_aload_n (i := 0) hX dX7_walked_51 rfl rfl rfl ?_
          refine w_getR (j := 0) hX cl6 fl_RX7_21_6 rfl (by decide) rfl rfl dX7_walked_52 rfl ?_
          refine w_aload_n (i := 0) hX dX7_walked_55 rfl rfl rfl ?_
          refine w_getI (j := 5) hX cl6 fl_RX7_53_6 rfl (by decide) rfl dX7_walked_56 rfl ?_
          refine w_aload_n (i := 0) hX dX7_walked_59 rfl rfl rfl ?_
          refine w_getI (j := 7) hX cl6 fl_RX7_43_6 rfl (by decide) rfl dX7_walked_60 rfl ?_
          refine c_V hX ml_RX7_56 cl0 dX7_walked_63 rfl (m_at E zq_W.1 (E 275 5) (E 275 7)) rfl rfl rfl (by decide) (Nat.le_of_ble_eq_true rfl) ?_
          rintro _ _ ⟨rfl, rfl⟩ -
          all_goals try dsimp only [Option.toList, List.cons_append, List.nil_append]
          refine w_lload_n (i := 1) hX dX7_walked_66 rfl rfl rfl ?_
          refine c_V hX ml_RX7_59 cl6 dX7_walked_67 rfl (m_takeStep E zq_W.1 _ (at_ins zq_W.1 _ _) b (by have zq_6 := zq_W.2.2.2.1; have zq_7 := zq_W.2.2.2.2.1; omega) (by have zq_9 := zq_W.2.2.2.2.2.1; omega) zq_W.2.2.2.2.2.2.1) rfl rfl rfl (by decide) (Nat.le_of_ble_eq_true rfl) ?_
          rintro _ _ ⟨rfl, rfl⟩ -
          all_goals try dsimp only [Option.toList, List.cons_append, List.nil_append]
          refine w_iinc hX dX7_walked_70 rfl rfl (by decide) (by omega) ?_
          dsimp only [st1X, st2X, klX_I, klX_L, klX_R, klX_S, klX_N]
          refine w_goto (tgt := 24) hX dX7_walked_73 (by decide) ?_
          exact ih (t + 1) _ (by omega) (by omega) (by omega) (zq_W.ts h0 zq_l) hP
        · rw [b2_nn] at h45
          rw [it_f h45] at hP
          refine w_iload_n (i := 3) hX dX7_walked_48 rfl rfl rfl ?_
          exact e_i hX hF dX7_walked_49 hP

/-- the walk begins -/
noncomputable def w0D (D : Dd) : Dd := wgD (upD (upD D 275 4 0) 275 8 0) (D 1 7 - 1) 0

set_option maxRecDepth 100000 in
set_option maxHeartbeats 4000000 in
theorem m_walked (D : Dd) (hI : InC D) (b : Int) (hW : WI (w0D D) 0) : MC 5 yX7_walked cX7_walked 4 (some .int) [vR 275, vL b] D (Is (some (vI (wkF b 1000000 0 (w0D D)).1)) (wkF b 1000000 0 (w0D D)).2) := by
  refine MC.mk [vR 275, vL b, vN, vN] (by decide) (Nat.le_of_ble_eq_true rfl) rfl (fun X Q hX hF hok hol => ?_)
  have zq_s : smC D (upD (upD D 275 4 0) 275 8 0) := ((smC.rf D).up (by decide)).up (by decide)
  refine w_aload_n (i := 0) hX dX7_walked_0 rfl rfl rfl ?_
  refine w_iconst hX dX7_walked_1 rfl (by decide) ?_
  refine w_putI (j := 4) hX cl6 fl_RX7_25_6 rfl (by decide) rfl rfl (Or.inl rfl) dX7_walked_2 rfl ?_
  refine w_aload_n (i := 0) hX dX7_walked_5 rfl rfl rfl ?_
  refine w_iconst hX dX7_walked_6 rfl (by decide) ?_
  refine w_putI (j := 8) hX cl6 fl_RX7_29_6 rfl (by decide) rfl rfl (Or.inl rfl) dX7_walked_7 rfl ?_
  refine w_aload_n (i := 0) hX dX7_walked_10 rfl rfl rfl ?_
  refine w_aload_n (i := 0) hX dX7_walked_11 rfl rfl rfl ?_
  refine w_getR (j := 0) hX cl6 fl_RX7_21_6 rfl (by decide) rfl rfl dX7_walked_12 rfl ?_
  refine c_V hX ml_RX7_32 cl0 dX7_walked_15 rfl (m_program _ (in_sm zq_s hI)) rfl rfl rfl (by decide) (Nat.le_of_ble_eq_true rfl) ?_
  rintro _ _ ⟨rfl, rfl⟩ -
  rw [zq_s 1 7 (by decide)]
  all_goals try dsimp only [Option.toList, List.cons_append, List.nil_append]
  refine w_iconst hX dX7_walked_18 rfl (by decide) ?_
  refine c_V hX ml_RX7_38 cl6 dX7_walked_19 rfl (m_goTo _ (in_sm zq_s hI) _ _) rfl rfl rfl (by decide) (Nat.le_of_ble_eq_true rfl) ?_
  rintro _ _ ⟨rfl, rfl⟩ -
  all_goals try dsimp only [Option.toList, List.cons_append, List.nil_append]
  refine w_iconst hX dX7_walked_22 rfl (by decide) ?_
  refine w_istore_n (i := 3) hX dX7_walked_23 rfl rfl (by decide) ?_
  dsimp only [st1X, st2X, klX_I, klX_L, klX_R, klX_S, klX_N]
  exact l_walked hX hF b _ 0 (w0D D) (Nat.lt_succ_self _) (by omega) (by omega) hW ⟨rfl, rfl⟩

set_option maxRecDepth 100000 in
set_option maxHeartbeats 4000000 in
theorem f_walk (D : Dd) (hI : InC D) (b : Int) (hW : D 264 5 ≠ 0 ∧ 0 ≤ D 1 7 - 1 → WI (w0D D) 0) : MC 6 yX9_walk cX9_walk 3 (some .int) [vR 0, vL b] D (fun r D2 => (¬ (D 264 5 ≠ 0 ∧ 0 ≤ D 1 7 - 1) ∧ some (vI (-1)) = r ∧ D = D2) ∨ ((D 264 5 ≠ 0 ∧ 0 ≤ D 1 7 - 1) ∧ some (vI (wkF b 1000000 0 (w0D D)).1) = r ∧ (wkF b 1000000 0 (w0D D)).2 = D2)) := by
  refine MC.mk [vR 0, vL b, vN] (by decide) (Nat.le_of_ble_eq_true rfl) rfl (fun X Q hX hF hok hol => ?_)
  refine w_aload_n (i := 0) hX dX9_walk_0 rfl rfl rfl ?_
  refine w_getR (j := 1) hX cl8 fl_RX9_21_8 rfl (by decide) rfl rfl dX9_walk_1 rfl ?_
  refine w_aload_n (i := 0) hX dX9_walk_4 rfl rfl rfl ?_
  refine w_getR (j := 0) hX cl8 fl_RX9_10_8 rfl (by decide) rfl rfl dX9_walk_5 rfl ?_
  refine c_V hX ml_RX9_103 cl0 dX9_walk_8 rfl (m_program D hI) rfl rfl rfl (by decide) (Nat.le_of_ble_eq_true rfl) ?_
  rintro _ _ ⟨rfl, rfl⟩ -
  all_goals try dsimp only [Option.toList, List.cons_append, List.nil_append]
  refine c_V hX ml_RX9_81 cl4 dX9_walk_11 rfl (m_accepts D (D 1 7 - 1)) rfl rfl rfl (by decide) (Nat.le_of_ble_eq_true rfl) ?_
  rintro _ _ ⟨rfl, rfl⟩ -
  all_goals try dsimp only [Option.toList, List.cons_append, List.nil_append]
  refine w_if_eq (tgt := 28) hX dX9_walk_14 rfl (by decide) (fun h14 => ?_) (fun h14 => ?_)
  · rw [b2_0] at h14
    refine w_iconst hX dX9_walk_28 rfl (by decide) ?_
    exact e_i hX hF dX9_walk_29 (by first | exact Or.inr ⟨⟨h14.1, h14.2.1⟩, rfl, rfl⟩ | exact Or.inl ⟨fun zq_q => h14 ⟨zq_q.1, zq_q.2, by omega⟩, rfl, rfl⟩)
  · rw [b2_n] at h14
    refine w_aload_n (i := 0) hX dX9_walk_17 rfl rfl rfl ?_
    refine w_getR (j := 2) hX cl8 fl_RX9_28_8 rfl (by decide) rfl rfl dX9_walk_18 rfl ?_
    refine w_lload_n (i := 1) hX dX9_walk_21 rfl rfl rfl ?_
    refine c_V hX ml_RX9_106 cl6 dX9_walk_22 rfl (m_walked D hI b (hW ⟨h14.1, h14.2.1⟩)) rfl rfl rfl (by decide) (Nat.le_of_ble_eq_true rfl) ?_
    rintro _ _ ⟨rfl, rfl⟩ -
    all_goals try dsimp only [Option.toList, List.cons_append, List.nil_append]
    refine w_goto (tgt := 29) hX dX9_walk_25 (by decide) ?_
    exact e_i hX hF dX9_walk_29 (by first | exact Or.inr ⟨⟨h14.1, h14.2.1⟩, rfl, rfl⟩ | exact Or.inl ⟨fun zq_q => h14 ⟨zq_q.1, zq_q.2, by omega⟩, rfl, rfl⟩)
