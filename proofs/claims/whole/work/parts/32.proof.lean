/-! Proof: places; the passes over a unit -/
def InF (D : Dd) : Prop := ∀ u : Nat, (u : Int) < D 1 7 → (-1 ≤ D 7 u ∧ D 7 u ≤ 4095) ∧ (0 ≤ D 6 u ∧ D 6 u ≤ 4096)
theorem InF.p {D : Dd} (h : InF D) (u : Int) : -1 ≤ plF D u ∧ plF D u ≤ 4095 := by
  unfold plF; split
  · exact (h u.toNat (by omega)).1
  · omega
theorem InF.f {D : Dd} (h : InF D) (u : Int) : 0 ≤ frF D u ∧ frF D u ≤ 4096 := by
  unfold frF; split
  · exact (h u.toNat (by omega)).2
  · omega
theorem InF.sm {D D2 : Dd} (h : InF D) (k : smC D D2) : InF D2 := fun u hu => by
  rw [k 1 7 (by decide)] at hu
  rw [k 7 _ (by decide), k 6 _ (by decide)]
  exact h u hu
/-- a cell of the unit u is one of v -/
abbrev ovP (D : Dd) (u v : Int) : Prop := plF D v ≠ -1 ∧ plF D u < plF D v + frF D v ∧ plF D v < plF D u + frF D u ∧ plF D u < plF D u + frF D u ∧ plF D v < plF D v + frF D v
/-- fault 1 -/
def mpP (D : Dd) (u : Int) : Prop := (u = D 1 7 - 1 ∧ plF D u ≠ 0) ∨ (plF D u ≠ -1 ∧ frF D u ≠ 0 ∧ (D 1 6 < plF D u + frF D u ∨ ∃ v : Int, 0 ≤ v ∧ v < u ∧ ovP D u v))

set_option maxRecDepth 100000 in
set_option maxHeartbeats 4000000 in
theorem l_misplaced {X : Cx} {Q : State → Prop} {P : Option AV → Dd → Prop} (hX : GX X yX5_isMisplaced cX5_isMisplaced 8 (some .boolean) 2 0 0) (hF : FX X Q P) (D : Dd) (hI : InC D) (hf : InF D) (u : Int) (hu : 0 ≤ u ∧ u < 16) (hp : plF D u ≠ -1) (hfr : frF D u ≠ 0) (hyes : (∃ v : Int, 0 ≤ v ∧ v < u ∧ ovP D u v) → P (some (vI 1)) D) (hno : ¬ (∃ v : Int, 0 ≤ v ∧ v < u ∧ ovP D u v) → P (some (vI 0)) D) : ∀ (m : Nat) (v : Int) (w1 w2 : AV), (u - v).toNat < m → 0 ≤ v → (∀ x : Int, 0 ≤ x → x < v → ¬ ovP D u x) → W0 X Q 68 [vR 264, vI u, vI (plF D u), vI (frF D u), vI (plF D u + frF D u), vI v, w1, w2] [] D := by
  intro m
  induction m with
  | zero =>
    intro v w1 w2 hm h0 hn
    exact absurd hm (Nat.not_lt_zero _)
  | succ m ih =>
    intro v w1 w2 hm h0 hn
    have zq_p := hf.p u
    have zq_f := hf.f u
    have zq_pv := hf.p v
    have zq_fv := hf.f v
    refine w_iload hX dX5_isMisplaced_68 rfl rfl ?_
    refine w_iload_n (i := 1) hX dX5_isMisplaced_70 rfl rfl rfl ?_
    refine w_icmp_ge (tgt := 129) hX dX5_isMisplaced_71 rfl (by decide) (fun h71 => ?_) (fun h71 => ?_)
    · refine w_iconst hX dX5_isMisplaced_129 rfl (by decide) ?_
      exact e_z hX hF dX5_isMisplaced_130 (by decide) (hno (fun ⟨x, zq_1, zq_2, zq_3⟩ => hn x zq_1 (by omega) zq_3))
    · refine w_aload_n (i := 0) hX dX5_isMisplaced_74 rfl rfl rfl ?_
      refine w_getR (j := 0) hX cl4 fl_RX5_18_4 rfl (by decide) rfl rfl dX5_isMisplaced_75 rfl ?_
      refine w_iload hX dX5_isMisplaced_78 rfl rfl ?_
      refine c_V hX ml_RX5_88 cl0 dX5_isMisplaced_80 rfl (m_placeOf D hI v) rfl rfl rfl (by decide) (Nat.le_of_ble_eq_true rfl) ?_
      rintro _ _ ⟨rfl, rfl⟩ -
      all_goals try dsimp only [Option.toList, List.cons_append, List.nil_append]
      refine w_istore hX dX5_isMisplaced_83 rfl (by decide) ?_
      dsimp only [st1X, st2X, klX_I, klX_L, klX_R, klX_S, klX_N]
      refine w_iload hX dX5_isMisplaced_85 rfl rfl ?_
      refine w_aload_n (i := 0) hX dX5_isMisplaced_87 rfl rfl rfl ?_
      refine w_getR (j := 0) hX cl4 fl_RX5_18_4 rfl (by decide) rfl rfl dX5_isMisplaced_88 rfl ?_
      refine w_iload hX dX5_isMisplaced_91 rfl rfl ?_
      refine c_V hX ml_RX5_96 cl0 dX5_isMisplaced_93 rfl (m_frameOf D hI v) rfl rfl rfl (by decide) (Nat.le_of_ble_eq_true rfl) ?_
      rintro _ _ ⟨rfl, rfl⟩ -
      all_goals try dsimp only [Option.toList, List.cons_append, List.nil_append]
      refine w_iadd hX dX5_isMisplaced_96 rfl (by omega) ?_
      refine w_istore hX dX5_isMisplaced_97 rfl (by decide) ?_
      dsimp only [st1X, st2X, klX_I, klX_L, klX_R, klX_S, klX_N]
      refine w_iload hX dX5_isMisplaced_99 rfl rfl ?_
      refine w_iconst hX dX5_isMisplaced_101 rfl (by decide) ?_
      refine w_icmp_eq (tgt := 123) hX dX5_isMisplaced_102 rfl (by decide) (fun h102 => ?_) (fun h102 => ?_)
      · refine w_iinc hX dX5_isMisplaced_123 rfl rfl (by decide) (by omega) ?_
        dsimp only [st1X, st2X, klX_I, klX_L, klX_R, klX_S, klX_N]
        refine w_goto (tgt := 68) hX dX5_isMisplaced_126 (by decide) ?_
        exact ih (v + 1) _ _ (by omega) (by omega) (fun x zq_x0 zq_x1 => by
          by_cases zq_e : x = v
          · subst zq_e; unfold ovP; omega
          · exact hn x zq_x0 (by omega))
      · refine w_iload_n (i := 2) hX dX5_isMisplaced_105 rfl rfl rfl ?_
        refine w_iload hX dX5_isMisplaced_106 rfl rfl ?_
        refine w_max hX ml_RX5_102 (by decide) (Nat.le_of_ble_eq_true rfl) ⟨by decide, by decide⟩ dX5_isMisplaced_108 rfl ?_
        refine w_nameI (fun zq_m1 zq_hm1 => ?_)
        have zq_k1 : plF D u ≤ zq_m1 ∧ plF D v ≤ zq_m1 ∧ (zq_m1 = plF D u ∨ zq_m1 = plF D v) := by rw [zq_hm1]; split <;> omega
        refine w_iload hX dX5_isMisplaced_111 rfl rfl ?_
        refine w_iload hX dX5_isMisplaced_113 rfl rfl ?_
        refine w_min hX ml_RX5_108 (by decide) (Nat.le_of_ble_eq_true rfl) ⟨by decide, by decide⟩ dX5_isMisplaced_115 rfl ?_
        refine w_nameI (fun zq_m2 zq_hm2 => ?_)
        have zq_k2 : zq_m2 ≤ plF D u + frF D u ∧ zq_m2 ≤ plF D v + frF D v ∧ (zq_m2 = plF D u + frF D u ∨ zq_m2 = plF D v + frF D v) := by rw [zq_hm2]; split <;> omega
        refine w_icmp_ge (tgt := 123) hX dX5_isMisplaced_118 rfl (by decide) (fun h118 => ?_) (fun h118 => ?_)
        · refine w_iinc hX dX5_isMisplaced_123 rfl rfl (by decide) (by omega) ?_
          dsimp only [st1X, st2X, klX_I, klX_L, klX_R, klX_S, klX_N]
          refine w_goto (tgt := 68) hX dX5_isMisplaced_126 (by decide) ?_
          exact ih (v + 1) _ _ (by omega) (by omega) (fun x zq_x0 zq_x1 => by
            by_cases zq_e : x = v
            · subst zq_e; unfold ovP; omega
            · exact hn x zq_x0 (by omega))
        · refine w_iconst hX dX5_isMisplaced_121 rfl (by decide) ?_
          exact e_z hX hF dX5_isMisplaced_122 (by decide) (hyes ⟨v, h0, by omega, by unfold ovP; omega⟩)

set_option maxRecDepth 100000 in
set_option maxHeartbeats 4000000 in
theorem m_isMisplaced (D : Dd) (hI : InC D) (hf : InF D) (u : Int) (hu : 0 ≤ u ∧ u < 16) : MC 2 yX5_isMisplaced cX5_isMisplaced 8 (some .boolean) [vR 264, vI u] D (Is (some (vI (b2 (mpP D u)))) D) := by
  refine MC.mk [vR 264, vI u, vN, vN, vN, vN, vN, vN] (by decide) (Nat.le_of_ble_eq_true rfl) rfl (fun X Q hX hF hok hol => ?_)
  have zq_p := hf.p u
  have zq_f := hf.f u
  refine w_aload_n (i := 0) hX dX5_isMisplaced_0 rfl rfl rfl ?_
  refine w_getR (j := 0) hX cl4 fl_RX5_18_4 rfl (by decide) rfl rfl dX5_isMisplaced_1 rfl ?_
  refine w_iload_n (i := 1) hX dX5_isMisplaced_4 rfl rfl rfl ?_
  refine c_V hX ml_RX5_88 cl0 dX5_isMisplaced_5 rfl (m_placeOf D hI u) rfl rfl rfl (by decide) (Nat.le_of_ble_eq_true rfl) ?_
  rintro _ _ ⟨rfl, rfl⟩ -
  all_goals try dsimp only [Option.toList, List.cons_append, List.nil_append]
  refine w_istore_n (i := 2) hX dX5_isMisplaced_8 rfl rfl (by decide) ?_
  dsimp only [st1X, st2X, klX_I, klX_L, klX_R, klX_S, klX_N]
  refine w_iload_n (i := 1) hX dX5_isMisplaced_9 rfl rfl rfl ?_
  refine w_aload_n (i := 0) hX dX5_isMisplaced_10 rfl rfl rfl ?_
  refine w_getR (j := 0) hX cl4 fl_RX5_18_4 rfl (by decide) rfl rfl dX5_isMisplaced_11 rfl ?_
  refine c_V hX ml_RX5_92 cl0 dX5_isMisplaced_14 rfl (m_program D hI) rfl rfl rfl (by decide) (Nat.le_of_ble_eq_true rfl) ?_
  rintro _ _ ⟨rfl, rfl⟩ -
  all_goals try dsimp only [Option.toList, List.cons_append, List.nil_append]
  refine w_icmp_ne (tgt := 26) hX dX5_isMisplaced_17 rfl (by decide) (fun h17 => ?_) (fun h17 => ?_)
  · refine w_aload_n (i := 0) hX dX5_isMisplaced_26 rfl rfl rfl ?_
    refine w_getR (j := 0) hX cl4 fl_RX5_18_4 rfl (by decide) rfl rfl dX5_isMisplaced_27 rfl ?_
    refine w_iload_n (i := 1) hX dX5_isMisplaced_30 rfl rfl rfl ?_
    refine c_V hX ml_RX5_96 cl0 dX5_isMisplaced_31 rfl (m_frameOf D hI u) rfl rfl rfl (by decide) (Nat.le_of_ble_eq_true rfl) ?_
    rintro _ _ ⟨rfl, rfl⟩ -
    all_goals try dsimp only [Option.toList, List.cons_append, List.nil_append]
    refine w_istore_n (i := 3) hX dX5_isMisplaced_34 rfl rfl (by decide) ?_
    dsimp only [st1X, st2X, klX_I, klX_L, klX_R, klX_S, klX_N]
    refine w_iload_n (i := 2) hX dX5_isMisplaced_35 rfl rfl rfl ?_
    refine w_iconst hX dX5_isMisplaced_36 rfl (by decide) ?_
    refine w_icmp_eq (tgt := 44) hX dX5_isMisplaced_37 rfl (by decide) (fun h37 => ?_) (fun h37 => ?_)
    · refine w_iconst hX dX5_isMisplaced_44 rfl (by decide) ?_
      exact e_z hX hF dX5_isMisplaced_45 (by decide) ⟨by rw [b2_f (fun zq_q => by rcases zq_q with zq_q | ⟨zq_1, zq_2, _⟩; omega; omega)], rfl⟩
    · refine w_iload_n (i := 3) hX dX5_isMisplaced_40 rfl rfl rfl ?_
      refine w_if_ne (tgt := 46) hX dX5_isMisplaced_41 rfl (by decide) (fun h41 => ?_) (fun h41 => ?_)
      · refine w_iload_n (i := 2) hX dX5_isMisplaced_46 rfl rfl rfl ?_
        refine w_iload_n (i := 3) hX dX5_isMisplaced_47 rfl rfl rfl ?_
        refine w_iadd hX dX5_isMisplaced_48 rfl (by omega) ?_
        refine w_istore hX dX5_isMisplaced_49 rfl (by decide) ?_
        dsimp only [st1X, st2X, klX_I, klX_L, klX_R, klX_S, klX_N]
        refine w_iload hX dX5_isMisplaced_51 rfl rfl ?_
        refine w_aload_n (i := 0) hX dX5_isMisplaced_53 rfl rfl rfl ?_
        refine w_getR (j := 0) hX cl4 fl_RX5_18_4 rfl (by decide) rfl rfl dX5_isMisplaced_54 rfl ?_
        refine w_getI (j := 6) hX cl0 fl_RX5_99_0 rfl (by decide) rfl dX5_isMisplaced_57 rfl ?_
        refine w_icmp_le (tgt := 65) hX dX5_isMisplaced_60 rfl (by decide) (fun h60 => ?_) (fun h60 => ?_)
        · refine w_iconst hX dX5_isMisplaced_65 rfl (by decide) ?_
          refine w_istore hX dX5_isMisplaced_66 rfl (by decide) ?_
          dsimp only [st1X, st2X, klX_I, klX_L, klX_R, klX_S, klX_N]
          exact l_misplaced hX hF D hI hf u hu h37 h41 (fun zq_h => ⟨by rw [b2_t (p := mpP D u) (Or.inr ⟨h37, h41, Or.inr zq_h⟩)], rfl⟩) (fun zq_h => ⟨by rw [b2_f (fun zq_q => by rcases zq_q with zq_q | ⟨_, _, zq_q | zq_q⟩; omega; omega; exact zq_h zq_q)], rfl⟩) _ 0 _ _ (Nat.lt_succ_self _) (by omega) (fun x zq_1 zq_2 => by omega)
        · refine w_iconst hX dX5_isMisplaced_63 rfl (by decide) ?_
          exact e_z hX hF dX5_isMisplaced_64 (by decide) ⟨by rw [b2_t (p := mpP D u) (Or.inr ⟨h37, h41, Or.inl (by omega)⟩)], rfl⟩
      · refine w_iconst hX dX5_isMisplaced_44 rfl (by decide) ?_
        exact e_z hX hF dX5_isMisplaced_45 (by decide) ⟨by rw [b2_f (fun zq_q => by rcases zq_q with zq_q | ⟨zq_1, zq_2, _⟩; omega; omega)], rfl⟩
  · refine w_iload_n (i := 2) hX dX5_isMisplaced_20 rfl rfl rfl ?_
    refine w_if_eq (tgt := 26) hX dX5_isMisplaced_21 rfl (by decide) (fun h21 => ?_) (fun h21 => ?_)
    · refine w_aload_n (i := 0) hX dX5_isMisplaced_26 rfl rfl rfl ?_
      refine w_getR (j := 0) hX cl4 fl_RX5_18_4 rfl (by decide) rfl rfl dX5_isMisplaced_27 rfl ?_
      refine w_iload_n (i := 1) hX dX5_isMisplaced_30 rfl rfl rfl ?_
      refine c_V hX ml_RX5_96 cl0 dX5_isMisplaced_31 rfl (m_frameOf D hI u) rfl rfl rfl (by decide) (Nat.le_of_ble_eq_true rfl) ?_
      rintro _ _ ⟨rfl, rfl⟩ -
      all_goals try dsimp only [Option.toList, List.cons_append, List.nil_append]
      refine w_istore_n (i := 3) hX dX5_isMisplaced_34 rfl rfl (by decide) ?_
      dsimp only [st1X, st2X, klX_I, klX_L, klX_R, klX_S, klX_N]
      refine w_iload_n (i := 2) hX dX5_isMisplaced_35 rfl rfl rfl ?_
      refine w_iconst hX dX5_isMisplaced_36 rfl (by decide) ?_
      refine w_icmp_eq (tgt := 44) hX dX5_isMisplaced_37 rfl (by decide) (fun h37 => ?_) (fun h37 => ?_)
      · refine w_iconst hX dX5_isMisplaced_44 rfl (by decide) ?_
        exact e_z hX hF dX5_isMisplaced_45 (by decide) ⟨by rw [b2_f (fun zq_q => by rcases zq_q with zq_q | ⟨zq_1, zq_2, _⟩; omega; omega)], rfl⟩
      · refine w_iload_n (i := 3) hX dX5_isMisplaced_40 rfl rfl rfl ?_
        refine w_if_ne (tgt := 46) hX dX5_isMisplaced_41 rfl (by decide) (fun h41 => ?_) (fun h41 => ?_)
        · refine w_iload_n (i := 2) hX dX5_isMisplaced_46 rfl rfl rfl ?_
          refine w_iload_n (i := 3) hX dX5_isMisplaced_47 rfl rfl rfl ?_
          refine w_iadd hX dX5_isMisplaced_48 rfl (by omega) ?_
          refine w_istore hX dX5_isMisplaced_49 rfl (by decide) ?_
          dsimp only [st1X, st2X, klX_I, klX_L, klX_R, klX_S, klX_N]
          refine w_iload hX dX5_isMisplaced_51 rfl rfl ?_
          refine w_aload_n (i := 0) hX dX5_isMisplaced_53 rfl rfl rfl ?_
          refine w_getR (j := 0) hX cl4 fl_RX5_18_4 rfl (by decide) rfl rfl dX5_isMisplaced_54 rfl ?_
          refine w_getI (j := 6) hX cl0 fl_RX5_99_0 rfl (by decide) rfl dX5_isMisplaced_57 rfl ?_
          refine w_icmp_le (tgt := 65) hX dX5_isMisplaced_60 rfl (by decide) (fun h60 => ?_) (fun h60 => ?_)
          · refine w_iconst hX dX5_isMisplaced_65 rfl (by decide) ?_
            refine w_istore hX dX5_isMisplaced_66 rfl (by decide) ?_
            dsimp only [st1X, st2X, klX_I, klX_L, klX_R, klX_S, klX_N]
            exact l_misplaced hX hF D hI hf u hu h37 h41 (fun zq_h => ⟨by rw [b2_t (p := mpP D u) (Or.inr ⟨h37, h41, Or.inr zq_h⟩)], rfl⟩) (fun zq_h => ⟨by rw [b2_f (fun zq_q => by rcases zq_q with zq_q | ⟨_, _, zq_q | zq_q⟩; omega; omega; exact zq_h zq_q)], rfl⟩) _ 0 _ _ (Nat.lt_succ_self _) (by omega) (fun x zq_1 zq_2 => by omega)
          · refine w_iconst hX dX5_isMisplaced_63 rfl (by decide) ?_
            exact e_z hX hF dX5_isMisplaced_64 (by decide) ⟨by rw [b2_t (p := mpP D u) (Or.inr ⟨h37, h41, Or.inl (by omega)⟩)], rfl⟩
        · refine w_iconst hX dX5_isMisplaced_44 rfl (by decide) ?_
          exact e_z hX hF dX5_isMisplaced_45 (by decide) ⟨by rw [b2_f (fun zq_q => by rcases zq_q with zq_q | ⟨zq_1, zq_2, _⟩; omega; omega)], rfl⟩
    · refine w_iconst hX dX5_isMisplaced_24 rfl (by decide) ?_
      exact e_z hX hF dX5_isMisplaced_25 (by decide) ⟨by rw [b2_t (p := mpP D u) (Or.inl ⟨by omega, by omega⟩)], rfl⟩

set_option maxRecDepth 100000 in
set_option maxHeartbeats 4000000 in
theorem l_stopsForm {X : Cx} {Q : State → Prop} {P : Option AV → Dd → Prop} (hX : GX X yX5_stopsIn cX5_stopsIn 6 (some .boolean) 5 0 0) (hF : FX X Q P) (D : Dd) (hI : InC D) (u : Int) (hyes : ∀ r D2, ((∃ i : Int, 0 ≤ i ∧ i < szF D u ∧ lnF D u i ≠ 0 ∧ (∀ j : Int, 0 ≤ j → j < i → lnF D u j = 0) ∧ some (vI 1) = r ∧ fdD D (lnF D u i) u i = D2) ∨ ((∀ j : Int, 0 ≤ j → j < szF D u → lnF D u j = 0) ∧ some (vI 0) = r ∧ D = D2)) → P r D2) : ∀ (m : Nat) (i : Int) (w1 : AV), (szF D u - i).toNat < m → 0 ≤ i → (∀ j : Int, 0 ≤ j → j < i → lnF D u j = 0) → W0 X Q 17 [vR 264, vR 265, vI u, vI (szF D u), vI i, w1] [] D := by
  intro m
  induction m with
  | zero =>
    intro i w1 hm h0 hn
    exact absurd hm (Nat.not_lt_zero _)
  | succ m ih =>
    intro i w1 hm h0 hn
    have zq_z := sz_256 hI u
    refine w_iload hX dX5_stopsIn_17 rfl rfl ?_
    refine w_iload_n (i := 3) hX dX5_stopsIn_19 rfl rfl rfl ?_
    refine w_icmp_ge (tgt := 53) hX dX5_stopsIn_20 rfl (by decide) (fun h20 => ?_) (fun h20 => ?_)
    · refine w_iconst hX dX5_stopsIn_53 rfl (by decide) ?_
      exact e_z hX hF dX5_stopsIn_54 (by decide) (hyes _ _ (Or.inr ⟨fun j zq_1 zq_2 => hn j zq_1 (by omega), rfl, rfl⟩))
    · refine w_aload_n (i := 1) hX dX5_stopsIn_23 rfl rfl rfl ?_
      refine w_iload_n (i := 2) hX dX5_stopsIn_24 rfl rfl rfl ?_
      refine w_iload hX dX5_stopsIn_25 rfl rfl ?_
      refine c_A hX al_RX5_120_1 cl1 dX5_stopsIn_27 rfl (m_formAt D hI u i) rfl rfl rfl (by decide) (Nat.le_of_ble_eq_true rfl) ?_
      rintro _ _ ⟨rfl, rfl⟩ -
      all_goals try dsimp only [Option.toList, List.cons_append, List.nil_append]
      refine w_istore hX dX5_stopsIn_30 rfl (by decide) ?_
      dsimp only [st1X, st2X, klX_I, klX_L, klX_R, klX_S, klX_N]
      refine w_iload hX dX5_stopsIn_32 rfl rfl ?_
      refine w_if_eq (tgt := 47) hX dX5_stopsIn_34 rfl (by decide) (fun h34 => ?_) (fun h34 => ?_)
      · refine w_iinc hX dX5_stopsIn_47 rfl rfl (by decide) (by omega) ?_
        dsimp only [st1X, st2X, klX_I, klX_L, klX_R, klX_S, klX_N]
        refine w_goto (tgt := 17) hX dX5_stopsIn_50 (by decide) ?_
        exact ih (i + 1) _ (by omega) (by omega) (fun j zq_1 zq_2 => by
          by_cases zq_e : j = i
          · subst zq_e; exact h34
          · exact hn j zq_1 (by omega))
      · refine w_aload_n (i := 0) hX dX5_stopsIn_37 rfl rfl rfl ?_
        refine w_iload hX dX5_stopsIn_38 rfl rfl ?_
        refine w_iload_n (i := 2) hX dX5_stopsIn_40 rfl rfl rfl ?_
        refine w_iload hX dX5_stopsIn_41 rfl rfl ?_
        refine c_V hX ml_RX5_56 cl4 dX5_stopsIn_43 rfl (m_found D (lnF D u i) u i) rfl rfl rfl (by decide) (Nat.le_of_ble_eq_true rfl) ?_
        rintro _ _ ⟨rfl, rfl⟩ -
        all_goals try dsimp only [Option.toList, List.cons_append, List.nil_append]
        exact e_z hX hF dX5_stopsIn_46 (b2_01 _) (hyes _ _ (Or.inl ⟨i, h0, by omega, h34, hn, by rw [b2_t h34], rfl⟩))

set_option maxRecDepth 100000 in
set_option maxHeartbeats 4000000 in
theorem m_stopsForm (D : Dd) (hI : InC D) (u : Int) : MC 5 yX5_stopsIn cX5_stopsIn 6 (some .boolean) [vR 264, vR 265, vI u] D (fun r D2 => (∃ i : Int, 0 ≤ i ∧ i < szF D u ∧ lnF D u i ≠ 0 ∧ (∀ j : Int, 0 ≤ j → j < i → lnF D u j = 0) ∧ some (vI 1) = r ∧ fdD D (lnF D u i) u i = D2) ∨ ((∀ j : Int, 0 ≤ j → j < szF D u → lnF D u j = 0) ∧ some (vI 0) = r ∧ D = D2)) := by
  refine MC.mk [vR 264, vR 265, vI u, vN, vN, vN] (by decide) (Nat.le_of_ble_eq_true rfl) rfl (fun X Q hX hF hok hol => ?_)
  refine w_aload_n (i := 1) hX dX5_stopsIn_0 rfl rfl rfl ?_
  refine w_iload_n (i := 2) hX dX5_stopsIn_1 rfl rfl rfl ?_
  refine c_A hX al_RX5_111_1 cl1 dX5_stopsIn_2 rfl (m_formOpen D u) rfl rfl rfl (by decide) (Nat.le_of_ble_eq_true rfl) ?_
  rintro _ _ ⟨rfl, rfl⟩ -
  all_goals try dsimp only [Option.toList, List.cons_append, List.nil_append]
  refine w_aload_n (i := 0) hX dX5_stopsIn_5 rfl rfl rfl ?_
  refine w_getR (j := 0) hX cl4 fl_RX5_18_4 rfl (by decide) rfl rfl dX5_stopsIn_6 rfl ?_
  refine w_iload_n (i := 2) hX dX5_stopsIn_9 rfl rfl rfl ?_
  refine c_V hX ml_RX5_117 cl0 dX5_stopsIn_10 rfl (m_sizeOf D hI u) rfl rfl rfl (by decide) (Nat.le_of_ble_eq_true rfl) ?_
  rintro _ _ ⟨rfl, rfl⟩ -
  all_goals try dsimp only [Option.toList, List.cons_append, List.nil_append]
  refine w_istore_n (i := 3) hX dX5_stopsIn_13 rfl rfl (by decide) ?_
  dsimp only [st1X, st2X, klX_I, klX_L, klX_R, klX_S, klX_N]
  refine w_iconst hX dX5_stopsIn_14 rfl (by decide) ?_
  refine w_istore hX dX5_stopsIn_15 rfl (by decide) ?_
  dsimp only [st1X, st2X, klX_I, klX_L, klX_R, klX_S, klX_N]
  exact l_stopsForm hX hF D hI u (fun r D2 zq_h => zq_h) _ 0 _ (Nat.lt_succ_self _) (by omega) (fun j zq_1 zq_2 => by omega)

theorem fd_sm (D : Dd) (f u i : Int) : smC D (fdD D f u i) := fun k j hk => by
  unfold fdD
  rw [upD_k (by omega), upD_k (by omega), upD_k (by omega)]
theorem lpP_sm {D D2 : Dd} (h : smC D D2) (hI : InC D) (u i : Int) : lpP D2 u i ↔ lpP D u i := by
  unfold lpP ex13 giQ wcQ wnQ
  simp only [f_sm h hI, sz_sm h]
/-- no fault of form in the unit -/
def okLn (D : Dd) (u : Int) : Prop := ∀ j : Int, 0 ≤ j → j < szF D u → lnF D u j = 0
theorem ln_0 {D : Dd} {u i : Int} (h : lnF D u i = 0) : ¬ wfP ((D (atF D u i) 0)) ((D (atF D u i) 1)) ((D (atF D u i) 2)) (D (atF D u i) 3) ∧ ¬ wuP D u ((D (atF D u i) 0)) ((D (atF D u i) 1)) ∧ ¬ coP D u ((D (atF D u i) 0)) ((D (atF D u i) 1)) ((D (atF D u i) 2)) (D (atF D u i) 3) ∧ ¬ ctP D u ((D (atF D u i) 0)) ((D (atF D u i) 1)) ((D (atF D u i) 2)) (D (atF D u i) 3) ∧ ¬ gwP D u i ((D (atF D u i) 0)) ((D (atF D u i) 1)) ((D (atF D u i) 2)) := by
  unfold lnF at h
  refine ⟨fun q => ?_, fun q => ?_, fun q => ?_, fun q => ?_, fun q => ?_⟩
  · rw [it_t q] at h; omega
  · by_cases q1 : wfP ((D (atF D u i) 0)) ((D (atF D u i) 1)) ((D (atF D u i) 2)) (D (atF D u i) 3)
    · rw [it_t q1] at h; omega
    · rw [it_f q1, it_t q] at h; omega
  · by_cases q1 : wfP ((D (atF D u i) 0)) ((D (atF D u i) 1)) ((D (atF D u i) 2)) (D (atF D u i) 3)
    · rw [it_t q1] at h; omega
    · by_cases q2 : wuP D u ((D (atF D u i) 0)) ((D (atF D u i) 1))
      · rw [it_f q1, it_t q2] at h; omega
      · rw [it_f q1, it_f q2, it_t q] at h; omega
  · by_cases q1 : wfP ((D (atF D u i) 0)) ((D (atF D u i) 1)) ((D (atF D u i) 2)) (D (atF D u i) 3)
    · rw [it_t q1] at h; omega
    · by_cases q2 : wuP D u ((D (atF D u i) 0)) ((D (atF D u i) 1))
      · rw [it_f q1, it_t q2] at h; omega
      · by_cases q3 : coP D u ((D (atF D u i) 0)) ((D (atF D u i) 1)) ((D (atF D u i) 2)) (D (atF D u i) 3)
        · rw [it_f q1, it_f q2, it_t q3] at h; omega
        · rw [it_f q1, it_f q2, it_f q3, it_t q] at h; omega
  · by_cases q1 : wfP ((D (atF D u i) 0)) ((D (atF D u i) 1)) ((D (atF D u i) 2)) (D (atF D u i) 3)
    · rw [it_t q1] at h; omega
    · by_cases q2 : wuP D u ((D (atF D u i) 0)) ((D (atF D u i) 1))
      · rw [it_f q1, it_t q2] at h; omega
      · by_cases q3 : coP D u ((D (atF D u i) 0)) ((D (atF D u i) 1)) ((D (atF D u i) 2)) (D (atF D u i) 3)
        · rw [it_f q1, it_f q2, it_t q3] at h; omega
        · by_cases q4 : ctP D u ((D (atF D u i) 0)) ((D (atF D u i) 1)) ((D (atF D u i) 2)) (D (atF D u i) 3)
          · rw [it_f q1, it_f q2, it_f q3, it_t q4] at h; omega
          · rw [it_f q1, it_f q2, it_f q3, it_f q4, it_t q] at h; omega

set_option maxRecDepth 100000 in
set_option maxHeartbeats 4000000 in
theorem l_stopsLoop {X : Cx} {Q : State → Prop} {P : Option AV → Dd → Prop} (hX : GX X yX5_stopsIn cX5_stopsIn 6 (some .boolean) 5 0 0) (hF : FX X Q P) (D D1 : Dd) (hI : InC D) (u : Int) (hk1 : keepL D D1) (hN : NXP D1 u) (hln : okLn D u) (hyes : ∀ r D2, (∃ D1, keepL D D1 ∧ ((∃ i : Int, 0 ≤ i ∧ i < szF D u ∧ lpP D u i ∧ (∀ j : Int, 0 ≤ j → j < i → ¬ lpP D u j) ∧ some (vI 1) = r ∧ fdD D1 7 u i = D2) ∨ ((∀ j : Int, 0 ≤ j → j < szF D u → ¬ lpP D u j) ∧ some (vI 0) = r ∧ D1 = D2))) → P r D2) : ∀ (m : Nat) (i : Int) (w1 : AV), (szF D u - i).toNat < m → 0 ≤ i → (∀ j : Int, 0 ≤ j → j < i → ¬ lpP D u j) → W0 X Q 17 [vR 264, vR 266, vI u, vI (szF D u), vI i, w1] [] D1 := by
  intro m
  induction m with
  | zero =>
    intro i w1 hm h0 hn
    exact absurd hm (Nat.not_lt_zero _)
  | succ m ih =>
    intro i w1 hm h0 hn
    have zq_z := sz_256 hI u
    have zq_I := in_sm hk1.sm hI
    have zq_l := lpP_sm hk1.sm hI u i
    refine w_iload hX dX5_stopsIn_17 rfl rfl ?_
    refine w_iload_n (i := 3) hX dX5_stopsIn_19 rfl rfl rfl ?_
    refine w_icmp_ge (tgt := 53) hX dX5_stopsIn_20 rfl (by decide) (fun h20 => ?_) (fun h20 => ?_)
    · refine w_iconst hX dX5_stopsIn_53 rfl (by decide) ?_
      exact e_z hX hF dX5_stopsIn_54 (by decide) (hyes _ _ ⟨D1, hk1, Or.inr ⟨fun j zq_1 zq_2 => hn j zq_1 (by omega), rfl, rfl⟩⟩)
    · refine w_aload_n (i := 1) hX dX5_stopsIn_23 rfl rfl rfl ?_
      refine w_iload_n (i := 2) hX dX5_stopsIn_24 rfl rfl rfl ?_
      refine w_iload hX dX5_stopsIn_25 rfl rfl ?_
      refine c_A hX al_RX5_120_3 cl3 dX5_stopsIn_27 rfl (m_loopAt D1 zq_I u hN i (by rw [sz_sm hk1.sm]; omega) (by rw [f_sm hk1.sm hI, f_sm hk1.sm hI, f_sm hk1.sm hI]; unfold gwP; rw [sz_sm hk1.sm]; exact (ln_0 (hln i h0 (by omega))).2.2.2.2)) rfl rfl rfl (by decide) (Nat.le_of_ble_eq_true rfl) ?_
      rintro _ _ ⟨rfl, rfl⟩ -
      all_goals try dsimp only [Option.toList, List.cons_append, List.nil_append]
      refine w_istore hX dX5_stopsIn_30 rfl (by decide) ?_
      dsimp only [st1X, st2X, klX_I, klX_L, klX_R, klX_S, klX_N]
      refine w_iload hX dX5_stopsIn_32 rfl rfl ?_
      refine w_if_eq (tgt := 47) hX dX5_stopsIn_34 rfl (by decide) (fun h34 => ?_) (fun h34 => ?_)
      · refine w_iinc hX dX5_stopsIn_47 rfl rfl (by decide) (by omega) ?_
        dsimp only [st1X, st2X, klX_I, klX_L, klX_R, klX_S, klX_N]
        refine w_goto (tgt := 17) hX dX5_stopsIn_50 (by decide) ?_
        exact ih (i + 1) _ (by omega) (by omega) (fun j zq_1 zq_2 => by
          by_cases zq_e : j = i
          · subst zq_e
            intro zq_q
            rw [it_t (zq_l.mpr zq_q)] at h34
            omega
          · exact hn j zq_1 (by omega))
      · have zq_y : lpP D1 u i := Classical.byContradiction (fun zq_q => h34 (it_f zq_q))
        rw [it_t zq_y]
        refine w_aload_n (i := 0) hX dX5_stopsIn_37 rfl rfl rfl ?_
        refine w_iload hX dX5_stopsIn_38 rfl rfl ?_
        refine w_iload_n (i := 2) hX dX5_stopsIn_40 rfl rfl rfl ?_
        refine w_iload hX dX5_stopsIn_41 rfl rfl ?_
        refine c_V hX ml_RX5_56 cl4 dX5_stopsIn_43 rfl (m_found D1 7 u i) rfl rfl rfl (by decide) (Nat.le_of_ble_eq_true rfl) ?_
        rintro _ _ ⟨rfl, rfl⟩ -
        all_goals try dsimp only [Option.toList, List.cons_append, List.nil_append]
        exact e_z hX hF dX5_stopsIn_46 (b2_01 _) (hyes _ _ ⟨D1, hk1, Or.inl ⟨i, h0, by omega, zq_l.mp zq_y, hn, by rw [b2_t (by decide)], rfl⟩⟩)

set_option maxRecDepth 100000 in
set_option maxHeartbeats 4000000 in
theorem m_stopsLoop (D : Dd) (hI : InC D) (u : Int) (hln : okLn D u) : MC 5 yX5_stopsIn cX5_stopsIn 6 (some .boolean) [vR 264, vR 266, vI u] D (fun r D2 => ∃ D1, keepL D D1 ∧ ((∃ i : Int, 0 ≤ i ∧ i < szF D u ∧ lpP D u i ∧ (∀ j : Int, 0 ≤ j → j < i → ¬ lpP D u j) ∧ some (vI 1) = r ∧ fdD D1 7 u i = D2) ∨ ((∀ j : Int, 0 ≤ j → j < szF D u → ¬ lpP D u j) ∧ some (vI 0) = r ∧ D1 = D2))) := by
  refine MC.mk [vR 264, vR 266, vI u, vN, vN, vN] (by decide) (Nat.le_of_ble_eq_true rfl) rfl (fun X Q hX hF hok hol => ?_)
  refine w_aload_n (i := 1) hX dX5_stopsIn_0 rfl rfl rfl ?_
  refine w_iload_n (i := 2) hX dX5_stopsIn_1 rfl rfl rfl ?_
  refine c_A hX al_RX5_111_3 cl3 dX5_stopsIn_2 rfl (m_loopOpen D hI u) rfl rfl rfl (by decide) (Nat.le_of_ble_eq_true rfl) ?_
  rintro r D1 ⟨rfl, zq_k, zq_N⟩ -
  all_goals try dsimp only [Option.toList, List.cons_append, List.nil_append]
  refine w_aload_n (i := 0) hX dX5_stopsIn_5 rfl rfl rfl ?_
  refine w_getR (j := 0) hX cl4 fl_RX5_18_4 rfl (by decide) rfl rfl dX5_stopsIn_6 rfl ?_
  refine w_iload_n (i := 2) hX dX5_stopsIn_9 rfl rfl rfl ?_
  refine c_V hX ml_RX5_117 cl0 dX5_stopsIn_10 rfl (m_sizeOf D1 (in_sm zq_k.sm hI) u) rfl rfl rfl (by decide) (Nat.le_of_ble_eq_true rfl) ?_
  rintro _ _ ⟨rfl, rfl⟩ -
  rw [sz_sm zq_k.sm]
  all_goals try dsimp only [Option.toList, List.cons_append, List.nil_append]
  refine w_istore_n (i := 3) hX dX5_stopsIn_13 rfl rfl (by decide) ?_
  dsimp only [st1X, st2X, klX_I, klX_L, klX_R, klX_S, klX_N]
  refine w_iconst hX dX5_stopsIn_14 rfl (by decide) ?_
  refine w_istore hX dX5_stopsIn_15 rfl (by decide) ?_
  dsimp only [st1X, st2X, klX_I, klX_L, klX_R, klX_S, klX_N]
  exact l_stopsLoop hX hF D D1 hI u zq_k zq_N hln (fun r D2 zq_h => zq_h) _ 0 _ (Nat.lt_succ_self _) (by omega) (fun j zq_1 zq_2 => by omega)
