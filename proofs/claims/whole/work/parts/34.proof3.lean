/-! Proof.isRefused, search; CodeProof.prove -/
theorem ln_sm {D D2 : Dd} (h : smC D D2) (hI : InC D) (u i : Int) : lnF D2 u i = lnF D u i := by
  unfold lnF ctP wfP wuP coP gwP cnF
  simp only [f_sm h hI, sz_sm h, fr_sm h, pl_sm h]
theorem mp_sm {D D2 : Dd} (h : smC D D2) (u : Int) : mpP D2 u ↔ mpP D u := by
  unfold mpP ovP
  simp only [fr_sm h, pl_sm h, h 1 7 (by decide), h 1 6 (by decide)]
def okLp (D : Dd) (u : Int) : Prop := ∀ j : Int, 0 ≤ j → j < szF D u → ¬ lpP D u j
theorem okLn.sm {D D2 : Dd} {u : Int} (k : okLn D u) (h : smC D D2) (hI : InC D) : okLn D2 u := fun j h0 h1 => by
  rw [sz_sm h] at h1; rw [ln_sm h hI]; exact k j h0 h1
theorem okLp.sm {D D2 : Dd} {u : Int} (k : okLp D u) (h : smC D D2) (hI : InC D) : okLp D2 u := fun j h0 h1 => by
  rw [sz_sm h] at h1; rw [lpP_sm h hI]; exact k j h0 h1
theorem at_out {D : Dd} {u i : Int} (h : ¬ (0 ≤ i ∧ i < szF D u)) : atF D u i = 3 := by
  unfold atF
  rw [if_neg]
  intro q
  apply h
  unfold szF
  rw [if_pos ⟨q.1, q.2.1⟩]
  exact q.2.2
theorem VLP.of {D : Dd} {u : Int} (h0 : D 3 0 = -1) (h1 : okLn D u) (h2 : okLp D u) : VLP D u := by
  have hin : ∀ i : Int, (D (atF D u i) 0) = 12 ∨ (D (atF D u i) 0) = 13 ∨ (D (atF D u i) 0) = 14 → 0 ≤ i ∧ i < szF D u := by
    intro i hi
    apply Classical.byContradiction
    intro q
    rw [at_out q] at hi
    omega
  have hlp : ∀ i : Int, (D (atF D u i) 0) = 13 → (D (atF D u (i - 1)) 0) = 12 ∧ (D (atF D u ((D (atF D u i) 2) - 1)) 0) = 14 := by
    intro i hi
    have hr := hin i (by omega)
    have := h2 i hr.1 hr.2
    constructor
    · apply Classical.byContradiction
      intro q
      exact this (Or.inr (Or.inr (Or.inl ⟨hi, Or.inl q⟩)))
    · apply Classical.byContradiction
      intro q
      exact this (Or.inr (Or.inr (Or.inl ⟨hi, Or.inr (Or.inr (Or.inl q))⟩)))
  refine ⟨fun i hi => ?_, fun i a b hi => ?_⟩
  · have h3 := (hlp i hi).1
    have hr := hin (i - 1) (by omega)
    have := (ln_0 (h1 _ hr.1 hr.2)).1
    rw [h3] at this
    unfold wfP at this
    omega
  · have h3 := (hlp i hi).2
    have h4 := (ln_0 (h1 i a b)).2.2.2.2
    rw [hi] at h4
    unfold gwP at h4
    have h5 : (D (atF D u i) 2) - 1 ≠ i := fun q => by rw [q, hi] at h3; omega
    omega
theorem wyB.kp {D D2 : Dd} (h : wyB D) (hk : ∀ k j, 272 ≤ k → k ≤ 274 → D2 k j = D k j) : wyB D2 :=
  ⟨fun j hj => by rw [hk _ _ (by decide) (by decide)]; exact h.1 j hj, fun j hj => by rw [hk _ _ (by decide) (by decide)]; exact h.2.1 j hj, fun j hj => by rw [hk _ _ (by decide) (by decide)]; exact h.2.2 j hj⟩
/-- the steps of a unit, the numbers as they are behind the stack pass -/
noncomputable def lgU (D : Dd) (u : Int) : Dd := lgD (rdW u (szF D u).toNat D) u 0 (szF D u) 0
noncomputable def spF (D : Dd) (u : Int) : Int := lgU D u 272 (szF D u).toNat
noncomputable abbrev s3 (D : Dd) (u : Int) : Dd := stW u (szF D u).toNat (soD D u)
/-- what isRefused does -/
def RFo (D : Dd) (u : Int) (r : Option AV) (D2 : Dd) : Prop :=
  (mpP D u ∧ some (vI 1) = r ∧ fdD D 1 u (-1) = D2) ∨
  (¬ mpP D u ∧ ((∃ i : Int, 0 ≤ i ∧ i < szF D u ∧ lnF D u i ≠ 0 ∧ (∀ j : Int, 0 ≤ j → j < i → lnF D u j = 0) ∧ some (vI 1) = r ∧ fdD D (lnF D u i) u i = D2) ∨
  (okLn D u ∧ ∃ D1, keepL D D1 ∧ ((∃ i : Int, 0 ≤ i ∧ i < szF D u ∧ lpP D u i ∧ (∀ j : Int, 0 ≤ j → j < i → ¬ lpP D u j) ∧ some (vI 1) = r ∧ fdD D1 7 u i = D2) ∨
  (okLp D u ∧ ((∃ i : Nat, (i : Int) < szF D1 u ∧ skF (stW u i (soD D1 u)) u i ≠ 0 ∧ (∀ j : Nat, j < i → skF (stW u j (soD D1 u)) u j = 0) ∧ some (vI 1) = r ∧ ∃ D', keepS (soD D1 u) D' ∧ fdD D' (skF (stW u i (soD D1 u)) u i) u i = D2) ∨
  ((∀ j : Nat, (j : Int) < szF D1 u → skF (stW u j (soD D1 u)) u j = 0) ∧
  ((1000000000 < spF (s3 D1 u) u ∧ some (vI 1) = r ∧ fdD (lgU (s3 D1 u) u) 11 u (-1) = D2) ∨
   (spF (s3 D1 u) u ≤ 1000000000 ∧ some (vI 0) = r ∧ upD (lgU (s3 D1 u) u) 274 u.toNat (spF (s3 D1 u) u) = D2)))))))))
theorem s3_keep (D : Dd) (u : Int) : ∀ k j, k ≠ 269 → k ≠ 270 → k ≠ 268 → s3 D u k j = D k j := fun k j h1 h2 h3 => (keepS.st k j h1 h2).trans (so_keep D u k j h1 h2 h3)
theorem s3_sm (D : Dd) (u : Int) : smC D (s3 D u) := fun k j hk => s3_keep D u k j (by omega) (by omega) (by omega)

set_option maxRecDepth 100000 in
set_option maxHeartbeats 4000000 in
theorem m_isRefused (D : Dd) (hI : InC D) (hf : InF D) (u : Int) (hu : 0 ≤ u ∧ u < 16) (h0 : D 3 0 = -1) (hdp : dpW D u) (hw : wyB D) : MC 6 yX5_isRefused cX5_isRefused 2 (some .boolean) [vR 264, vI u] D (fun r D2 => RFo D u r D2) := by
  refine MC.mk [vR 264, vI u] (by decide) (Nat.le_of_ble_eq_true rfl) rfl (fun X Q hX hF hok hol => ?_)
  refine w_aload_n (i := 0) hX dX5_isRefused_0 rfl rfl rfl ?_
  refine w_iload_n (i := 1) hX dX5_isRefused_1 rfl rfl rfl ?_
  refine c_V hX ml_RX5_78 cl4 dX5_isRefused_2 rfl (m_isMisplaced D hI hf u hu) rfl rfl rfl (by decide) (Nat.le_of_ble_eq_true rfl) ?_
  rintro _ _ ⟨rfl, rfl⟩ -
  all_goals try dsimp only [Option.toList, List.cons_append, List.nil_append]
  refine w_if_eq (tgt := 16) hX dX5_isRefused_5 rfl (by decide) (fun h5 => ?_) (fun h5 => ?_)
  · rw [b2_0] at h5
    refine w_aload_n (i := 0) hX dX5_isRefused_16 rfl rfl rfl ?_
    refine w_aload_n (i := 0) hX dX5_isRefused_17 rfl rfl rfl ?_
    refine w_getR (j := 1) hX cl4 fl_RX5_27_4 rfl (by decide) rfl rfl dX5_isRefused_18 rfl ?_
    refine w_iload_n (i := 1) hX dX5_isRefused_21 rfl rfl rfl ?_
    refine c_V hX ml_RX5_81 cl4 dX5_isRefused_22 rfl (m_stopsForm D hI u) rfl rfl rfl (by decide) (Nat.le_of_ble_eq_true rfl) ?_
    rintro r D2 zq_r -
    rcases zq_r with ⟨i, zq_1, zq_2, zq_3, zq_4, rfl, zq_e⟩ | ⟨zq_n, rfl, rfl⟩
    all_goals try dsimp only [Option.toList, List.cons_append, List.nil_append]
    · refine w_if_ne (tgt := 52) hX dX5_isRefused_25 rfl (by decide) (fun _ => ?_) (fun h25 => absurd (by decide) h25)
      refine w_iconst hX dX5_isRefused_52 rfl (by decide) ?_
      exact e_z hX hF dX5_isRefused_53 (by decide) (by first | exact Or.inr ⟨h5, Or.inl ⟨i, zq_1, zq_2, zq_3, zq_4, rfl, zq_e⟩⟩ | exact Or.inr ⟨h5, Or.inr ⟨zq_n, D1, zq_k, Or.inl ⟨i, zq_1, zq_2, zq_3, zq_4, rfl, zq_e⟩⟩⟩ | exact Or.inr ⟨h5, Or.inr ⟨zq_n, D1, zq_k, Or.inr ⟨zq_p, Or.inl ⟨i, zq_1, zq_2, zq_3, rfl, zq_e⟩⟩⟩⟩)
    · refine w_if_ne (tgt := 52) hX dX5_isRefused_25 rfl (by decide) (fun h25 => absurd h25 (by decide)) (fun _ => ?_)
      refine w_aload_n (i := 0) hX dX5_isRefused_28 rfl rfl rfl ?_
      refine w_aload_n (i := 0) hX dX5_isRefused_29 rfl rfl rfl ?_
      refine w_getR (j := 2) hX cl4 fl_RX5_34_4 rfl (by decide) rfl rfl dX5_isRefused_30 rfl ?_
      refine w_iload_n (i := 1) hX dX5_isRefused_33 rfl rfl rfl ?_
      refine c_V hX ml_RX5_81 cl4 dX5_isRefused_34 rfl (m_stopsLoop D hI u zq_n) rfl rfl rfl (by decide) (Nat.le_of_ble_eq_true rfl) ?_
      rintro r D2 ⟨D1, zq_k, zq_r⟩ -
      have zq_I1 := in_sm zq_k.sm hI
      rcases zq_r with ⟨i, zq_1, zq_2, zq_3, zq_4, rfl, zq_e⟩ | ⟨zq_p, rfl, rfl⟩
      all_goals try dsimp only [Option.toList, List.cons_append, List.nil_append]
      · refine w_if_ne (tgt := 52) hX dX5_isRefused_37 rfl (by decide) (fun _ => ?_) (fun h37 => absurd (by decide) h37)
        refine w_iconst hX dX5_isRefused_52 rfl (by decide) ?_
        exact e_z hX hF dX5_isRefused_53 (by decide) (by first | exact Or.inr ⟨h5, Or.inl ⟨i, zq_1, zq_2, zq_3, zq_4, rfl, zq_e⟩⟩ | exact Or.inr ⟨h5, Or.inr ⟨zq_n, D1, zq_k, Or.inl ⟨i, zq_1, zq_2, zq_3, zq_4, rfl, zq_e⟩⟩⟩ | exact Or.inr ⟨h5, Or.inr ⟨zq_n, D1, zq_k, Or.inr ⟨zq_p, Or.inl ⟨i, zq_1, zq_2, zq_3, rfl, zq_e⟩⟩⟩⟩)
      · refine w_if_ne (tgt := 52) hX dX5_isRefused_37 rfl (by decide) (fun h37 => absurd h37 (by decide)) (fun _ => ?_)
        refine w_aload_n (i := 0) hX dX5_isRefused_40 rfl rfl rfl ?_
        refine w_aload_n (i := 0) hX dX5_isRefused_41 rfl rfl rfl ?_
        refine w_getR (j := 3) hX cl4 fl_RX5_41_4 rfl (by decide) rfl rfl dX5_isRefused_42 rfl ?_
        refine w_iload_n (i := 1) hX dX5_isRefused_45 rfl rfl rfl ?_
        refine c_V hX ml_RX5_81 cl4 dX5_isRefused_46 rfl (m_stopsStack D1 zq_I1 u hu (okLn.sm zq_n zq_k.sm hI) (fun v zq_v => by rw [zq_k _ _ (by decide) (by decide)]; exact hdp v zq_v)) rfl rfl rfl (by decide) (Nat.le_of_ble_eq_true rfl) ?_
        rintro r D2 zq_r -
        rcases zq_r with ⟨i, zq_1, zq_2, zq_3, rfl, zq_e⟩ | ⟨zq_s, rfl, rfl⟩
        all_goals try dsimp only [Option.toList, List.cons_append, List.nil_append]
        · refine w_if_eq (tgt := 54) hX dX5_isRefused_49 rfl (by decide) (fun h49 => absurd h49 (by decide)) (fun _ => ?_)
          refine w_iconst hX dX5_isRefused_52 rfl (by decide) ?_
          exact e_z hX hF dX5_isRefused_53 (by decide) (by first | exact Or.inr ⟨h5, Or.inl ⟨i, zq_1, zq_2, zq_3, zq_4, rfl, zq_e⟩⟩ | exact Or.inr ⟨h5, Or.inr ⟨zq_n, D1, zq_k, Or.inl ⟨i, zq_1, zq_2, zq_3, zq_4, rfl, zq_e⟩⟩⟩ | exact Or.inr ⟨h5, Or.inr ⟨zq_n, D1, zq_k, Or.inr ⟨zq_p, Or.inl ⟨i, zq_1, zq_2, zq_3, rfl, zq_e⟩⟩⟩⟩)
        · refine w_if_eq (tgt := 54) hX dX5_isRefused_49 rfl (by decide) (fun _ => ?_) (fun h49 => absurd (by decide) h49)
          refine w_aload_n (i := 0) hX dX5_isRefused_54 rfl rfl rfl ?_
          refine w_getR (j := 4) hX cl4 fl_RX5_48_4 rfl (by decide) rfl rfl dX5_isRefused_55 rfl ?_
          refine w_iload_n (i := 1) hX dX5_isRefused_58 rfl rfl rfl ?_
          refine c_V hX ml_RX5_85 cl7 dX5_isRefused_59 rfl (m_measure (s3 D1 u) (in_sm (s3_sm D1 u) zq_I1) u hu (hw.kp (fun k j zq_a zq_b => (s3_keep D1 u k j (by omega) (by omega) (by omega)).trans (zq_k k j (by omega) (by omega)))) (VLP.of (by rw [(zq_k.sm.tr (s3_sm D1 u)) _ _ (by decide)]; exact h0) (okLn.sm zq_n (zq_k.sm.tr (s3_sm D1 u)) hI) (okLp.sm zq_p (zq_k.sm.tr (s3_sm D1 u)) hI))) rfl rfl rfl (by decide) (Nat.le_of_ble_eq_true rfl) ?_
          rintro r D2 zq_r -
          rcases zq_r with ⟨zq_g, rfl, rfl⟩ | ⟨zq_g, rfl, rfl⟩
          all_goals try dsimp only [Option.toList, List.cons_append, List.nil_append]
          · refine w_if_ne (tgt := 80) hX dX5_isRefused_62 rfl (by decide) (fun h62 => absurd h62 (by decide)) (fun _ => ?_)
            refine w_aload_n (i := 0) hX dX5_isRefused_65 rfl rfl rfl ?_
            refine w_bipush hX dX5_isRefused_66 rfl (by decide) ?_
            refine w_iload_n (i := 1) hX dX5_isRefused_68 rfl rfl rfl ?_
            refine w_iconst hX dX5_isRefused_69 rfl (by decide) ?_
            refine c_V hX ml_RX5_56 cl4 dX5_isRefused_70 rfl (m_found _ 11 u (-1)) rfl rfl rfl (by decide) (Nat.le_of_ble_eq_true rfl) ?_
            rintro _ _ ⟨rfl, rfl⟩ -
            rw [b2_t (by decide)]
            all_goals try dsimp only [Option.toList, List.cons_append, List.nil_append]
            refine w_if_eq (tgt := 80) hX dX5_isRefused_73 rfl (by decide) (fun h73 => ?_) (fun h73 => ?_)
            · exact absurd h73 (by decide)
            · refine w_iconst hX dX5_isRefused_76 rfl (by decide) ?_
              refine w_goto (tgt := 81) hX dX5_isRefused_77 (by decide) ?_
              exact e_z hX hF dX5_isRefused_81 (by decide) (by first | exact Or.inr ⟨h5, Or.inr ⟨zq_n, D1, zq_k, Or.inr ⟨zq_p, Or.inr ⟨zq_s, Or.inr ⟨zq_g, rfl, rfl⟩⟩⟩⟩⟩ | exact Or.inr ⟨h5, Or.inr ⟨zq_n, D1, zq_k, Or.inr ⟨zq_p, Or.inr ⟨zq_s, Or.inl ⟨zq_g, rfl, rfl⟩⟩⟩⟩⟩)
          · refine w_if_ne (tgt := 80) hX dX5_isRefused_62 rfl (by decide) (fun _ => ?_) (fun h62 => absurd (by decide) h62)
            refine w_iconst hX dX5_isRefused_80 rfl (by decide) ?_
            exact e_z hX hF dX5_isRefused_81 (by decide) (by first | exact Or.inr ⟨h5, Or.inr ⟨zq_n, D1, zq_k, Or.inr ⟨zq_p, Or.inr ⟨zq_s, Or.inr ⟨zq_g, rfl, rfl⟩⟩⟩⟩⟩ | exact Or.inr ⟨h5, Or.inr ⟨zq_n, D1, zq_k, Or.inr ⟨zq_p, Or.inr ⟨zq_s, Or.inl ⟨zq_g, rfl, rfl⟩⟩⟩⟩⟩)
  · rw [b2_n] at h5
    refine w_aload_n (i := 0) hX dX5_isRefused_8 rfl rfl rfl ?_
    refine w_iconst hX dX5_isRefused_9 rfl (by decide) ?_
    refine w_iload_n (i := 1) hX dX5_isRefused_10 rfl rfl rfl ?_
    refine w_iconst hX dX5_isRefused_11 rfl (by decide) ?_
    refine c_V hX ml_RX5_56 cl4 dX5_isRefused_12 rfl (m_found D 1 u (-1)) rfl rfl rfl (by decide) (Nat.le_of_ble_eq_true rfl) ?_
    rintro _ _ ⟨rfl, rfl⟩ -
    all_goals try dsimp only [Option.toList, List.cons_append, List.nil_append]
    exact e_z hX hF dX5_isRefused_15 (b2_01 _) (Or.inl ⟨h5, by rw [b2_t (by decide)], rfl⟩)
