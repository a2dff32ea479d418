/-! FormPass: the loop over the counters, faultAt -/
set_option maxRecDepth 100000 in
set_option maxHeartbeats 4000000 in
theorem l_counter {X : Cx} {Q : State → Prop} {P : Option AV → Dd → Prop} (hX : GX X yX1_namesCounterAsCell cX1_namesCounterAsCell 10 (some .boolean) 3 0 0) (hF : FX X Q P) (D : Dd) (hI : InC D) (k : Nat) (u c ow f sz : Int) (hsz : sz ≤ 256) (hc : 0 ≤ c) (hfi : inI f) (hyes : (∃ i : Int, 0 ≤ i ∧ i < sz ∧ (D (atF D ow i) 0 = 12 ∨ D (atF D ow i) 0 = 13) ∧ f ≤ D (atF D ow i) 1 ∧ D (atF D ow i) 1 < f + c) → P (some (vI 1)) D) (hno : ¬ (∃ i : Int, 0 ≤ i ∧ i < sz ∧ (D (atF D ow i) 0 = 12 ∨ D (atF D ow i) 0 = 13) ∧ f ≤ D (atF D ow i) 1 ∧ D (atF D ow i) 1 < f + c) → P (some (vI 0)) D) : ∀ (m : Nat) (i : Int) (w : AV), (sz - i).toNat < m → 0 ≤ i → i ≤ 256 → (∀ j : Int, 0 ≤ j → j < i → ¬ ((D (atF D ow j) 0 = 12 ∨ D (atF D ow j) 0 = 13) ∧ f ≤ D (atF D ow j) 1 ∧ D (atF D ow j) 1 < f + c)) → W0 X Q 50 [vR 265, vI u, vR k, vI c, vI ow, vL f, vN, vI sz, vI i, w] [] D := by
  intro m
  induction m with
  | zero =>
    intro i w hm h0 h256 hn
    exact absurd hm (Nat.not_lt_zero _)
  | succ m ih =>
    intro i w hm h0 h256 hn
    refine w_iload hX dX1_namesCounterAsCell_50 rfl rfl ?_
    refine w_iload hX dX1_namesCounterAsCell_52 rfl rfl ?_
    refine w_icmp_ge (tgt := 113) hX dX1_namesCounterAsCell_54 rfl (by decide) (fun h54 => ?_) (fun h54 => ?_)
    · refine w_iconst hX dX1_namesCounterAsCell_113 rfl (by decide) ?_
      exact e_z hX hF dX1_namesCounterAsCell_114 (by decide) (hno (fun ⟨j, h1, h2, h3⟩ => hn j h1 (by omega) h3))
    · refine w_aload_n (i := 0) hX dX1_namesCounterAsCell_57 rfl rfl rfl ?_
      refine w_getR (j := 0) hX cl1 fl_RX1_9_1 rfl (by decide) rfl rfl dX1_namesCounterAsCell_58 rfl ?_
      refine w_iload hX dX1_namesCounterAsCell_61 rfl rfl ?_
      refine w_iload hX dX1_namesCounterAsCell_63 rfl rfl ?_
      refine c_V hX ml_RX1_15 cl0 dX1_namesCounterAsCell_65 rfl (m_at D hI ow i) rfl rfl rfl (by decide) (Nat.le_of_ble_eq_true rfl) ?_
      rintro _ _ ⟨rfl, rfl⟩ -
      all_goals try dsimp only [Option.toList, List.cons_append, List.nil_append]
      refine w_astore hX dX1_namesCounterAsCell_68 rfl (by decide) ?_
      dsimp only [st1X, st2X, klX_I, klX_L, klX_R, klX_S, klX_N]
      refine w_aload hX dX1_namesCounterAsCell_70 rfl rfl ?_
      refine c_V hX ml_RX1_73 cl2 dX1_namesCounterAsCell_72 rfl (m_namesCounter D (atF D ow i) (at_ins hI ow i)) rfl (K0_ins (at_ins hI ow i)) rfl (by decide) (Nat.le_of_ble_eq_true rfl) ?_
      rintro _ _ ⟨rfl, rfl⟩ -
      all_goals try dsimp only [Option.toList, List.cons_append, List.nil_append]
      refine w_if_eq (tgt := 107) hX dX1_namesCounterAsCell_75 rfl (by decide) (fun h75 => ?_) (fun h75 => ?_)
      · rw [b2_0] at h75
        refine w_iinc hX dX1_namesCounterAsCell_107 rfl rfl (by decide) (by omega) ?_
        dsimp only [st1X, st2X, klX_I, klX_L, klX_R, klX_S, klX_N]
        refine w_goto (tgt := 50) hX dX1_namesCounterAsCell_110 (by decide) ?_
        exact ih (i + 1) _ (by omega) (by omega) (by omega) (fun j hj0 hj1 => by
          by_cases hj : j = i
          · subst hj; omega
          · exact hn j hj0 (by omega))
      · rw [b2_n] at h75
        refine w_aload hX dX1_namesCounterAsCell_78 rfl rfl ?_
        refine w_getI (j := 1) hX cl2 fl_RX1_48_2 (K0_ins (at_ins hI ow i)) (by decide) rfl dX1_namesCounterAsCell_80 rfl ?_
        refine w_i2l hX dX1_namesCounterAsCell_83 rfl ?_
        refine w_lload hX dX1_namesCounterAsCell_84 rfl rfl ?_
        refine w_lcmp hX dX1_namesCounterAsCell_86 rfl ?_
        refine w_if_lt (tgt := 107) hX dX1_namesCounterAsCell_87 rfl (by decide) (fun h87 => ?_) (fun h87 => ?_)
        · rw [lc_lt] at h87
          refine w_iinc hX dX1_namesCounterAsCell_107 rfl rfl (by decide) (by omega) ?_
          dsimp only [st1X, st2X, klX_I, klX_L, klX_R, klX_S, klX_N]
          refine w_goto (tgt := 50) hX dX1_namesCounterAsCell_110 (by decide) ?_
          exact ih (i + 1) _ (by omega) (by omega) (by omega) (fun j hj0 hj1 => by
            by_cases hj : j = i
            · subst hj; omega
            · exact hn j hj0 (by omega))
        · rw [lc_lt] at h87
          refine w_aload hX dX1_namesCounterAsCell_90 rfl rfl ?_
          refine w_getI (j := 1) hX cl2 fl_RX1_48_2 (K0_ins (at_ins hI ow i)) (by decide) rfl dX1_namesCounterAsCell_92 rfl ?_
          refine w_i2l hX dX1_namesCounterAsCell_95 rfl ?_
          refine w_lload hX dX1_namesCounterAsCell_96 rfl rfl ?_
          refine w_iload_n (i := 3) hX dX1_namesCounterAsCell_98 rfl rfl rfl ?_
          refine w_i2l hX dX1_namesCounterAsCell_99 rfl ?_
          refine w_ok (fun _ ol os => ?_)
          have oc : inI c := ol.I2 (i := 3) rfl
          refine w_ladd hX dX1_namesCounterAsCell_100 rfl (by have of : inI f := ‹inI f›; omega) ?_
          refine w_lcmp hX dX1_namesCounterAsCell_101 rfl ?_
          refine w_if_ge (tgt := 107) hX dX1_namesCounterAsCell_102 rfl (by decide) (fun h102 => ?_) (fun h102 => ?_)
          · rw [lc_ge] at h102
            refine w_iinc hX dX1_namesCounterAsCell_107 rfl rfl (by decide) (by omega) ?_
            dsimp only [st1X, st2X, klX_I, klX_L, klX_R, klX_S, klX_N]
            refine w_goto (tgt := 50) hX dX1_namesCounterAsCell_110 (by decide) ?_
            exact ih (i + 1) _ (by omega) (by omega) (by omega) (fun j hj0 hj1 => by
              by_cases hj : j = i
              · subst hj; omega
              · exact hn j hj0 (by omega))
          · rw [lc_ge] at h102
            refine w_iconst hX dX1_namesCounterAsCell_105 rfl (by decide) ?_
            exact e_z hX hF dX1_namesCounterAsCell_106 (by decide) (hyes ⟨i, h0, by omega, by omega, by omega, by omega⟩)

set_option maxRecDepth 100000 in
set_option maxHeartbeats 4000000 in
theorem m_namesCounterAsCell (D : Dd) (hI : InC D) (k : Nat) (hk : isIns k) (u : Int) : MC 3 yX1_namesCounterAsCell cX1_namesCounterAsCell 10 (some .boolean) [vR 265, vI u, vR k] D (Is (some (vI (b2 (ctP D u (D k 0) (D k 1) (D k 2) (D k 3))))) D) := by
  refine MC.mk [vR 265, vI u, vR k, vN, vN, vN, vN, vN, vN, vN] (by decide) (Nat.le_of_ble_eq_true rfl) rfl (fun X Q hX hF hok hol => ?_)
  have h8 := hI.2.1
  refine w_aload_n (i := 0) hX dX1_namesCounterAsCell_0 rfl rfl rfl ?_
  refine w_aload_n (i := 2) hX dX1_namesCounterAsCell_1 rfl rfl rfl ?_
  refine c_V hX ml_RX1_59 cl1 dX1_namesCounterAsCell_2 rfl (m_cellsNamed D hI k hk) rfl rfl rfl (by decide) (Nat.le_of_ble_eq_true rfl) ?_
  rintro _ _ ⟨rfl, rfl⟩ -
  refine w_nameI (fun c hc => ?_)
  all_goals try dsimp only [Option.toList, List.cons_append, List.nil_append]
  refine w_istore_n (i := 3) hX dX1_namesCounterAsCell_5 rfl rfl (by decide) ?_
  dsimp only [st1X, st2X, klX_I, klX_L, klX_R, klX_S, klX_N]
  refine w_iload_n (i := 3) hX dX1_namesCounterAsCell_6 rfl rfl rfl ?_
  refine w_iconst hX dX1_namesCounterAsCell_7 rfl (by decide) ?_
  refine w_icmp_lt (tgt := 18) hX dX1_namesCounterAsCell_8 rfl (by decide) (fun h8 => ?_) (fun h8 => ?_)
  · refine w_iconst hX dX1_namesCounterAsCell_18 rfl (by decide) ?_
    exact e_z hX hF dX1_namesCounterAsCell_19 (by decide) ⟨by rw [b2_f (by unfold ctP; rw [← hc]; intro h; omega)], rfl⟩
  · refine w_aload_n (i := 2) hX dX1_namesCounterAsCell_11 rfl rfl rfl ?_
    refine c_V hX ml_RX1_73 cl2 dX1_namesCounterAsCell_12 rfl (m_namesCounter D k hk) rfl (K0_ins hk) rfl (by decide) (Nat.le_of_ble_eq_true rfl) ?_
    rintro _ _ ⟨rfl, rfl⟩ -
    all_goals try dsimp only [Option.toList, List.cons_append, List.nil_append]
    refine w_if_eq (tgt := 20) hX dX1_namesCounterAsCell_15 rfl (by decide) (fun h15 => ?_) (fun h15 => ?_)
    · rw [b2_0] at h15
      refine w_aload_n (i := 0) hX dX1_namesCounterAsCell_20 rfl rfl rfl ?_
      refine w_iload_n (i := 1) hX dX1_namesCounterAsCell_21 rfl rfl rfl ?_
      refine w_aload_n (i := 2) hX dX1_namesCounterAsCell_22 rfl rfl rfl ?_
      refine c_V hX ml_RX1_66 cl1 dX1_namesCounterAsCell_23 rfl (m_ownerOfCells D k hk u) rfl rfl rfl (by decide) (Nat.le_of_ble_eq_true rfl) ?_
      rintro _ _ ⟨rfl, rfl⟩ -
      refine w_nameI (fun ow how => ?_)
      all_goals try dsimp only [Option.toList, List.cons_append, List.nil_append]
      refine w_istore hX dX1_namesCounterAsCell_26 rfl (by decide) ?_
      dsimp only [st1X, st2X, klX_I, klX_L, klX_R, klX_S, klX_N]
      refine w_aload_n (i := 0) hX dX1_namesCounterAsCell_28 rfl rfl rfl ?_
      refine w_aload_n (i := 2) hX dX1_namesCounterAsCell_29 rfl rfl rfl ?_
      refine c_V hX ml_RX1_63 cl1 dX1_namesCounterAsCell_30 rfl (m_firstCell D k hk) rfl rfl rfl (by decide) (Nat.le_of_ble_eq_true rfl) ?_
      rintro _ _ ⟨rfl, rfl⟩ -
      refine w_nameI (fun f hf => ?_)
      refine w_ok (fun _ ol os => ?_)
      have of : inI f := os.head
      all_goals try dsimp only [Option.toList, List.cons_append, List.nil_append]
      refine w_i2l hX dX1_namesCounterAsCell_33 rfl ?_
      refine w_lstore hX dX1_namesCounterAsCell_34 rfl (by decide) ?_
      dsimp only [st1X, st2X, klX_I, klX_L, klX_R, klX_S, klX_N]
      refine w_aload_n (i := 0) hX dX1_namesCounterAsCell_36 rfl rfl rfl ?_
      refine w_getR (j := 0) hX cl1 fl_RX1_9_1 rfl (by decide) rfl rfl dX1_namesCounterAsCell_37 rfl ?_
      refine w_iload hX dX1_namesCounterAsCell_40 rfl rfl ?_
      refine c_V hX ml_RX1_77 cl0 dX1_namesCounterAsCell_42 rfl (m_sizeOf D hI ow) rfl rfl rfl (by decide) (Nat.le_of_ble_eq_true rfl) ?_
      rintro _ _ ⟨rfl, rfl⟩ -
      refine w_nameI (fun sz hsz => ?_)
      all_goals try dsimp only [Option.toList, List.cons_append, List.nil_append]
      refine w_istore hX dX1_namesCounterAsCell_45 rfl (by decide) ?_
      dsimp only [st1X, st2X, klX_I, klX_L, klX_R, klX_S, klX_N]
      refine w_iconst hX dX1_namesCounterAsCell_47 rfl (by decide) ?_
      refine w_istore hX dX1_namesCounterAsCell_48 rfl (by decide) ?_
      dsimp only [st1X, st2X, klX_I, klX_L, klX_R, klX_S, klX_N]
      have hs : sz ≤ 256 := by
        rw [hsz, szF]
        split
        · rename_i h; have := hI.u h.1 h.2; omega
        · omega
      exact l_counter hX hF D hI k u c ow f sz hs (by omega) of (fun h => ⟨by rw [b2_t (by unfold ctP; rw [← hc, ← how, ← hf, ← hsz]; exact ⟨by omega, h15, h⟩)], rfl⟩) (fun h => ⟨by rw [b2_f (by unfold ctP; rw [← hc, ← how, ← hf, ← hsz]; exact fun q => h q.2.2)], rfl⟩) _ 0 _ (Nat.lt_succ_self _) (by omega) (by omega) (fun j h1 h2 => by omega)
    · rw [b2_n] at h15
      refine w_iconst hX dX1_namesCounterAsCell_18 rfl (by decide) ?_
      exact e_z hX hF dX1_namesCounterAsCell_19 (by decide) ⟨by rw [b2_f (by unfold ctP; rw [← hc]; intro h; omega)], rfl⟩

set_option maxRecDepth 100000 in
set_option maxHeartbeats 4000000 in
theorem m_formAt (D : Dd) (hI : InC D) (u i : Int) : MC 4 yX1_faultAt cX1_faultAt 4 (some .int) [vR 265, vI u, vI i] D (Is (some (vI (lnF D u i))) D) := by
  refine MC.mk [vR 265, vI u, vI i, vN] (by decide) (Nat.le_of_ble_eq_true rfl) rfl (fun X Q hX hF hok hol => ?_)
  have hk := at_ins hI u i
  refine w_aload_n (i := 0) hX dX1_faultAt_0 rfl rfl rfl ?_
  refine w_getR (j := 0) hX cl1 fl_RX1_9_1 rfl (by decide) rfl rfl dX1_faultAt_1 rfl ?_
  refine w_iload_n (i := 1) hX dX1_faultAt_4 rfl rfl rfl ?_
  refine w_iload_n (i := 2) hX dX1_faultAt_5 rfl rfl rfl ?_
  refine c_V hX ml_RX1_15 cl0 dX1_faultAt_6 rfl (m_at D hI u i) rfl rfl rfl (by decide) (Nat.le_of_ble_eq_true rfl) ?_
  rintro _ _ ⟨rfl, rfl⟩ -
  all_goals try dsimp only [Option.toList, List.cons_append, List.nil_append]
  refine w_astore_n (i := 3) hX dX1_faultAt_9 rfl rfl (by decide) ?_
  dsimp only [st1X, st2X, klX_I, klX_L, klX_R, klX_S, klX_N]
  refine w_aload_n (i := 0) hX dX1_faultAt_10 rfl rfl rfl ?_
  refine w_aload_n (i := 3) hX dX1_faultAt_11 rfl rfl rfl ?_
  refine c_V hX ml_RX1_21 cl1 dX1_faultAt_12 rfl (m_hasWrongForm D _ hk) rfl rfl rfl (by decide) (Nat.le_of_ble_eq_true rfl) ?_
  rintro _ _ ⟨rfl, rfl⟩ -
  all_goals try dsimp only [Option.toList, List.cons_append, List.nil_append]
  refine w_if_eq (tgt := 20) hX dX1_faultAt_15 rfl (by decide) (fun h15 => ?_) (fun h15 => ?_)
  · rw [b2_0] at h15
    refine w_aload_n (i := 0) hX dX1_faultAt_20 rfl rfl rfl ?_
    refine w_iload_n (i := 1) hX dX1_faultAt_21 rfl rfl rfl ?_
    refine w_aload_n (i := 3) hX dX1_faultAt_22 rfl rfl rfl ?_
    refine c_V hX ml_RX1_25 cl1 dX1_faultAt_23 rfl (m_namesWrongUnit D hI _ hk u) rfl rfl rfl (by decide) (Nat.le_of_ble_eq_true rfl) ?_
    rintro _ _ ⟨rfl, rfl⟩ -
    all_goals try dsimp only [Option.toList, List.cons_append, List.nil_append]
    refine w_if_eq (tgt := 31) hX dX1_faultAt_26 rfl (by decide) (fun h26 => ?_) (fun h26 => ?_)
    · rw [b2_0] at h26
      refine w_aload_n (i := 0) hX dX1_faultAt_31 rfl rfl rfl ?_
      refine w_iload_n (i := 1) hX dX1_faultAt_32 rfl rfl rfl ?_
      refine w_aload_n (i := 3) hX dX1_faultAt_33 rfl rfl rfl ?_
      refine c_V hX ml_RX1_29 cl1 dX1_faultAt_34 rfl (m_namesCellOutside D hI _ hk u) rfl rfl rfl (by decide) (Nat.le_of_ble_eq_true rfl) ?_
      rintro _ _ ⟨rfl, rfl⟩ -
      all_goals try dsimp only [Option.toList, List.cons_append, List.nil_append]
      refine w_if_eq (tgt := 42) hX dX1_faultAt_37 rfl (by decide) (fun h37 => ?_) (fun h37 => ?_)
      · rw [b2_0] at h37
        refine w_aload_n (i := 0) hX dX1_faultAt_42 rfl rfl rfl ?_
        refine w_iload_n (i := 1) hX dX1_faultAt_43 rfl rfl rfl ?_
        refine w_aload_n (i := 3) hX dX1_faultAt_44 rfl rfl rfl ?_
        refine c_V hX ml_RX1_32 cl1 dX1_faultAt_45 rfl (m_namesCounterAsCell D hI _ hk u) rfl rfl rfl (by decide) (Nat.le_of_ble_eq_true rfl) ?_
        rintro _ _ ⟨rfl, rfl⟩ -
        all_goals try dsimp only [Option.toList, List.cons_append, List.nil_append]
        refine w_if_eq (tgt := 53) hX dX1_faultAt_48 rfl (by decide) (fun h48 => ?_) (fun h48 => ?_)
        · rw [b2_0] at h48
          refine w_aload_n (i := 0) hX dX1_faultAt_53 rfl rfl rfl ?_
          refine w_iload_n (i := 1) hX dX1_faultAt_54 rfl rfl rfl ?_
          refine w_iload_n (i := 2) hX dX1_faultAt_55 rfl rfl rfl ?_
          refine w_aload_n (i := 3) hX dX1_faultAt_56 rfl rfl rfl ?_
          refine c_V hX ml_RX1_35 cl1 dX1_faultAt_57 rfl (m_goesWrong D hI _ hk u i) rfl rfl rfl (by decide) (Nat.le_of_ble_eq_true rfl) ?_
          rintro _ _ ⟨rfl, rfl⟩ -
          all_goals try dsimp only [Option.toList, List.cons_append, List.nil_append]
          refine w_if_eq (tgt := 68) hX dX1_faultAt_60 rfl (by decide) (fun h60 => ?_) (fun h60 => ?_)
          · rw [b2_0] at h60
            refine w_iconst hX dX1_faultAt_68 rfl (by decide) ?_
            exact e_i hX hF dX1_faultAt_69 ⟨by first | rw [lnF, it_f h15, it_f h26, it_f h37, it_f h48, it_t h60] | rw [lnF, it_f h15, it_f h26, it_f h37, it_f h48, it_f h60], rfl⟩
          · rw [b2_n] at h60
            refine w_bipush hX dX1_faultAt_63 rfl (by decide) ?_
            refine w_goto (tgt := 69) hX dX1_faultAt_65 (by decide) ?_
            exact e_i hX hF dX1_faultAt_69 ⟨by first | rw [lnF, it_f h15, it_f h26, it_f h37, it_f h48, it_t h60] | rw [lnF, it_f h15, it_f h26, it_f h37, it_f h48, it_f h60], rfl⟩
        · rw [b2_n] at h48
          refine w_iconst hX dX1_faultAt_51 rfl (by decide) ?_
          exact e_i hX hF dX1_faultAt_52 ⟨by rw [lnF, it_f h15, it_f h26, it_f h37, it_t h48], rfl⟩
      · rw [b2_n] at h37
        refine w_iconst hX dX1_faultAt_40 rfl (by decide) ?_
        exact e_i hX hF dX1_faultAt_41 ⟨by rw [lnF, it_f h15, it_f h26, it_t h37], rfl⟩
    · rw [b2_n] at h26
      refine w_iconst hX dX1_faultAt_29 rfl (by decide) ?_
      exact e_i hX hF dX1_faultAt_30 ⟨by rw [lnF, it_f h15, it_t h26], rfl⟩
  · rw [b2_n] at h15
    refine w_iconst hX dX1_faultAt_18 rfl (by decide) ?_
    exact e_i hX hF dX1_faultAt_19 ⟨by rw [lnF, it_t h15], rfl⟩

set_option maxRecDepth 100000 in
set_option maxHeartbeats 4000000 in
theorem m_formOpen (D : Dd) (u : Int) : MC 1 yX1_open cX1_open 2 none [vR 265, vI u] D (Is none D) := by
  refine MC.mk [vR 265, vI u] (by decide) (Nat.le_of_ble_eq_true rfl) rfl (fun X Q hX hF hok hol => ?_)
  exact e_v hX hF dX1_open_0 ⟨rfl, rfl⟩
