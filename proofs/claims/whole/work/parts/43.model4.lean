/-! The reference: targets, a line, loops -/
/-- from and many -/
def FM (D : Dd) : Prop := 0 ≤ D 279 10 ∧ 0 ≤ D 279 11 ∧ D 279 10 + D 279 11 ≤ 256

set_option maxRecDepth 100000 in
set_option maxHeartbeats 4000000 in
theorem r_numberAt (D : Dd) (hF0 : FM D) (k : Int) (hk : 0 ≤ k ∧ k < D 279 11) : MC 1 yX10_numberAt cX10_numberAt 2 (some .int) [vR 279, vI k] D (Is (some (vI ((D 283 (D 279 10 + k).toNat)))) D) := by
  refine MC.mk [vR 279, vI k] (by decide) (Nat.le_of_ble_eq_true rfl) rfl (fun X Q hX hF hok hol => ?_)
  unfold FM at hF0
  refine w_aload_n (i := 0) hX dX10_numberAt_0 rfl rfl rfl ?_
  refine w_getR (j := 6) hX cl9 fl_RX10_19_9 rfl (by decide) rfl rfl dX10_numberAt_1 rfl ?_
  refine w_aload_n (i := 0) hX dX10_numberAt_4 rfl rfl rfl ?_
  refine w_getI (j := 10) hX cl9 fl_RX10_125_9 rfl (by decide) rfl dX10_numberAt_5 rfl ?_
  refine w_iload_n (i := 1) hX dX10_numberAt_8 rfl rfl rfl ?_
  refine w_iadd hX dX10_numberAt_9 rfl (by omega) ?_
  refine w_iald hX rfl (by omega) (by omega) dX10_numberAt_10 rfl ?_
  exact e_i hX hF dX10_numberAt_11 ⟨rfl, rfl⟩

abbrev gwM (D : Dd) (k n a b : Int) : Prop := ((n = 10 ∨ n = 11) ∧ ¬ (k + 1 ≤ a ∧ a ≤ D 279 11)) ∨ (n = 13 ∧ ¬ (k + 1 ≤ b ∧ b ≤ D 279 11)) ∨ (n = 14 ∧ ¬ (0 ≤ a ∧ a ≤ k - 1))

set_option maxRecDepth 100000 in
set_option maxHeartbeats 4000000 in
theorem r_goesWrong (D : Dd) (hF0 : FM D) (k : Int) (hk : 0 ≤ k ∧ k < D 279 11) : MC 2 yX10_goesWrong cX10_goesWrong 2 (some .boolean) [vR 279, vI k] D (Is (some (vI (b2 (gwM D k ((D 283 (D 279 10 + k).toNat)) ((D 284 (D 279 10 + k).toNat)) ((D 285 (D 279 10 + k).toNat)))))) D) := by
  refine MC.mk [vR 279, vI k] (by decide) (Nat.le_of_ble_eq_true rfl) rfl (fun X Q hX hF hok hol => ?_)
  have zq_F := hF0
  unfold FM at hF0
  refine w_aload_n (i := 0) hX dX10_goesWrong_0 rfl rfl rfl ?_
  refine w_iload_n (i := 1) hX dX10_goesWrong_1 rfl rfl rfl ?_
  refine c_V hX ml_RX10_128 cl9 dX10_goesWrong_2 rfl (r_numberAt D zq_F k hk) rfl rfl rfl (by decide) (Nat.le_of_ble_eq_true rfl) ?_
  rintro _ _ ⟨rfl, rfl⟩ -
  all_goals try dsimp only [Option.toList, List.cons_append, List.nil_append]
  refine w_nameI (fun sw5 hsw5 => ?_)
  by_cases g5_0 : sw5 = 10 ∨ sw5 = 11
  · refine w_tsw (tgt := 40) hX dX10_goesWrong_5 rfl (by rcases g5_0 with w | w <;> rw [w] <;> decide) ?_
    refine w_aload_n (i := 0) hX dX10_goesWrong_40 rfl rfl rfl ?_
    refine w_getR (j := 7) hX cl9 fl_RX10_22_9 rfl (by decide) rfl rfl dX10_goesWrong_41 rfl ?_
    refine w_aload_n (i := 0) hX dX10_goesWrong_44 rfl rfl rfl ?_
    refine w_getI (j := 10) hX cl9 fl_RX10_125_9 rfl (by decide) rfl dX10_goesWrong_45 rfl ?_
    refine w_iload_n (i := 1) hX dX10_goesWrong_48 rfl rfl rfl ?_
    refine w_iadd hX dX10_goesWrong_49 rfl (by omega) ?_
    refine w_iald hX rfl (by omega) (by omega) dX10_goesWrong_50 rfl ?_
    refine w_i2l hX dX10_goesWrong_51 rfl ?_
    refine w_iload_n (i := 1) hX dX10_goesWrong_52 rfl rfl rfl ?_
    refine w_i2l hX dX10_goesWrong_53 rfl ?_
    refine w_lconst1 hX dX10_goesWrong_54 rfl ?_
    refine w_ladd hX dX10_goesWrong_55 rfl (by omega) ?_
    refine w_aload_n (i := 0) hX dX10_goesWrong_56 rfl rfl rfl ?_
    refine w_getI (j := 11) hX cl9 fl_RX10_131_9 rfl (by decide) rfl dX10_goesWrong_57 rfl ?_
    refine w_i2l hX dX10_goesWrong_60 rfl ?_
    refine c_S hX ml_RX10_99 dX10_goesWrong_61 rfl (r_isIn D _ _ _) rfl rfl (by decide) (Nat.le_of_ble_eq_true rfl) ?_
    rintro _ _ ⟨rfl, rfl⟩ -
    all_goals try dsimp only [Option.toList, List.cons_append, List.nil_append]
    refine w_if_ne (tgt := 71) hX dX10_goesWrong_64 rfl (by decide) (fun h64 => ?_) (fun h64 => ?_)
    · rw [b2_ne] at h64
      refine w_iconst hX dX10_goesWrong_71 rfl (by decide) ?_
      exact e_z hX hF dX10_goesWrong_72 (by decide) ⟨by first | rw [b2_t (by (try unfold gwM); omega)] | rw [b2_f (by (try unfold gwM); omega)], rfl⟩
    · rw [b2_nn] at h64
      refine w_iconst hX dX10_goesWrong_67 rfl (by decide) ?_
      refine w_goto (tgt := 72) hX dX10_goesWrong_68 (by decide) ?_
      exact e_z hX hF dX10_goesWrong_72 (by decide) ⟨by first | rw [b2_t (by (try unfold gwM); omega)] | rw [b2_f (by (try unfold gwM); omega)], rfl⟩
  by_cases g5_1 : sw5 = 13
  · refine w_tsw (tgt := 73) hX dX10_goesWrong_5 rfl (by rw [g5_1]; decide) ?_
    refine w_aload_n (i := 0) hX dX10_goesWrong_73 rfl rfl rfl ?_
    refine w_getR (j := 8) hX cl9 fl_RX10_25_9 rfl (by decide) rfl rfl dX10_goesWrong_74 rfl ?_
    refine w_aload_n (i := 0) hX dX10_goesWrong_77 rfl rfl rfl ?_
    refine w_getI (j := 10) hX cl9 fl_RX10_125_9 rfl (by decide) rfl dX10_goesWrong_78 rfl ?_
    refine w_iload_n (i := 1) hX dX10_goesWrong_81 rfl rfl rfl ?_
    refine w_iadd hX dX10_goesWrong_82 rfl (by omega) ?_
    refine w_iald hX rfl (by omega) (by omega) dX10_goesWrong_83 rfl ?_
    refine w_i2l hX dX10_goesWrong_84 rfl ?_
    refine w_iload_n (i := 1) hX dX10_goesWrong_85 rfl rfl rfl ?_
    refine w_i2l hX dX10_goesWrong_86 rfl ?_
    refine w_lconst1 hX dX10_goesWrong_87 rfl ?_
    refine w_ladd hX dX10_goesWrong_88 rfl (by omega) ?_
    refine w_aload_n (i := 0) hX dX10_goesWrong_89 rfl rfl rfl ?_
    refine w_getI (j := 11) hX cl9 fl_RX10_131_9 rfl (by decide) rfl dX10_goesWrong_90 rfl ?_
    refine w_i2l hX dX10_goesWrong_93 rfl ?_
    refine c_S hX ml_RX10_99 dX10_goesWrong_94 rfl (r_isIn D _ _ _) rfl rfl (by decide) (Nat.le_of_ble_eq_true rfl) ?_
    rintro _ _ ⟨rfl, rfl⟩ -
    all_goals try dsimp only [Option.toList, List.cons_append, List.nil_append]
    refine w_if_ne (tgt := 104) hX dX10_goesWrong_97 rfl (by decide) (fun h97 => ?_) (fun h97 => ?_)
    · rw [b2_ne] at h97
      refine w_iconst hX dX10_goesWrong_104 rfl (by decide) ?_
      exact e_z hX hF dX10_goesWrong_105 (by decide) ⟨by first | rw [b2_t (by (try unfold gwM); omega)] | rw [b2_f (by (try unfold gwM); omega)], rfl⟩
    · rw [b2_nn] at h97
      refine w_iconst hX dX10_goesWrong_100 rfl (by decide) ?_
      refine w_goto (tgt := 105) hX dX10_goesWrong_101 (by decide) ?_
      exact e_z hX hF dX10_goesWrong_105 (by decide) ⟨by first | rw [b2_t (by (try unfold gwM); omega)] | rw [b2_f (by (try unfold gwM); omega)], rfl⟩
  by_cases g5_2 : sw5 = 14
  · refine w_tsw (tgt := 106) hX dX10_goesWrong_5 rfl (by rw [g5_2]; decide) ?_
    refine w_aload_n (i := 0) hX dX10_goesWrong_106 rfl rfl rfl ?_
    refine w_getR (j := 7) hX cl9 fl_RX10_22_9 rfl (by decide) rfl rfl dX10_goesWrong_107 rfl ?_
    refine w_aload_n (i := 0) hX dX10_goesWrong_110 rfl rfl rfl ?_
    refine w_getI (j := 10) hX cl9 fl_RX10_125_9 rfl (by decide) rfl dX10_goesWrong_111 rfl ?_
    refine w_iload_n (i := 1) hX dX10_goesWrong_114 rfl rfl rfl ?_
    refine w_iadd hX dX10_goesWrong_115 rfl (by omega) ?_
    refine w_iald hX rfl (by omega) (by omega) dX10_goesWrong_116 rfl ?_
    refine w_i2l hX dX10_goesWrong_117 rfl ?_
    refine w_lconst0 hX dX10_goesWrong_118 rfl ?_
    refine w_iload_n (i := 1) hX dX10_goesWrong_119 rfl rfl rfl ?_
    refine w_i2l hX dX10_goesWrong_120 rfl ?_
    refine w_lconst1 hX dX10_goesWrong_121 rfl ?_
    refine w_lsub hX dX10_goesWrong_122 rfl (by omega) ?_
    refine c_S hX ml_RX10_99 dX10_goesWrong_123 rfl (r_isIn D _ _ _) rfl rfl (by decide) (Nat.le_of_ble_eq_true rfl) ?_
    rintro _ _ ⟨rfl, rfl⟩ -
    all_goals try dsimp only [Option.toList, List.cons_append, List.nil_append]
    refine w_if_ne (tgt := 133) hX dX10_goesWrong_126 rfl (by decide) (fun h126 => ?_) (fun h126 => ?_)
    · rw [b2_ne] at h126
      refine w_iconst hX dX10_goesWrong_133 rfl (by decide) ?_
      exact e_z hX hF dX10_goesWrong_134 (by decide) ⟨by first | rw [b2_t (by (try unfold gwM); omega)] | rw [b2_f (by (try unfold gwM); omega)], rfl⟩
    · rw [b2_nn] at h126
      refine w_iconst hX dX10_goesWrong_129 rfl (by decide) ?_
      refine w_goto (tgt := 134) hX dX10_goesWrong_130 (by decide) ?_
      exact e_z hX hF dX10_goesWrong_134 (by decide) ⟨by first | rw [b2_t (by (try unfold gwM); omega)] | rw [b2_f (by (try unfold gwM); omega)], rfl⟩
  refine w_tsw (tgt := 135) hX dX10_goesWrong_5 rfl (by rw [sw_dflt [10, 11, 13, 14] (by decide) (by simp only [List.mem_cons, List.not_mem_nil, or_false]; omega)]; decide) ?_
  refine w_iconst hX dX10_goesWrong_135 rfl (by decide) ?_
  exact e_z hX hF dX10_goesWrong_136 (by decide) ⟨by first | rw [b2_t (by (try unfold gwM); omega)] | rw [b2_f (by (try unfold gwM); omega)], rfl⟩

/-- the fault of a line -/
noncomputable def lnM (D : Dd) (k u : Int) : Int := itP (wfP ((D 283 (D 279 10 + k).toNat)) ((D 284 (D 279 10 + k).toNat)) ((D 285 (D 279 10 + k).toNat)) ((D 286 (D 279 10 + k).toNat))) 2 (itP (wuM D u ((D 283 (D 279 10 + k).toNat)) ((D 284 (D 279 10 + k).toNat))) 3 (itP (coM D u ((D 283 (D 279 10 + k).toNat)) ((D 284 (D 279 10 + k).toNat)) ((D 285 (D 279 10 + k).toNat)) ((D 286 (D 279 10 + k).toNat))) 4 (itP (ctM D u ((D 283 (D 279 10 + k).toNat)) ((D 284 (D 279 10 + k).toNat)) ((D 285 (D 279 10 + k).toNat)) ((D 286 (D 279 10 + k).toNat))) 5 (itP (gwM D k ((D 283 (D 279 10 + k).toNat)) ((D 284 (D 279 10 + k).toNat)) ((D 285 (D 279 10 + k).toNat))) 6 0))))
theorem wu_n {D : Dd} {u n a : Int} (h : ¬ wuM D u n a) : (n = 5 ∨ n = 6 ∨ n = 15 → 0 ≤ a ∧ a ≤ u - 1) := by
  unfold wuM at h
  intro q
  omega

set_option maxRecDepth 100000 in
set_option maxHeartbeats 4000000 in
theorem r_lineFault (D : Dd) (hF0 : FM D) (hM : MF D) (k u : Int) (hk : 0 ≤ k ∧ k < D 279 11) (hu : 0 ≤ u ∧ u < D 279 1) : MC 3 yX10_lineFault cX10_lineFault 4 (some .int) [vR 279, vI k, vI u] D (Is (some (vI (lnM D k u))) D) := by
  refine MC.mk [vR 279, vI k, vI u, vN] (by decide) (Nat.le_of_ble_eq_true rfl) rfl (fun X Q hX hF hok hol => ?_)
  have zq_F := hF0
  unfold FM at hF0
  have zq_1 := hM.1.1
  have zq_c : inI (cnM D ((D 283 (D 279 10 + k).toNat)) ((D 284 (D 279 10 + k).toNat)) ((D 286 (D 279 10 + k).toNat))) := by
    have zq_3 := hok.int (k := 286) (by decide) (by decide) (D 279 10 + k).toNat
    have zq_4 := hok.int (k := 280) (by decide) (by decide) ((D 284 (D 279 10 + k).toNat)).toNat
    unfold cnM
    split
    · omega
    · split
      · exact zq_3
      · split
        · exact zq_4
        · split
          · split <;> omega
          · omega
  refine w_aload_n (i := 0) hX dX10_lineFault_0 rfl rfl rfl ?_
  refine w_getI (j := 10) hX cl9 fl_RX10_125_9 rfl (by decide) rfl dX10_lineFault_1 rfl ?_
  refine w_iload_n (i := 1) hX dX10_lineFault_4 rfl rfl rfl ?_
  refine w_iadd hX dX10_lineFault_5 rfl (by omega) ?_
  refine w_istore_n (i := 3) hX dX10_lineFault_6 rfl rfl (by decide) ?_
  dsimp only [st1X, st2X, klX_I, klX_L, klX_R, klX_S, klX_N]
  refine w_aload_n (i := 0) hX dX10_lineFault_7 rfl rfl rfl ?_
  refine w_iload_n (i := 3) hX dX10_lineFault_8 rfl rfl rfl ?_
  refine c_V hX ml_RX10_134 cl9 dX10_lineFault_9 rfl (r_isWrongNumber D _ (by omega)) rfl rfl rfl (by decide) (Nat.le_of_ble_eq_true rfl) ?_
  rintro _ _ ⟨rfl, rfl⟩ -
  all_goals try dsimp only [Option.toList, List.cons_append, List.nil_append]
  refine w_if_eq (tgt := 17) hX dX10_lineFault_12 rfl (by decide) (fun h12 => ?_) (fun h12 => ?_)
  · rw [b2_0] at h12
    refine w_aload_n (i := 0) hX dX10_lineFault_17 rfl rfl rfl ?_
    refine w_iload_n (i := 3) hX dX10_lineFault_18 rfl rfl rfl ?_
    refine w_iload_n (i := 2) hX dX10_lineFault_19 rfl rfl rfl ?_
    refine c_V hX ml_RX10_137 cl9 dX10_lineFault_20 rfl (r_isWrongUnit D _ (by omega) u (by omega)) rfl rfl rfl (by decide) (Nat.le_of_ble_eq_true rfl) ?_
    rintro _ _ ⟨rfl, rfl⟩ -
    all_goals try dsimp only [Option.toList, List.cons_append, List.nil_append]
    refine w_if_eq (tgt := 28) hX dX10_lineFault_23 rfl (by decide) (fun h23 => ?_) (fun h23 => ?_)
    · rw [b2_0] at h23
      refine w_aload_n (i := 0) hX dX10_lineFault_28 rfl rfl rfl ?_
      refine w_iload_n (i := 3) hX dX10_lineFault_29 rfl rfl rfl ?_
      refine w_iload_n (i := 2) hX dX10_lineFault_30 rfl rfl rfl ?_
      refine c_V hX ml_RX10_141 cl9 dX10_lineFault_31 rfl (r_isWrongCell D _ (by omega) (fun zq_q => by have zq_w := wu_n h23 zq_q; omega) u (by omega)) rfl rfl rfl (by decide) (Nat.le_of_ble_eq_true rfl) ?_
      rintro _ _ ⟨rfl, rfl⟩ -
      all_goals try dsimp only [Option.toList, List.cons_append, List.nil_append]
      refine w_if_eq (tgt := 39) hX dX10_lineFault_34 rfl (by decide) (fun h34 => ?_) (fun h34 => ?_)
      · rw [b2_0] at h34
        refine w_aload_n (i := 0) hX dX10_lineFault_39 rfl rfl rfl ?_
        refine w_iload_n (i := 3) hX dX10_lineFault_40 rfl rfl rfl ?_
        refine w_iload_n (i := 2) hX dX10_lineFault_41 rfl rfl rfl ?_
        refine c_V hX ml_RX10_144 cl9 dX10_lineFault_42 rfl (r_touchesCounter D _ (by omega) (fun zq_q => by have zq_w := wu_n h23 zq_q; omega) hM.1 u hu (fun zq_q => by have zq_w := wu_n h23 (by omega); omega) zq_c) rfl rfl rfl (by decide) (Nat.le_of_ble_eq_true rfl) ?_
        rintro _ _ ⟨rfl, rfl⟩ -
        all_goals try dsimp only [Option.toList, List.cons_append, List.nil_append]
        refine w_if_eq (tgt := 50) hX dX10_lineFault_45 rfl (by decide) (fun h45 => ?_) (fun h45 => ?_)
        · rw [b2_0] at h45
          refine w_aload_n (i := 0) hX dX10_lineFault_50 rfl rfl rfl ?_
          refine w_iload_n (i := 1) hX dX10_lineFault_51 rfl rfl rfl ?_
          refine c_V hX ml_RX10_147 cl9 dX10_lineFault_52 rfl (r_goesWrong D zq_F k hk) rfl rfl rfl (by decide) (Nat.le_of_ble_eq_true rfl) ?_
          rintro _ _ ⟨rfl, rfl⟩ -
          all_goals try dsimp only [Option.toList, List.cons_append, List.nil_append]
          refine w_if_eq (tgt := 63) hX dX10_lineFault_55 rfl (by decide) (fun h55 => ?_) (fun h55 => ?_)
          · rw [b2_0] at h55
            refine w_iconst hX dX10_lineFault_63 rfl (by decide) ?_
            exact e_i hX hF dX10_lineFault_64 ⟨by first | rw [lnM, it_f h12, it_f h23, it_f h34, it_f h45, it_t h55] | rw [lnM, it_f h12, it_f h23, it_f h34, it_f h45, it_f h55], rfl⟩
          · rw [b2_n] at h55
            refine w_bipush hX dX10_lineFault_58 rfl (by decide) ?_
            refine w_goto (tgt := 64) hX dX10_lineFault_60 (by decide) ?_
            exact e_i hX hF dX10_lineFault_64 ⟨by first | rw [lnM, it_f h12, it_f h23, it_f h34, it_f h45, it_t h55] | rw [lnM, it_f h12, it_f h23, it_f h34, it_f h45, it_f h55], rfl⟩
        · rw [b2_n] at h45
          refine w_iconst hX dX10_lineFault_48 rfl (by decide) ?_
          exact e_i hX hF dX10_lineFault_49 ⟨by rw [lnM, it_f h12, it_f h23, it_f h34, it_t h45], rfl⟩
      · rw [b2_n] at h34
        refine w_iconst hX dX10_lineFault_37 rfl (by decide) ?_
        exact e_i hX hF dX10_lineFault_38 ⟨by rw [lnM, it_f h12, it_f h23, it_t h34], rfl⟩
    · rw [b2_n] at h23
      refine w_iconst hX dX10_lineFault_26 rfl (by decide) ?_
      exact e_i hX hF dX10_lineFault_27 ⟨by rw [lnM, it_f h12, it_t h23], rfl⟩
  · rw [b2_n] at h12
    refine w_iconst hX dX10_lineFault_15 rfl (by decide) ?_
    exact e_i hX hF dX10_lineFault_16 ⟨by rw [lnM, it_t h12], rfl⟩

set_option maxRecDepth 100000 in
set_option maxHeartbeats 4000000 in
theorem r_lastOf (D : Dd) (hF0 : FM D) (k : Int) (hk : 0 ≤ k ∧ k < D 279 11) (hb : 0 ≤ (D 285 (D 279 10 + k).toNat)) : MC 1 yX10_lastOf cX10_lastOf 2 (some .int) [vR 279, vI k] D (Is (some (vI ((D 285 (D 279 10 + k).toNat) - 1))) D) := by
  refine MC.mk [vR 279, vI k] (by decide) (Nat.le_of_ble_eq_true rfl) rfl (fun X Q hX hF hok hol => ?_)
  unfold FM at hF0
  have zq_3 := hok.int (k := 285) (by decide) (by decide) (D 279 10 + k).toNat
  refine w_aload_n (i := 0) hX dX10_lastOf_0 rfl rfl rfl ?_
  refine w_getR (j := 8) hX cl9 fl_RX10_25_9 rfl (by decide) rfl rfl dX10_lastOf_1 rfl ?_
  refine w_aload_n (i := 0) hX dX10_lastOf_4 rfl rfl rfl ?_
  refine w_getI (j := 10) hX cl9 fl_RX10_125_9 rfl (by decide) rfl dX10_lastOf_5 rfl ?_
  refine w_iload_n (i := 1) hX dX10_lastOf_8 rfl rfl rfl ?_
  refine w_iadd hX dX10_lastOf_9 rfl (by omega) ?_
  refine w_iald hX rfl (by omega) (by omega) dX10_lastOf_10 rfl ?_
  refine w_iconst hX dX10_lastOf_11 rfl (by decide) ?_
  refine w_isub hX dX10_lastOf_12 rfl (by omega) ?_
  exact e_i hX hF dX10_lastOf_13 ⟨rfl, rfl⟩

set_option maxRecDepth 100000 in
set_option maxHeartbeats 4000000 in
theorem r_isInLoop (D : Dd) (hF0 : FM D) (k l : Int) (hl : 0 ≤ l ∧ l < D 279 11) (hb : 0 ≤ (D 285 (D 279 10 + l).toNat)) : MC 2 yX10_isInLoop cX10_isInLoop 3 (some .boolean) [vR 279, vI k, vI l] D (Is (some (vI (b2 (l < k ∧ k ≤ (D 285 (D 279 10 + l).toNat) - 1)))) D) := by
  refine MC.mk [vR 279, vI k, vI l] (by decide) (Nat.le_of_ble_eq_true rfl) rfl (fun X Q hX hF hok hol => ?_)
  refine w_iload_n (i := 1) hX dX10_isInLoop_0 rfl rfl rfl ?_
  refine w_iload_n (i := 2) hX dX10_isInLoop_1 rfl rfl rfl ?_
  refine w_icmp_le (tgt := 18) hX dX10_isInLoop_2 rfl (by decide) (fun h2 => ?_) (fun h2 => ?_)
  · refine w_iconst hX dX10_isInLoop_18 rfl (by decide) ?_
    exact e_z hX hF dX10_isInLoop_19 (by decide) ⟨by first | rw [b2_t (by omega)] | rw [b2_f (by omega)], rfl⟩
  · refine w_iload_n (i := 1) hX dX10_isInLoop_5 rfl rfl rfl ?_
    refine w_aload_n (i := 0) hX dX10_isInLoop_6 rfl rfl rfl ?_
    refine w_iload_n (i := 2) hX dX10_isInLoop_7 rfl rfl rfl ?_
    refine c_V hX ml_RX10_150 cl9 dX10_isInLoop_8 rfl (r_lastOf D hF0 l hl hb) rfl rfl rfl (by decide) (Nat.le_of_ble_eq_true rfl) ?_
    rintro _ _ ⟨rfl, rfl⟩ -
    all_goals try dsimp only [Option.toList, List.cons_append, List.nil_append]
    refine w_icmp_gt (tgt := 18) hX dX10_isInLoop_11 rfl (by decide) (fun h11 => ?_) (fun h11 => ?_)
    · refine w_iconst hX dX10_isInLoop_18 rfl (by decide) ?_
      exact e_z hX hF dX10_isInLoop_19 (by decide) ⟨by first | rw [b2_t (by omega)] | rw [b2_f (by omega)], rfl⟩
    · refine w_iconst hX dX10_isInLoop_14 rfl (by decide) ?_
      refine w_goto (tgt := 19) hX dX10_isInLoop_15 (by decide) ?_
      exact e_z hX hF dX10_isInLoop_19 (by decide) ⟨by first | rw [b2_t (by omega)] | rw [b2_f (by omega)], rfl⟩

set_option maxRecDepth 100000 in
set_option maxHeartbeats 4000000 in
theorem r_hasSame (D : Dd) (hF0 : FM D) (k o n : Int) (hk : 0 ≤ k ∧ k < D 279 11) : MC 2 yX10_hasSame cX10_hasSame 4 (some .boolean) [vR 279, vI k, vI o, vI n] D (Is (some (vI (b2 ((0 ≤ o ∧ o < D 279 11) ∧ (D 283 (D 279 10 + o).toNat) = n ∧ (D 284 (D 279 10 + o).toNat) = (D 284 (D 279 10 + k).toNat))))) D) := by
  refine MC.mk [vR 279, vI k, vI o, vI n] (by decide) (Nat.le_of_ble_eq_true rfl) rfl (fun X Q hX hF hok hol => ?_)
  have zq_F := hF0
  unfold FM at hF0
  refine w_iload_n (i := 2) hX dX10_hasSame_0 rfl rfl rfl ?_
  refine w_if_lt (tgt := 50) hX dX10_hasSame_1 rfl (by decide) (fun h1 => ?_) (fun h1 => ?_)
  · refine w_iconst hX dX10_hasSame_50 rfl (by decide) ?_
    exact e_z hX hF dX10_hasSame_51 (by decide) ⟨by first | rw [b2_t (by omega)] | rw [b2_f (by omega)], rfl⟩
  · refine w_iload_n (i := 2) hX dX10_hasSame_4 rfl rfl rfl ?_
    refine w_aload_n (i := 0) hX dX10_hasSame_5 rfl rfl rfl ?_
    refine w_getI (j := 11) hX cl9 fl_RX10_131_9 rfl (by decide) rfl dX10_hasSame_6 rfl ?_
    refine w_icmp_ge (tgt := 50) hX dX10_hasSame_9 rfl (by decide) (fun h9 => ?_) (fun h9 => ?_)
    · refine w_iconst hX dX10_hasSame_50 rfl (by decide) ?_
      exact e_z hX hF dX10_hasSame_51 (by decide) ⟨by first | rw [b2_t (by omega)] | rw [b2_f (by omega)], rfl⟩
    · refine w_aload_n (i := 0) hX dX10_hasSame_12 rfl rfl rfl ?_
      refine w_iload_n (i := 2) hX dX10_hasSame_13 rfl rfl rfl ?_
      refine c_V hX ml_RX10_128 cl9 dX10_hasSame_14 rfl (r_numberAt D zq_F o (by omega)) rfl rfl rfl (by decide) (Nat.le_of_ble_eq_true rfl) ?_
      rintro _ _ ⟨rfl, rfl⟩ -
      all_goals try dsimp only [Option.toList, List.cons_append, List.nil_append]
      refine w_iload_n (i := 3) hX dX10_hasSame_17 rfl rfl rfl ?_
      refine w_icmp_ne (tgt := 50) hX dX10_hasSame_18 rfl (by decide) (fun h18 => ?_) (fun h18 => ?_)
      · refine w_iconst hX dX10_hasSame_50 rfl (by decide) ?_
        exact e_z hX hF dX10_hasSame_51 (by decide) ⟨by first | rw [b2_t (by omega)] | rw [b2_f (by omega)], rfl⟩
      · refine w_aload_n (i := 0) hX dX10_hasSame_21 rfl rfl rfl ?_
        refine w_getR (j := 7) hX cl9 fl_RX10_22_9 rfl (by decide) rfl rfl dX10_hasSame_22 rfl ?_
        refine w_aload_n (i := 0) hX dX10_hasSame_25 rfl rfl rfl ?_
        refine w_getI (j := 10) hX cl9 fl_RX10_125_9 rfl (by decide) rfl dX10_hasSame_26 rfl ?_
        refine w_iload_n (i := 2) hX dX10_hasSame_29 rfl rfl rfl ?_
        refine w_iadd hX dX10_hasSame_30 rfl (by omega) ?_
        refine w_iald hX rfl (by omega) (by omega) dX10_hasSame_31 rfl ?_
        refine w_aload_n (i := 0) hX dX10_hasSame_32 rfl rfl rfl ?_
        refine w_getR (j := 7) hX cl9 fl_RX10_22_9 rfl (by decide) rfl rfl dX10_hasSame_33 rfl ?_
        refine w_aload_n (i := 0) hX dX10_hasSame_36 rfl rfl rfl ?_
        refine w_getI (j := 10) hX cl9 fl_RX10_125_9 rfl (by decide) rfl dX10_hasSame_37 rfl ?_
        refine w_iload_n (i := 1) hX dX10_hasSame_40 rfl rfl rfl ?_
        refine w_iadd hX dX10_hasSame_41 rfl (by omega) ?_
        refine w_iald hX rfl (by omega) (by omega) dX10_hasSame_42 rfl ?_
        refine w_icmp_ne (tgt := 50) hX dX10_hasSame_43 rfl (by decide) (fun h43 => ?_) (fun h43 => ?_)
        · refine w_iconst hX dX10_hasSame_50 rfl (by decide) ?_
          exact e_z hX hF dX10_hasSame_51 (by decide) ⟨by first | rw [b2_t (by omega)] | rw [b2_f (by omega)], rfl⟩
        · refine w_iconst hX dX10_hasSame_46 rfl (by decide) ?_
          refine w_goto (tgt := 51) hX dX10_hasSame_47 (by decide) ?_
          exact e_z hX hF dX10_hasSame_51 (by decide) ⟨by first | rw [b2_t (by omega)] | rw [b2_f (by omega)], rfl⟩

/-- where the 13s go, lines being right -/
def V3 (D : Dd) : Prop := ∀ j : Int, 0 ≤ j → j < D 279 11 → (D 283 (D 279 10 + j).toNat) = 13 → j + 1 ≤ (D 285 (D 279 10 + j).toNat) ∧ (D 285 (D 279 10 + j).toNat) ≤ D 279 11
abbrev wcM (D : Dd) (k j : Int) : Prop := (D 283 (D 279 10 + j).toNat) = 13 ∧ (j < k ∧ k ≤ (D 285 (D 279 10 + j).toNat) - 1) ∧ (D 284 (D 279 10 + j).toNat) = (D 284 (D 279 10 + k).toNat)
abbrev wnM (D : Dd) (k j : Int) : Prop := (D 283 (D 279 10 + j).toNat) = 13 ∧ j ≠ k ∧ (j < k ∧ k ≤ (D 285 (D 279 10 + j).toNat) - 1) ∧ ¬ (j < (D 285 (D 279 10 + k).toNat) - 1 ∧ (D 285 (D 279 10 + k).toNat) - 1 ≤ (D 285 (D 279 10 + j).toNat) - 1)
abbrev giM (D : Dd) (k j : Int) : Prop := ((D 283 (D 279 10 + j).toNat) = 13 ∧ ((D 284 (D 279 10 + k).toNat) = j ∨ (j < (D 284 (D 279 10 + k).toNat) ∧ (D 284 (D 279 10 + k).toNat) ≤ (D 285 (D 279 10 + j).toNat) - 1))) ∧ ¬ (j < k ∧ k ≤ (D 285 (D 279 10 + j).toNat) - 1)

set_option maxRecDepth 100000 in
set_option maxHeartbeats 4000000 in
theorem l_wl12 {X : Cx} {Q : State → Prop} {P : Option AV → Dd → Prop} (hX : GX X yX10_isWrongLoop cX10_isWrongLoop 8 (some .boolean) 3 0 0) (hF : FX X Q P) (D : Dd) (hF0 : FM D) (hV : V3 D) (k : Int) (hk : 0 ≤ k ∧ k < D 279 11) (w0 : Prop) (hyes : ∀ w : Int, (w = 0 ∨ w = 1) → (w = 1 ↔ (w0 ∨ ∃ x : Int, (0 : Int) ≤ x ∧ x < D 279 11 ∧ wcM D k x)) → P (some (vI w)) D) : ∀ (m : Nat) (j w : Int) (w1 w2 w3 w4 : AV), (D 279 11 - j).toNat < m → (0 : Int) ≤ j → j ≤ D 279 11 → (w = 0 ∨ w = 1) → (w = 1 ↔ (w0 ∨ ∃ x : Int, (0 : Int) ≤ x ∧ x < j ∧ wcM D k x)) → W0 X Q 61 [vR 279, vI k, vI w, vI j, w1, w2, w3, w4] [] D := by
  intro m
  induction m with
  | zero =>
    intro j w w1 w2 w3 w4 hm h0 h1 hw hr
    exact absurd hm (Nat.not_lt_zero _)
  | succ m ih =>
    intro j w w1 w2 w3 w4 hm h0 h1 hw hr
    have zq_F := hF0
    unfold FM at hF0
    refine w_iload_n (i := 3) hX dX10_isWrongLoop_61 rfl rfl rfl ?_
    refine w_aload_n (i := 0) hX dX10_isWrongLoop_62 rfl rfl rfl ?_
    refine w_getI (j := 11) hX cl9 fl_RX10_131_9 rfl (by decide) rfl dX10_isWrongLoop_63 rfl ?_
    refine w_icmp_ge (tgt := 129) hX dX10_isWrongLoop_66 rfl (by decide) (fun h66 => ?_) (fun h66 => ?_)
    · refine w_iload_n (i := 2) hX dX10_isWrongLoop_129 rfl rfl rfl ?_
      exact e_z hX hF dX10_isWrongLoop_130 hw (hyes w hw (by rw [show j = D 279 11 by omega] at hr; exact hr))
    · refine w_iload_n (i := 2) hX dX10_isWrongLoop_69 rfl rfl rfl ?_
      refine w_if_ne (tgt := 117) hX dX10_isWrongLoop_70 rfl (by decide) (fun h70 => ?_) (fun h70 => ?_)
      · refine w_iconst hX dX10_isWrongLoop_117 rfl (by decide) ?_
        refine w_goto (tgt := 122) hX dX10_isWrongLoop_118 (by decide) ?_
        refine w_istore_n (i := 2) hX dX10_isWrongLoop_122 rfl rfl (by decide) ?_
        dsimp only [st1X, st2X, klX_I, klX_L, klX_R, klX_S, klX_N]
        refine w_iinc hX dX10_isWrongLoop_123 rfl rfl (by decide) (by omega) ?_
        dsimp only [st1X, st2X, klX_I, klX_L, klX_R, klX_S, klX_N]
        refine w_goto (tgt := 61) hX dX10_isWrongLoop_126 (by decide) ?_
        refine ih (j + 1) _ _ _ _ _ (by omega) (by omega) (by omega) (by omega) ?_
        constructor
        · intro zq_q
          first
            | exact absurd zq_q (by decide)
            | exact Or.inr ⟨j, h0, by omega, by unfold wcM; omega⟩
            | (rcases hr.mp (by omega) with zq_x | ⟨x, zq_a, zq_b, zq_c⟩
               · exact Or.inl zq_x
               · exact Or.inr ⟨x, zq_a, by omega, zq_c⟩)
        · intro zq_q
          first
            | rfl
            | (rcases zq_q with zq_q | ⟨x, zq_a, zq_b, zq_c⟩
               · exact absurd (hr.mpr (Or.inl zq_q)) (by omega)
               · by_cases zq_e : x = j
                 · subst zq_e; exfalso; unfold wcM at zq_c; omega
                 · exact absurd (hr.mpr (Or.inr ⟨x, zq_a, by omega, zq_c⟩)) (by omega))
      · refine w_aload_n (i := 0) hX dX10_isWrongLoop_73 rfl rfl rfl ?_
        refine w_iload_n (i := 3) hX dX10_isWrongLoop_74 rfl rfl rfl ?_
        refine c_V hX ml_RX10_128 cl9 dX10_isWrongLoop_75 rfl (r_numberAt D zq_F j (by omega)) rfl rfl rfl (by decide) (Nat.le_of_ble_eq_true rfl) ?_
        rintro _ _ ⟨rfl, rfl⟩ -
        all_goals try dsimp only [Option.toList, List.cons_append, List.nil_append]
        refine w_bipush hX dX10_isWrongLoop_78 rfl (by decide) ?_
        refine w_icmp_ne (tgt := 121) hX dX10_isWrongLoop_80 rfl (by decide) (fun h80 => ?_) (fun h80 => ?_)
        · refine w_iconst hX dX10_isWrongLoop_121 rfl (by decide) ?_
          refine w_istore_n (i := 2) hX dX10_isWrongLoop_122 rfl rfl (by decide) ?_
          dsimp only [st1X, st2X, klX_I, klX_L, klX_R, klX_S, klX_N]
          refine w_iinc hX dX10_isWrongLoop_123 rfl rfl (by decide) (by omega) ?_
          dsimp only [st1X, st2X, klX_I, klX_L, klX_R, klX_S, klX_N]
          refine w_goto (tgt := 61) hX dX10_isWrongLoop_126 (by decide) ?_
          refine ih (j + 1) _ _ _ _ _ (by omega) (by omega) (by omega) (by omega) ?_
          constructor
          · intro zq_q
            first
              | exact absurd zq_q (by decide)
              | exact Or.inr ⟨j, h0, by omega, by unfold wcM; omega⟩
              | (rcases hr.mp (by omega) with zq_x | ⟨x, zq_a, zq_b, zq_c⟩
                 · exact Or.inl zq_x
                 · exact Or.inr ⟨x, zq_a, by omega, zq_c⟩)
          · intro zq_q
            first
              | rfl
              | (rcases zq_q with zq_q | ⟨x, zq_a, zq_b, zq_c⟩
                 · exact absurd (hr.mpr (Or.inl zq_q)) (by omega)
                 · by_cases zq_e : x = j
                   · subst zq_e; exfalso; unfold wcM at zq_c; omega
                   · exact absurd (hr.mpr (Or.inr ⟨x, zq_a, by omega, zq_c⟩)) (by omega))
        · refine w_aload_n (i := 0) hX dX10_isWrongLoop_83 rfl rfl rfl ?_
          refine w_iload_n (i := 1) hX dX10_isWrongLoop_84 rfl rfl rfl ?_
          refine w_iload_n (i := 3) hX dX10_isWrongLoop_85 rfl rfl rfl ?_
          refine c_V hX ml_RX10_157 cl9 dX10_isWrongLoop_86 rfl (r_isInLoop D zq_F _ j (by omega) (by have zq_v := hV j h0 (by omega) (by omega); omega)) rfl rfl rfl (by decide) (Nat.le_of_ble_eq_true rfl) ?_
          rintro _ _ ⟨rfl, rfl⟩ -
          all_goals try dsimp only [Option.toList, List.cons_append, List.nil_append]
          refine w_if_eq (tgt := 121) hX dX10_isWrongLoop_89 rfl (by decide) (fun h89 => ?_) (fun h89 => ?_)
          · rw [b2_0] at h89
            refine w_iconst hX dX10_isWrongLoop_121 rfl (by decide) ?_
            refine w_istore_n (i := 2) hX dX10_isWrongLoop_122 rfl rfl (by decide) ?_
            dsimp only [st1X, st2X, klX_I, klX_L, klX_R, klX_S, klX_N]
            refine w_iinc hX dX10_isWrongLoop_123 rfl rfl (by decide) (by omega) ?_
            dsimp only [st1X, st2X, klX_I, klX_L, klX_R, klX_S, klX_N]
            refine w_goto (tgt := 61) hX dX10_isWrongLoop_126 (by decide) ?_
            refine ih (j + 1) _ _ _ _ _ (by omega) (by omega) (by omega) (by omega) ?_
            constructor
            · intro zq_q
              first
                | exact absurd zq_q (by decide)
                | exact Or.inr ⟨j, h0, by omega, by unfold wcM; omega⟩
                | (rcases hr.mp (by omega) with zq_x | ⟨x, zq_a, zq_b, zq_c⟩
                   · exact Or.inl zq_x
                   · exact Or.inr ⟨x, zq_a, by omega, zq_c⟩)
            · intro zq_q
              first
                | rfl
                | (rcases zq_q with zq_q | ⟨x, zq_a, zq_b, zq_c⟩
                   · exact absurd (hr.mpr (Or.inl zq_q)) (by omega)
                   · by_cases zq_e : x = j
                     · subst zq_e; exfalso; unfold wcM at zq_c; omega
                     · exact absurd (hr.mpr (Or.inr ⟨x, zq_a, by omega, zq_c⟩)) (by omega))
          · rw [b2_n] at h89
            refine w_aload_n (i := 0) hX dX10_isWrongLoop_92 rfl rfl rfl ?_
            refine w_getR (j := 7) hX cl9 fl_RX10_22_9 rfl (by decide) rfl rfl dX10_isWrongLoop_93 rfl ?_
            refine w_aload_n (i := 0) hX dX10_isWrongLoop_96 rfl rfl rfl ?_
            refine w_getI (j := 10) hX cl9 fl_RX10_125_9 rfl (by decide) rfl dX10_isWrongLoop_97 rfl ?_
            refine w_iload_n (i := 3) hX dX10_isWrongLoop_100 rfl rfl rfl ?_
            refine w_iadd hX dX10_isWrongLoop_101 rfl (by omega) ?_
            refine w_iald hX rfl (by omega) (by omega) dX10_isWrongLoop_102 rfl ?_
            refine w_aload_n (i := 0) hX dX10_isWrongLoop_103 rfl rfl rfl ?_
            refine w_getR (j := 7) hX cl9 fl_RX10_22_9 rfl (by decide) rfl rfl dX10_isWrongLoop_104 rfl ?_
            refine w_aload_n (i := 0) hX dX10_isWrongLoop_107 rfl rfl rfl ?_
            refine w_getI (j := 10) hX cl9 fl_RX10_125_9 rfl (by decide) rfl dX10_isWrongLoop_108 rfl ?_
            refine w_iload_n (i := 1) hX dX10_isWrongLoop_111 rfl rfl rfl ?_
            refine w_iadd hX dX10_isWrongLoop_112 rfl (by omega) ?_
            refine w_iald hX rfl (by omega) (by omega) dX10_isWrongLoop_113 rfl ?_
            refine w_icmp_ne (tgt := 121) hX dX10_isWrongLoop_114 rfl (by decide) (fun h114 => ?_) (fun h114 => ?_)
            · refine w_iconst hX dX10_isWrongLoop_121 rfl (by decide) ?_
              refine w_istore_n (i := 2) hX dX10_isWrongLoop_122 rfl rfl (by decide) ?_
              dsimp only [st1X, st2X, klX_I, klX_L, klX_R, klX_S, klX_N]
              refine w_iinc hX dX10_isWrongLoop_123 rfl rfl (by decide) (by omega) ?_
              dsimp only [st1X, st2X, klX_I, klX_L, klX_R, klX_S, klX_N]
              refine w_goto (tgt := 61) hX dX10_isWrongLoop_126 (by decide) ?_
              refine ih (j + 1) _ _ _ _ _ (by omega) (by omega) (by omega) (by omega) ?_
              constructor
              · intro zq_q
                first
                  | exact absurd zq_q (by decide)
                  | exact Or.inr ⟨j, h0, by omega, by unfold wcM; omega⟩
                  | (rcases hr.mp (by omega) with zq_x | ⟨x, zq_a, zq_b, zq_c⟩
                     · exact Or.inl zq_x
                     · exact Or.inr ⟨x, zq_a, by omega, zq_c⟩)
              · intro zq_q
                first
                  | rfl
                  | (rcases zq_q with zq_q | ⟨x, zq_a, zq_b, zq_c⟩
                     · exact absurd (hr.mpr (Or.inl zq_q)) (by omega)
                     · by_cases zq_e : x = j
                       · subst zq_e; exfalso; unfold wcM at zq_c; omega
                       · exact absurd (hr.mpr (Or.inr ⟨x, zq_a, by omega, zq_c⟩)) (by omega))
            · refine w_iconst hX dX10_isWrongLoop_117 rfl (by decide) ?_
              refine w_goto (tgt := 122) hX dX10_isWrongLoop_118 (by decide) ?_
              refine w_istore_n (i := 2) hX dX10_isWrongLoop_122 rfl rfl (by decide) ?_
              dsimp only [st1X, st2X, klX_I, klX_L, klX_R, klX_S, klX_N]
              refine w_iinc hX dX10_isWrongLoop_123 rfl rfl (by decide) (by omega) ?_
              dsimp only [st1X, st2X, klX_I, klX_L, klX_R, klX_S, klX_N]
              refine w_goto (tgt := 61) hX dX10_isWrongLoop_126 (by decide) ?_
              refine ih (j + 1) _ _ _ _ _ (by omega) (by omega) (by omega) (by omega) ?_
              constructor
              · intro zq_q
                first
                  | exact absurd zq_q (by decide)
                  | exact Or.inr ⟨j, h0, by omega, by unfold wcM; omega⟩
                  | (rcases hr.mp (by omega) with zq_x | ⟨x, zq_a, zq_b, zq_c⟩
                     · exact Or.inl zq_x
                     · exact Or.inr ⟨x, zq_a, by omega, zq_c⟩)
              · intro zq_q
                first
                  | rfl
                  | (rcases zq_q with zq_q | ⟨x, zq_a, zq_b, zq_c⟩
                     · exact absurd (hr.mpr (Or.inl zq_q)) (by omega)
                     · by_cases zq_e : x = j
                       · subst zq_e; exfalso; unfold wcM at zq_c; omega
                       · exact absurd (hr.mpr (Or.inr ⟨x, zq_a, by omega, zq_c⟩)) (by omega))

set_option maxRecDepth 100000 in
set_option maxHeartbeats 4000000 in
theorem l_wl13 {X : Cx} {Q : State → Prop} {P : Option AV → Dd → Prop} (hX : GX X yX10_isWrongLoop cX10_isWrongLoop 8 (some .boolean) 3 0 0) (hF : FX X Q P) (D : Dd) (hF0 : FM D) (hV : V3 D) (k : Int) (hk : 0 ≤ k ∧ k < D 279 11) (la : Int) (hla : la = (D 285 (D 279 10 + k).toNat) - 1) (w0 : Prop) (hyes : ∀ w : Int, (w = 0 ∨ w = 1) → (w = 1 ↔ (w0 ∨ ∃ x : Int, (0 : Int) ≤ x ∧ x < D 279 11 ∧ wnM D k x)) → P (some (vI w)) D) : ∀ (m : Nat) (j w : Int) (w2 w3 w4 : AV), (D 279 11 - j).toNat < m → (0 : Int) ≤ j → j ≤ D 279 11 → (w = 0 ∨ w = 1) → (w = 1 ↔ (w0 ∨ ∃ x : Int, (0 : Int) ≤ x ∧ x < j ∧ wnM D k x)) → W0 X Q 184 [vR 279, vI k, vI w, vI la, vI j, w2, w3, w4] [] D := by
  intro m
  induction m with
  | zero =>
    intro j w w2 w3 w4 hm h0 h1 hw hr
    exact absurd hm (Nat.not_lt_zero _)
  | succ m ih =>
    intro j w w2 w3 w4 hm h0 h1 hw hr
    have zq_F := hF0
    unfold FM at hF0
    subst hla
    refine w_iload hX dX10_isWrongLoop_184 rfl rfl ?_
    refine w_aload_n (i := 0) hX dX10_isWrongLoop_186 rfl rfl rfl ?_
    refine w_getI (j := 11) hX cl9 fl_RX10_131_9 rfl (by decide) rfl dX10_isWrongLoop_187 rfl ?_
    refine w_icmp_ge (tgt := 246) hX dX10_isWrongLoop_190 rfl (by decide) (fun h190 => ?_) (fun h190 => ?_)
    · refine w_iload_n (i := 2) hX dX10_isWrongLoop_246 rfl rfl rfl ?_
      exact e_z hX hF dX10_isWrongLoop_247 hw (hyes w hw (by rw [show j = D 279 11 by omega] at hr; exact hr))
    · refine w_iload_n (i := 2) hX dX10_isWrongLoop_193 rfl rfl rfl ?_
      refine w_if_ne (tgt := 234) hX dX10_isWrongLoop_194 rfl (by decide) (fun h194 => ?_) (fun h194 => ?_)
      · refine w_iconst hX dX10_isWrongLoop_234 rfl (by decide) ?_
        refine w_goto (tgt := 239) hX dX10_isWrongLoop_235 (by decide) ?_
        refine w_istore_n (i := 2) hX dX10_isWrongLoop_239 rfl rfl (by decide) ?_
        dsimp only [st1X, st2X, klX_I, klX_L, klX_R, klX_S, klX_N]
        refine w_iinc hX dX10_isWrongLoop_240 rfl rfl (by decide) (by omega) ?_
        dsimp only [st1X, st2X, klX_I, klX_L, klX_R, klX_S, klX_N]
        refine w_goto (tgt := 184) hX dX10_isWrongLoop_243 (by decide) ?_
        refine ih (j + 1) _ _ _ _ (by omega) (by omega) (by omega) (by omega) ?_
        constructor
        · intro zq_q
          first
            | exact absurd zq_q (by decide)
            | exact Or.inr ⟨j, h0, by omega, by unfold wnM; omega⟩
            | (rcases hr.mp (by omega) with zq_x | ⟨x, zq_a, zq_b, zq_c⟩
               · exact Or.inl zq_x
               · exact Or.inr ⟨x, zq_a, by omega, zq_c⟩)
        · intro zq_q
          first
            | rfl
            | (rcases zq_q with zq_q | ⟨x, zq_a, zq_b, zq_c⟩
               · exact absurd (hr.mpr (Or.inl zq_q)) (by omega)
               · by_cases zq_e : x = j
                 · subst zq_e; exfalso; unfold wnM at zq_c; omega
                 · exact absurd (hr.mpr (Or.inr ⟨x, zq_a, by omega, zq_c⟩)) (by omega))
      · refine w_aload_n (i := 0) hX dX10_isWrongLoop_197 rfl rfl rfl ?_
        refine w_iload hX dX10_isWrongLoop_198 rfl rfl ?_
        refine c_V hX ml_RX10_128 cl9 dX10_isWrongLoop_200 rfl (r_numberAt D zq_F j (by omega)) rfl rfl rfl (by decide) (Nat.le_of_ble_eq_true rfl) ?_
        rintro _ _ ⟨rfl, rfl⟩ -
        all_goals try dsimp only [Option.toList, List.cons_append, List.nil_append]
        refine w_bipush hX dX10_isWrongLoop_203 rfl (by decide) ?_
        refine w_icmp_ne (tgt := 238) hX dX10_isWrongLoop_205 rfl (by decide) (fun h205 => ?_) (fun h205 => ?_)
        · refine w_iconst hX dX10_isWrongLoop_238 rfl (by decide) ?_
          refine w_istore_n (i := 2) hX dX10_isWrongLoop_239 rfl rfl (by decide) ?_
          dsimp only [st1X, st2X, klX_I, klX_L, klX_R, klX_S, klX_N]
          refine w_iinc hX dX10_isWrongLoop_240 rfl rfl (by decide) (by omega) ?_
          dsimp only [st1X, st2X, klX_I, klX_L, klX_R, klX_S, klX_N]
          refine w_goto (tgt := 184) hX dX10_isWrongLoop_243 (by decide) ?_
          refine ih (j + 1) _ _ _ _ (by omega) (by omega) (by omega) (by omega) ?_
          constructor
          · intro zq_q
            first
              | exact absurd zq_q (by decide)
              | exact Or.inr ⟨j, h0, by omega, by unfold wnM; omega⟩
              | (rcases hr.mp (by omega) with zq_x | ⟨x, zq_a, zq_b, zq_c⟩
                 · exact Or.inl zq_x
                 · exact Or.inr ⟨x, zq_a, by omega, zq_c⟩)
          · intro zq_q
            first
              | rfl
              | (rcases zq_q with zq_q | ⟨x, zq_a, zq_b, zq_c⟩
                 · exact absurd (hr.mpr (Or.inl zq_q)) (by omega)
                 · by_cases zq_e : x = j
                   · subst zq_e; exfalso; unfold wnM at zq_c; omega
                   · exact absurd (hr.mpr (Or.inr ⟨x, zq_a, by omega, zq_c⟩)) (by omega))
        · refine w_iload hX dX10_isWrongLoop_208 rfl rfl ?_
          refine w_iload_n (i := 1) hX dX10_isWrongLoop_210 rfl rfl rfl ?_
          refine w_icmp_eq (tgt := 238) hX dX10_isWrongLoop_211 rfl (by decide) (fun h211 => ?_) (fun h211 => ?_)
          · refine w_iconst hX dX10_isWrongLoop_238 rfl (by decide) ?_
            refine w_istore_n (i := 2) hX dX10_isWrongLoop_239 rfl rfl (by decide) ?_
            dsimp only [st1X, st2X, klX_I, klX_L, klX_R, klX_S, klX_N]
            refine w_iinc hX dX10_isWrongLoop_240 rfl rfl (by decide) (by omega) ?_
            dsimp only [st1X, st2X, klX_I, klX_L, klX_R, klX_S, klX_N]
            refine w_goto (tgt := 184) hX dX10_isWrongLoop_243 (by decide) ?_
            refine ih (j + 1) _ _ _ _ (by omega) (by omega) (by omega) (by omega) ?_
            constructor
            · intro zq_q
              first
                | exact absurd zq_q (by decide)
                | exact Or.inr ⟨j, h0, by omega, by unfold wnM; omega⟩
                | (rcases hr.mp (by omega) with zq_x | ⟨x, zq_a, zq_b, zq_c⟩
                   · exact Or.inl zq_x
                   · exact Or.inr ⟨x, zq_a, by omega, zq_c⟩)
            · intro zq_q
              first
                | rfl
                | (rcases zq_q with zq_q | ⟨x, zq_a, zq_b, zq_c⟩
                   · exact absurd (hr.mpr (Or.inl zq_q)) (by omega)
                   · by_cases zq_e : x = j
                     · subst zq_e; exfalso; unfold wnM at zq_c; omega
                     · exact absurd (hr.mpr (Or.inr ⟨x, zq_a, by omega, zq_c⟩)) (by omega))
          · refine w_aload_n (i := 0) hX dX10_isWrongLoop_214 rfl rfl rfl ?_
            refine w_iload_n (i := 1) hX dX10_isWrongLoop_215 rfl rfl rfl ?_
            refine w_iload hX dX10_isWrongLoop_216 rfl rfl ?_
            refine c_V hX ml_RX10_157 cl9 dX10_isWrongLoop_218 rfl (r_isInLoop D zq_F _ j (by omega) (by have zq_v := hV j h0 (by omega) (by omega); omega)) rfl rfl rfl (by decide) (Nat.le_of_ble_eq_true rfl) ?_
            rintro _ _ ⟨rfl, rfl⟩ -
            all_goals try dsimp only [Option.toList, List.cons_append, List.nil_append]
            refine w_if_eq (tgt := 238) hX dX10_isWrongLoop_221 rfl (by decide) (fun h221 => ?_) (fun h221 => ?_)
            · rw [b2_0] at h221
              refine w_iconst hX dX10_isWrongLoop_238 rfl (by decide) ?_
              refine w_istore_n (i := 2) hX dX10_isWrongLoop_239 rfl rfl (by decide) ?_
              dsimp only [st1X, st2X, klX_I, klX_L, klX_R, klX_S, klX_N]
              refine w_iinc hX dX10_isWrongLoop_240 rfl rfl (by decide) (by omega) ?_
              dsimp only [st1X, st2X, klX_I, klX_L, klX_R, klX_S, klX_N]
              refine w_goto (tgt := 184) hX dX10_isWrongLoop_243 (by decide) ?_
              refine ih (j + 1) _ _ _ _ (by omega) (by omega) (by omega) (by omega) ?_
              constructor
              · intro zq_q
                first
                  | exact absurd zq_q (by decide)
                  | exact Or.inr ⟨j, h0, by omega, by unfold wnM; omega⟩
                  | (rcases hr.mp (by omega) with zq_x | ⟨x, zq_a, zq_b, zq_c⟩
                     · exact Or.inl zq_x
                     · exact Or.inr ⟨x, zq_a, by omega, zq_c⟩)
              · intro zq_q
                first
                  | rfl
                  | (rcases zq_q with zq_q | ⟨x, zq_a, zq_b, zq_c⟩
                     · exact absurd (hr.mpr (Or.inl zq_q)) (by omega)
                     · by_cases zq_e : x = j
                       · subst zq_e; exfalso; unfold wnM at zq_c; omega
                       · exact absurd (hr.mpr (Or.inr ⟨x, zq_a, by omega, zq_c⟩)) (by omega))
            · rw [b2_n] at h221
              refine w_aload_n (i := 0) hX dX10_isWrongLoop_224 rfl rfl rfl ?_
              refine w_iload_n (i := 3) hX dX10_isWrongLoop_225 rfl rfl rfl ?_
              refine w_iload hX dX10_isWrongLoop_226 rfl rfl ?_
              refine c_V hX ml_RX10_157 cl9 dX10_isWrongLoop_228 rfl (r_isInLoop D zq_F _ j (by omega) (by have zq_v := hV j h0 (by omega) (by omega); omega)) rfl rfl rfl (by decide) (Nat.le_of_ble_eq_true rfl) ?_
              rintro _ _ ⟨rfl, rfl⟩ -
              all_goals try dsimp only [Option.toList, List.cons_append, List.nil_append]
              refine w_if_ne (tgt := 238) hX dX10_isWrongLoop_231 rfl (by decide) (fun h231 => ?_) (fun h231 => ?_)
              · rw [b2_ne] at h231
                refine w_iconst hX dX10_isWrongLoop_238 rfl (by decide) ?_
                refine w_istore_n (i := 2) hX dX10_isWrongLoop_239 rfl rfl (by decide) ?_
                dsimp only [st1X, st2X, klX_I, klX_L, klX_R, klX_S, klX_N]
                refine w_iinc hX dX10_isWrongLoop_240 rfl rfl (by decide) (by omega) ?_
                dsimp only [st1X, st2X, klX_I, klX_L, klX_R, klX_S, klX_N]
                refine w_goto (tgt := 184) hX dX10_isWrongLoop_243 (by decide) ?_
                refine ih (j + 1) _ _ _ _ (by omega) (by omega) (by omega) (by omega) ?_
                constructor
                · intro zq_q
                  first
                    | exact absurd zq_q (by decide)
                    | exact Or.inr ⟨j, h0, by omega, by unfold wnM; omega⟩
                    | (rcases hr.mp (by omega) with zq_x | ⟨x, zq_a, zq_b, zq_c⟩
                       · exact Or.inl zq_x
                       · exact Or.inr ⟨x, zq_a, by omega, zq_c⟩)
                · intro zq_q
                  first
                    | rfl
                    | (rcases zq_q with zq_q | ⟨x, zq_a, zq_b, zq_c⟩
                       · exact absurd (hr.mpr (Or.inl zq_q)) (by omega)
                       · by_cases zq_e : x = j
                         · subst zq_e; exfalso; unfold wnM at zq_c; omega
                         · exact absurd (hr.mpr (Or.inr ⟨x, zq_a, by omega, zq_c⟩)) (by omega))
              · rw [b2_nn] at h231
                refine w_iconst hX dX10_isWrongLoop_234 rfl (by decide) ?_
                refine w_goto (tgt := 239) hX dX10_isWrongLoop_235 (by decide) ?_
                refine w_istore_n (i := 2) hX dX10_isWrongLoop_239 rfl rfl (by decide) ?_
                dsimp only [st1X, st2X, klX_I, klX_L, klX_R, klX_S, klX_N]
                refine w_iinc hX dX10_isWrongLoop_240 rfl rfl (by decide) (by omega) ?_
                dsimp only [st1X, st2X, klX_I, klX_L, klX_R, klX_S, klX_N]
                refine w_goto (tgt := 184) hX dX10_isWrongLoop_243 (by decide) ?_
                refine ih (j + 1) _ _ _ _ (by omega) (by omega) (by omega) (by omega) ?_
                constructor
                · intro zq_q
                  first
                    | exact absurd zq_q (by decide)
                    | exact Or.inr ⟨j, h0, by omega, by unfold wnM; omega⟩
                    | (rcases hr.mp (by omega) with zq_x | ⟨x, zq_a, zq_b, zq_c⟩
                       · exact Or.inl zq_x
                       · exact Or.inr ⟨x, zq_a, by omega, zq_c⟩)
                · intro zq_q
                  first
                    | rfl
                    | (rcases zq_q with zq_q | ⟨x, zq_a, zq_b, zq_c⟩
                       · exact absurd (hr.mpr (Or.inl zq_q)) (by omega)
                       · by_cases zq_e : x = j
                         · subst zq_e; exfalso; unfold wnM at zq_c; omega
                         · exact absurd (hr.mpr (Or.inr ⟨x, zq_a, by omega, zq_c⟩)) (by omega))

set_option maxRecDepth 100000 in
set_option maxHeartbeats 4000000 in
theorem l_wl10 {X : Cx} {Q : State → Prop} {P : Option AV → Dd → Prop} (hX : GX X yX10_isWrongLoop cX10_isWrongLoop 8 (some .boolean) 3 0 0) (hF : FX X Q P) (D : Dd) (hF0 : FM D) (hV : V3 D) (k : Int) (hk : 0 ≤ k ∧ k < D 279 11) (hak : 0 ≤ (D 284 (D 279 10 + k).toNat)) (w0 : Prop) (hyes : ∀ w : Int, (w = 0 ∨ w = 1) → (w = 1 ↔ (w0 ∨ ∃ x : Int, (0 : Int) ≤ x ∧ x < D 279 11 ∧ giM D k x)) → P (some (vI w)) D) : ∀ (m : Nat) (j w : Int) (w1 w2 w4 : AV), (D 279 11 - j).toNat < m → (0 : Int) ≤ j → j ≤ D 279 11 → (w = 0 ∨ w = 1) → (w = 1 ↔ (w0 ∨ ∃ x : Int, (0 : Int) ≤ x ∧ x < j ∧ giM D k x)) → W0 X Q 312 [vR 279, vI k, vI w, w1, w2, vI ((D 284 (D 279 10 + k).toNat)), vI j, w4] [] D := by
  intro m
  induction m with
  | zero =>
    intro j w w1 w2 w4 hm h0 h1 hw hr
    exact absurd hm (Nat.not_lt_zero _)
  | succ m ih =>
    intro j w w1 w2 w4 hm h0 h1 hw hr
    have zq_F := hF0
    unfold FM at hF0
    refine w_iload hX dX10_isWrongLoop_312 rfl rfl ?_
    refine w_aload_n (i := 0) hX dX10_isWrongLoop_314 rfl rfl rfl ?_
    refine w_getI (j := 11) hX cl9 fl_RX10_131_9 rfl (by decide) rfl dX10_isWrongLoop_315 rfl ?_
    refine w_icmp_ge (tgt := 388) hX dX10_isWrongLoop_318 rfl (by decide) (fun h318 => ?_) (fun h318 => ?_)
    · refine w_iload_n (i := 2) hX dX10_isWrongLoop_388 rfl rfl rfl ?_
      exact e_z hX hF dX10_isWrongLoop_389 hw (hyes w hw (by rw [show j = D 279 11 by omega] at hr; exact hr))
    · refine w_aload_n (i := 0) hX dX10_isWrongLoop_321 rfl rfl rfl ?_
      refine w_iload hX dX10_isWrongLoop_322 rfl rfl ?_
      refine c_V hX ml_RX10_128 cl9 dX10_isWrongLoop_324 rfl (r_numberAt D zq_F j (by omega)) rfl rfl rfl (by decide) (Nat.le_of_ble_eq_true rfl) ?_
      rintro _ _ ⟨rfl, rfl⟩ -
      all_goals try dsimp only [Option.toList, List.cons_append, List.nil_append]
      refine w_bipush hX dX10_isWrongLoop_327 rfl (by decide) ?_
      refine w_icmp_ne (tgt := 354) hX dX10_isWrongLoop_329 rfl (by decide) (fun h329 => ?_) (fun h329 => ?_)
      · refine w_iconst hX dX10_isWrongLoop_354 rfl (by decide) ?_
        refine w_istore hX dX10_isWrongLoop_355 rfl (by decide) ?_
        dsimp only [st1X, st2X, klX_I, klX_L, klX_R, klX_S, klX_N]
        refine w_iload_n (i := 2) hX dX10_isWrongLoop_357 rfl rfl rfl ?_
        refine w_if_ne (tgt := 376) hX dX10_isWrongLoop_358 rfl (by decide) (fun h358 => ?_) (fun h358 => ?_)
        · refine w_iconst hX dX10_isWrongLoop_376 rfl (by decide) ?_
          refine w_goto (tgt := 381) hX dX10_isWrongLoop_377 (by decide) ?_
          refine w_istore_n (i := 2) hX dX10_isWrongLoop_381 rfl rfl (by decide) ?_
          dsimp only [st1X, st2X, klX_I, klX_L, klX_R, klX_S, klX_N]
          refine w_iinc hX dX10_isWrongLoop_382 rfl rfl (by decide) (by omega) ?_
          dsimp only [st1X, st2X, klX_I, klX_L, klX_R, klX_S, klX_N]
          refine w_goto (tgt := 312) hX dX10_isWrongLoop_385 (by decide) ?_
          refine ih (j + 1) _ _ _ _ (by omega) (by omega) (by omega) (by omega) ?_
          constructor
          · intro zq_q
            first
              | exact absurd zq_q (by decide)
              | exact Or.inr ⟨j, h0, by omega, by unfold giM; omega⟩
              | (rcases hr.mp (by omega) with zq_x | ⟨x, zq_a, zq_b, zq_c⟩
                 · exact Or.inl zq_x
                 · exact Or.inr ⟨x, zq_a, by omega, zq_c⟩)
          · intro zq_q
            first
              | rfl
              | (rcases zq_q with zq_q | ⟨x, zq_a, zq_b, zq_c⟩
                 · exact absurd (hr.mpr (Or.inl zq_q)) (by omega)
                 · by_cases zq_e : x = j
                   · subst zq_e; exfalso; unfold giM at zq_c; omega
                   · exact absurd (hr.mpr (Or.inr ⟨x, zq_a, by omega, zq_c⟩)) (by omega))
        · refine w_iload hX dX10_isWrongLoop_361 rfl rfl ?_
          refine w_if_eq (tgt := 380) hX dX10_isWrongLoop_363 rfl (by decide) (fun _ => ?_) (fun h363 => absurd (by decide) h363)
          refine w_iconst hX dX10_isWrongLoop_380 rfl (by decide) ?_
          refine w_istore_n (i := 2) hX dX10_isWrongLoop_381 rfl rfl (by decide) ?_
          dsimp only [st1X, st2X, klX_I, klX_L, klX_R, klX_S, klX_N]
          refine w_iinc hX dX10_isWrongLoop_382 rfl rfl (by decide) (by omega) ?_
          dsimp only [st1X, st2X, klX_I, klX_L, klX_R, klX_S, klX_N]
          refine w_goto (tgt := 312) hX dX10_isWrongLoop_385 (by decide) ?_
          refine ih (j + 1) _ _ _ _ (by omega) (by omega) (by omega) (by omega) ?_
          constructor
          · intro zq_q
            first
              | exact absurd zq_q (by decide)
              | exact Or.inr ⟨j, h0, by omega, by unfold giM; omega⟩
              | (rcases hr.mp (by omega) with zq_x | ⟨x, zq_a, zq_b, zq_c⟩
                 · exact Or.inl zq_x
                 · exact Or.inr ⟨x, zq_a, by omega, zq_c⟩)
          · intro zq_q
            first
              | rfl
              | (rcases zq_q with zq_q | ⟨x, zq_a, zq_b, zq_c⟩
                 · exact absurd (hr.mpr (Or.inl zq_q)) (by omega)
                 · by_cases zq_e : x = j
                   · subst zq_e; exfalso; unfold giM at zq_c; omega
                   · exact absurd (hr.mpr (Or.inr ⟨x, zq_a, by omega, zq_c⟩)) (by omega))
      · refine w_iload hX dX10_isWrongLoop_332 rfl rfl ?_
        refine w_iload hX dX10_isWrongLoop_334 rfl rfl ?_
        refine w_icmp_eq (tgt := 350) hX dX10_isWrongLoop_336 rfl (by decide) (fun h336 => ?_) (fun h336 => ?_)
        · refine w_iconst hX dX10_isWrongLoop_350 rfl (by decide) ?_
          refine w_goto (tgt := 355) hX dX10_isWrongLoop_351 (by decide) ?_
          refine w_istore hX dX10_isWrongLoop_355 rfl (by decide) ?_
          dsimp only [st1X, st2X, klX_I, klX_L, klX_R, klX_S, klX_N]
          refine w_iload_n (i := 2) hX dX10_isWrongLoop_357 rfl rfl rfl ?_
          refine w_if_ne (tgt := 376) hX dX10_isWrongLoop_358 rfl (by decide) (fun h358 => ?_) (fun h358 => ?_)
          · refine w_iconst hX dX10_isWrongLoop_376 rfl (by decide) ?_
            refine w_goto (tgt := 381) hX dX10_isWrongLoop_377 (by decide) ?_
            refine w_istore_n (i := 2) hX dX10_isWrongLoop_381 rfl rfl (by decide) ?_
            dsimp only [st1X, st2X, klX_I, klX_L, klX_R, klX_S, klX_N]
            refine w_iinc hX dX10_isWrongLoop_382 rfl rfl (by decide) (by omega) ?_
            dsimp only [st1X, st2X, klX_I, klX_L, klX_R, klX_S, klX_N]
            refine w_goto (tgt := 312) hX dX10_isWrongLoop_385 (by decide) ?_
            refine ih (j + 1) _ _ _ _ (by omega) (by omega) (by omega) (by omega) ?_
            constructor
            · intro zq_q
              first
                | exact absurd zq_q (by decide)
                | exact Or.inr ⟨j, h0, by omega, by unfold giM; omega⟩
                | (rcases hr.mp (by omega) with zq_x | ⟨x, zq_a, zq_b, zq_c⟩
                   · exact Or.inl zq_x
                   · exact Or.inr ⟨x, zq_a, by omega, zq_c⟩)
            · intro zq_q
              first
                | rfl
                | (rcases zq_q with zq_q | ⟨x, zq_a, zq_b, zq_c⟩
                   · exact absurd (hr.mpr (Or.inl zq_q)) (by omega)
                   · by_cases zq_e : x = j
                     · subst zq_e; exfalso; unfold giM at zq_c; omega
                     · exact absurd (hr.mpr (Or.inr ⟨x, zq_a, by omega, zq_c⟩)) (by omega))
          · refine w_iload hX dX10_isWrongLoop_361 rfl rfl ?_
            refine w_if_eq (tgt := 380) hX dX10_isWrongLoop_363 rfl (by decide) (fun h363 => absurd h363 (by decide)) (fun _ => ?_)
            refine w_aload_n (i := 0) hX dX10_isWrongLoop_366 rfl rfl rfl ?_
            refine w_iload_n (i := 1) hX dX10_isWrongLoop_367 rfl rfl rfl ?_
            refine w_iload hX dX10_isWrongLoop_368 rfl rfl ?_
            refine c_V hX ml_RX10_157 cl9 dX10_isWrongLoop_370 rfl (r_isInLoop D zq_F k j (by omega) (by first | (have zq_v := hV j h0 (by omega) (by omega); omega) | (exfalso; omega))) rfl rfl rfl (by decide) (Nat.le_of_ble_eq_true rfl) ?_
            rintro _ _ ⟨rfl, rfl⟩ -
            all_goals try dsimp only [Option.toList, List.cons_append, List.nil_append]
            refine w_if_ne (tgt := 380) hX dX10_isWrongLoop_373 rfl (by decide) (fun h373 => ?_) (fun h373 => ?_)
            · rw [b2_ne] at h373
              refine w_iconst hX dX10_isWrongLoop_380 rfl (by decide) ?_
              refine w_istore_n (i := 2) hX dX10_isWrongLoop_381 rfl rfl (by decide) ?_
              dsimp only [st1X, st2X, klX_I, klX_L, klX_R, klX_S, klX_N]
              refine w_iinc hX dX10_isWrongLoop_382 rfl rfl (by decide) (by omega) ?_
              dsimp only [st1X, st2X, klX_I, klX_L, klX_R, klX_S, klX_N]
              refine w_goto (tgt := 312) hX dX10_isWrongLoop_385 (by decide) ?_
              refine ih (j + 1) _ _ _ _ (by omega) (by omega) (by omega) (by omega) ?_
              constructor
              · intro zq_q
                first
                  | exact absurd zq_q (by decide)
                  | exact Or.inr ⟨j, h0, by omega, by unfold giM; omega⟩
                  | (rcases hr.mp (by omega) with zq_x | ⟨x, zq_a, zq_b, zq_c⟩
                     · exact Or.inl zq_x
                     · exact Or.inr ⟨x, zq_a, by omega, zq_c⟩)
              · intro zq_q
                first
                  | rfl
                  | (rcases zq_q with zq_q | ⟨x, zq_a, zq_b, zq_c⟩
                     · exact absurd (hr.mpr (Or.inl zq_q)) (by omega)
                     · by_cases zq_e : x = j
                       · subst zq_e; exfalso; unfold giM at zq_c; omega
                       · exact absurd (hr.mpr (Or.inr ⟨x, zq_a, by omega, zq_c⟩)) (by omega))
            · rw [b2_nn] at h373
              refine w_iconst hX dX10_isWrongLoop_376 rfl (by decide) ?_
              refine w_goto (tgt := 381) hX dX10_isWrongLoop_377 (by decide) ?_
              refine w_istore_n (i := 2) hX dX10_isWrongLoop_381 rfl rfl (by decide) ?_
              dsimp only [st1X, st2X, klX_I, klX_L, klX_R, klX_S, klX_N]
              refine w_iinc hX dX10_isWrongLoop_382 rfl rfl (by decide) (by omega) ?_
              dsimp only [st1X, st2X, klX_I, klX_L, klX_R, klX_S, klX_N]
              refine w_goto (tgt := 312) hX dX10_isWrongLoop_385 (by decide) ?_
              refine ih (j + 1) _ _ _ _ (by omega) (by omega) (by omega) (by omega) ?_
              constructor
              · intro zq_q
                first
                  | exact absurd zq_q (by decide)
                  | exact Or.inr ⟨j, h0, by omega, by unfold giM; omega⟩
                  | (rcases hr.mp (by omega) with zq_x | ⟨x, zq_a, zq_b, zq_c⟩
                     · exact Or.inl zq_x
                     · exact Or.inr ⟨x, zq_a, by omega, zq_c⟩)
              · intro zq_q
                first
                  | rfl
                  | (rcases zq_q with zq_q | ⟨x, zq_a, zq_b, zq_c⟩
                     · exact absurd (hr.mpr (Or.inl zq_q)) (by omega)
                     · by_cases zq_e : x = j
                       · subst zq_e; exfalso; unfold giM at zq_c; omega
                       · exact absurd (hr.mpr (Or.inr ⟨x, zq_a, by omega, zq_c⟩)) (by omega))
        · refine w_aload_n (i := 0) hX dX10_isWrongLoop_339 rfl rfl rfl ?_
          refine w_iload hX dX10_isWrongLoop_340 rfl rfl ?_
          refine w_iload hX dX10_isWrongLoop_342 rfl rfl ?_
          refine c_V hX ml_RX10_157 cl9 dX10_isWrongLoop_344 rfl (r_isInLoop D zq_F _ j (by omega) (by have zq_v := hV j h0 (by omega) (by omega); omega)) rfl rfl rfl (by decide) (Nat.le_of_ble_eq_true rfl) ?_
          rintro _ _ ⟨rfl, rfl⟩ -
          all_goals try dsimp only [Option.toList, List.cons_append, List.nil_append]
          refine w_if_eq (tgt := 354) hX dX10_isWrongLoop_347 rfl (by decide) (fun h347 => ?_) (fun h347 => ?_)
          · rw [b2_0] at h347
            refine w_iconst hX dX10_isWrongLoop_354 rfl (by decide) ?_
            refine w_istore hX dX10_isWrongLoop_355 rfl (by decide) ?_
            dsimp only [st1X, st2X, klX_I, klX_L, klX_R, klX_S, klX_N]
            refine w_iload_n (i := 2) hX dX10_isWrongLoop_357 rfl rfl rfl ?_
            refine w_if_ne (tgt := 376) hX dX10_isWrongLoop_358 rfl (by decide) (fun h358 => ?_) (fun h358 => ?_)
            · refine w_iconst hX dX10_isWrongLoop_376 rfl (by decide) ?_
              refine w_goto (tgt := 381) hX dX10_isWrongLoop_377 (by decide) ?_
              refine w_istore_n (i := 2) hX dX10_isWrongLoop_381 rfl rfl (by decide) ?_
              dsimp only [st1X, st2X, klX_I, klX_L, klX_R, klX_S, klX_N]
              refine w_iinc hX dX10_isWrongLoop_382 rfl rfl (by decide) (by omega) ?_
              dsimp only [st1X, st2X, klX_I, klX_L, klX_R, klX_S, klX_N]
              refine w_goto (tgt := 312) hX dX10_isWrongLoop_385 (by decide) ?_
              refine ih (j + 1) _ _ _ _ (by omega) (by omega) (by omega) (by omega) ?_
              constructor
              · intro zq_q
                first
                  | exact absurd zq_q (by decide)
                  | exact Or.inr ⟨j, h0, by omega, by unfold giM; omega⟩
                  | (rcases hr.mp (by omega) with zq_x | ⟨x, zq_a, zq_b, zq_c⟩
                     · exact Or.inl zq_x
                     · exact Or.inr ⟨x, zq_a, by omega, zq_c⟩)
              · intro zq_q
                first
                  | rfl
                  | (rcases zq_q with zq_q | ⟨x, zq_a, zq_b, zq_c⟩
                     · exact absurd (hr.mpr (Or.inl zq_q)) (by omega)
                     · by_cases zq_e : x = j
                       · subst zq_e; exfalso; unfold giM at zq_c; omega
                       · exact absurd (hr.mpr (Or.inr ⟨x, zq_a, by omega, zq_c⟩)) (by omega))
            · refine w_iload hX dX10_isWrongLoop_361 rfl rfl ?_
              refine w_if_eq (tgt := 380) hX dX10_isWrongLoop_363 rfl (by decide) (fun _ => ?_) (fun h363 => absurd (by decide) h363)
              refine w_iconst hX dX10_isWrongLoop_380 rfl (by decide) ?_
              refine w_istore_n (i := 2) hX dX10_isWrongLoop_381 rfl rfl (by decide) ?_
              dsimp only [st1X, st2X, klX_I, klX_L, klX_R, klX_S, klX_N]
              refine w_iinc hX dX10_isWrongLoop_382 rfl rfl (by decide) (by omega) ?_
              dsimp only [st1X, st2X, klX_I, klX_L, klX_R, klX_S, klX_N]
              refine w_goto (tgt := 312) hX dX10_isWrongLoop_385 (by decide) ?_
              refine ih (j + 1) _ _ _ _ (by omega) (by omega) (by omega) (by omega) ?_
              constructor
              · intro zq_q
                first
                  | exact absurd zq_q (by decide)
                  | exact Or.inr ⟨j, h0, by omega, by unfold giM; omega⟩
                  | (rcases hr.mp (by omega) with zq_x | ⟨x, zq_a, zq_b, zq_c⟩
                     · exact Or.inl zq_x
                     · exact Or.inr ⟨x, zq_a, by omega, zq_c⟩)
              · intro zq_q
                first
                  | rfl
                  | (rcases zq_q with zq_q | ⟨x, zq_a, zq_b, zq_c⟩
                     · exact absurd (hr.mpr (Or.inl zq_q)) (by omega)
                     · by_cases zq_e : x = j
                       · subst zq_e; exfalso; unfold giM at zq_c; omega
                       · exact absurd (hr.mpr (Or.inr ⟨x, zq_a, by omega, zq_c⟩)) (by omega))
          · rw [b2_n] at h347
            refine w_iconst hX dX10_isWrongLoop_350 rfl (by decide) ?_
            refine w_goto (tgt := 355) hX dX10_isWrongLoop_351 (by decide) ?_
            refine w_istore hX dX10_isWrongLoop_355 rfl (by decide) ?_
            dsimp only [st1X, st2X, klX_I, klX_L, klX_R, klX_S, klX_N]
            refine w_iload_n (i := 2) hX dX10_isWrongLoop_357 rfl rfl rfl ?_
            refine w_if_ne (tgt := 376) hX dX10_isWrongLoop_358 rfl (by decide) (fun h358 => ?_) (fun h358 => ?_)
            · refine w_iconst hX dX10_isWrongLoop_376 rfl (by decide) ?_
              refine w_goto (tgt := 381) hX dX10_isWrongLoop_377 (by decide) ?_
              refine w_istore_n (i := 2) hX dX10_isWrongLoop_381 rfl rfl (by decide) ?_
              dsimp only [st1X, st2X, klX_I, klX_L, klX_R, klX_S, klX_N]
              refine w_iinc hX dX10_isWrongLoop_382 rfl rfl (by decide) (by omega) ?_
              dsimp only [st1X, st2X, klX_I, klX_L, klX_R, klX_S, klX_N]
              refine w_goto (tgt := 312) hX dX10_isWrongLoop_385 (by decide) ?_
              refine ih (j + 1) _ _ _ _ (by omega) (by omega) (by omega) (by omega) ?_
              constructor
              · intro zq_q
                first
                  | exact absurd zq_q (by decide)
                  | exact Or.inr ⟨j, h0, by omega, by unfold giM; omega⟩
                  | (rcases hr.mp (by omega) with zq_x | ⟨x, zq_a, zq_b, zq_c⟩
                     · exact Or.inl zq_x
                     · exact Or.inr ⟨x, zq_a, by omega, zq_c⟩)
              · intro zq_q
                first
                  | rfl
                  | (rcases zq_q with zq_q | ⟨x, zq_a, zq_b, zq_c⟩
                     · exact absurd (hr.mpr (Or.inl zq_q)) (by omega)
                     · by_cases zq_e : x = j
                       · subst zq_e; exfalso; unfold giM at zq_c; omega
                       · exact absurd (hr.mpr (Or.inr ⟨x, zq_a, by omega, zq_c⟩)) (by omega))
            · refine w_iload hX dX10_isWrongLoop_361 rfl rfl ?_
              refine w_if_eq (tgt := 380) hX dX10_isWrongLoop_363 rfl (by decide) (fun h363 => absurd h363 (by decide)) (fun _ => ?_)
              refine w_aload_n (i := 0) hX dX10_isWrongLoop_366 rfl rfl rfl ?_
              refine w_iload_n (i := 1) hX dX10_isWrongLoop_367 rfl rfl rfl ?_
              refine w_iload hX dX10_isWrongLoop_368 rfl rfl ?_
              refine c_V hX ml_RX10_157 cl9 dX10_isWrongLoop_370 rfl (r_isInLoop D zq_F k j (by omega) (by first | (have zq_v := hV j h0 (by omega) (by omega); omega) | (exfalso; omega))) rfl rfl rfl (by decide) (Nat.le_of_ble_eq_true rfl) ?_
              rintro _ _ ⟨rfl, rfl⟩ -
              all_goals try dsimp only [Option.toList, List.cons_append, List.nil_append]
              refine w_if_ne (tgt := 380) hX dX10_isWrongLoop_373 rfl (by decide) (fun h373 => ?_) (fun h373 => ?_)
              · rw [b2_ne] at h373
                refine w_iconst hX dX10_isWrongLoop_380 rfl (by decide) ?_
                refine w_istore_n (i := 2) hX dX10_isWrongLoop_381 rfl rfl (by decide) ?_
                dsimp only [st1X, st2X, klX_I, klX_L, klX_R, klX_S, klX_N]
                refine w_iinc hX dX10_isWrongLoop_382 rfl rfl (by decide) (by omega) ?_
                dsimp only [st1X, st2X, klX_I, klX_L, klX_R, klX_S, klX_N]
                refine w_goto (tgt := 312) hX dX10_isWrongLoop_385 (by decide) ?_
                refine ih (j + 1) _ _ _ _ (by omega) (by omega) (by omega) (by omega) ?_
                constructor
                · intro zq_q
                  first
                    | exact absurd zq_q (by decide)
                    | exact Or.inr ⟨j, h0, by omega, by unfold giM; omega⟩
                    | (rcases hr.mp (by omega) with zq_x | ⟨x, zq_a, zq_b, zq_c⟩
                       · exact Or.inl zq_x
                       · exact Or.inr ⟨x, zq_a, by omega, zq_c⟩)
                · intro zq_q
                  first
                    | rfl
                    | (rcases zq_q with zq_q | ⟨x, zq_a, zq_b, zq_c⟩
                       · exact absurd (hr.mpr (Or.inl zq_q)) (by omega)
                       · by_cases zq_e : x = j
                         · subst zq_e; exfalso; unfold giM at zq_c; omega
                         · exact absurd (hr.mpr (Or.inr ⟨x, zq_a, by omega, zq_c⟩)) (by omega))
              · rw [b2_nn] at h373
                refine w_iconst hX dX10_isWrongLoop_376 rfl (by decide) ?_
                refine w_goto (tgt := 381) hX dX10_isWrongLoop_377 (by decide) ?_
                refine w_istore_n (i := 2) hX dX10_isWrongLoop_381 rfl rfl (by decide) ?_
                dsimp only [st1X, st2X, klX_I, klX_L, klX_R, klX_S, klX_N]
                refine w_iinc hX dX10_isWrongLoop_382 rfl rfl (by decide) (by omega) ?_
                dsimp only [st1X, st2X, klX_I, klX_L, klX_R, klX_S, klX_N]
                refine w_goto (tgt := 312) hX dX10_isWrongLoop_385 (by decide) ?_
                refine ih (j + 1) _ _ _ _ (by omega) (by omega) (by omega) (by omega) ?_
                constructor
                · intro zq_q
                  first
                    | exact absurd zq_q (by decide)
                    | exact Or.inr ⟨j, h0, by omega, by unfold giM; omega⟩
                    | (rcases hr.mp (by omega) with zq_x | ⟨x, zq_a, zq_b, zq_c⟩
                       · exact Or.inl zq_x
                       · exact Or.inr ⟨x, zq_a, by omega, zq_c⟩)
                · intro zq_q
                  first
                    | rfl
                    | (rcases zq_q with zq_q | ⟨x, zq_a, zq_b, zq_c⟩
                       · exact absurd (hr.mpr (Or.inl zq_q)) (by omega)
                       · by_cases zq_e : x = j
                         · subst zq_e; exfalso; unfold giM at zq_c; omega
                         · exact absurd (hr.mpr (Or.inr ⟨x, zq_a, by omega, zq_c⟩)) (by omega))
