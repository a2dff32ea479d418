/-! The reference: cells, counters, targets; a line -/
abbrev coM (D : Dd) (u n a b c : Int) : Prop := (n = 15 ∧ b < 0) ∨ (cnM D n a c ≠ 0 ∧ (fcM n a b < 0 ∨ (if n = 5 ∨ n = 6 then D 280 a.toNat else D 280 u.toNat) < fcM n a b + cnM D n a c))

set_option maxRecDepth 100000 in
set_option maxHeartbeats 4000000 in
theorem r_isWrongCell (D : Dd) (i : Int) (hi : 0 ≤ i ∧ i < 256) (ha : D 283 i.toNat = 5 ∨ D 283 i.toNat = 6 ∨ D 283 i.toNat = 15 → 0 ≤ D 284 i.toNat ∧ D 284 i.toNat < 16) (u : Int) (hu : 0 ≤ u ∧ u < 16) : MC 2 yX10_isWrongCell cX10_isWrongCell 5 (some .boolean) [vR 279, vI i, vI u] D (Is (some (vI (b2 (coM D u (D 283 i.toNat) (D 284 i.toNat) (D 285 i.toNat) (D 286 i.toNat))))) D) := by
  refine MC.mk [vR 279, vI i, vI u, vN, vN] (by decide) (Nat.le_of_ble_eq_true rfl) rfl (fun X Q hX hF hok hol => ?_)
  refine w_aload_n (i := 0) hX dX10_isWrongCell_0 rfl rfl rfl ?_
  refine w_getR (j := 6) hX cl9 fl_RX10_19_9 rfl (by decide) rfl rfl dX10_isWrongCell_1 rfl ?_
  refine w_iload_n (i := 1) hX dX10_isWrongCell_4 rfl rfl rfl ?_
  refine w_iald hX rfl (by omega) (by omega) dX10_isWrongCell_5 rfl ?_
  refine w_istore_n (i := 3) hX dX10_isWrongCell_6 rfl rfl (by decide) ?_
  dsimp only [st1X, st2X, klX_I, klX_L, klX_R, klX_S, klX_N]
  refine w_iload_n (i := 3) hX dX10_isWrongCell_7 rfl rfl rfl ?_
  refine w_bipush hX dX10_isWrongCell_8 rfl (by decide) ?_
  refine w_icmp_ne (tgt := 24) hX dX10_isWrongCell_10 rfl (by decide) (fun h10 => ?_) (fun h10 => ?_)
  · refine w_aload_n (i := 0) hX dX10_isWrongCell_24 rfl rfl rfl ?_
    refine w_iload_n (i := 1) hX dX10_isWrongCell_25 rfl rfl rfl ?_
    refine c_V hX ml_RX10_114 cl9 dX10_isWrongCell_26 rfl (r_cellsOf D i hi (fun zq_h => ha (Or.inr (Or.inr zq_h)))) rfl rfl rfl (by decide) (Nat.le_of_ble_eq_true rfl) ?_
    rintro _ _ ⟨rfl, rfl⟩ -
    refine w_nameI (fun zq_c zq_hc => ?_)
    refine w_ok (fun _ _ zq_os => ?_)
    have zq_cI : inI zq_c := zq_os.head
    all_goals try dsimp only [Option.toList, List.cons_append, List.nil_append]
    refine w_if_ne (tgt := 34) hX dX10_isWrongCell_29 rfl (by decide) (fun h29 => ?_) (fun h29 => ?_)
    · refine w_iload_n (i := 3) hX dX10_isWrongCell_34 rfl rfl rfl ?_
      refine w_iconst hX dX10_isWrongCell_35 rfl (by decide) ?_
      refine w_icmp_eq (tgt := 45) hX dX10_isWrongCell_36 rfl (by decide) (fun h36 => ?_) (fun h36 => ?_)
      · refine w_aload_n (i := 0) hX dX10_isWrongCell_45 rfl rfl rfl ?_
        refine w_getR (j := 2) hX cl9 fl_RX10_7_9 rfl (by decide) rfl rfl dX10_isWrongCell_46 rfl ?_
        refine w_aload_n (i := 0) hX dX10_isWrongCell_49 rfl rfl rfl ?_
        refine w_getR (j := 7) hX cl9 fl_RX10_22_9 rfl (by decide) rfl rfl dX10_isWrongCell_50 rfl ?_
        refine w_iload_n (i := 1) hX dX10_isWrongCell_53 rfl rfl rfl ?_
        refine w_iald hX rfl (by omega) (by omega) dX10_isWrongCell_54 rfl ?_
        refine w_iald hX rfl (by omega) (by omega) dX10_isWrongCell_55 rfl ?_
        refine w_goto (tgt := 65) hX dX10_isWrongCell_56 (by decide) ?_
        refine w_nameI (fun zq_fr zq_hfr => ?_)
        refine w_istore hX dX10_isWrongCell_65 rfl (by decide) ?_
        dsimp only [st1X, st2X, klX_I, klX_L, klX_R, klX_S, klX_N]
        refine w_aload_n (i := 0) hX dX10_isWrongCell_67 rfl rfl rfl ?_
        refine w_iload_n (i := 1) hX dX10_isWrongCell_68 rfl rfl rfl ?_
        refine c_V hX ml_RX10_117 cl9 dX10_isWrongCell_69 rfl (r_firstCell D i hi) rfl rfl rfl (by decide) (Nat.le_of_ble_eq_true rfl) ?_
        rintro _ _ ⟨rfl, rfl⟩ -
        refine w_nameL (fun zq_f zq_hf => ?_)
        have zq_of : -4000000000 ≤ zq_f ∧ zq_f ≤ 4000000000 := by
          have zq_3 := hok.int (k := 285) (by decide) (by decide) i.toNat
          have zq_4 := hok.int (k := 284) (by decide) (by decide) i.toNat
          rw [zq_hf]
          unfold fcM
          split <;> omega
        all_goals try dsimp only [Option.toList, List.cons_append, List.nil_append]
        refine w_lconst0 hX dX10_isWrongCell_72 rfl ?_
        refine w_lcmp hX dX10_isWrongCell_73 rfl ?_
        refine w_if_lt (tgt := 96) hX dX10_isWrongCell_74 rfl (by decide) (fun h74 => ?_) (fun h74 => ?_)
        · rw [lc_lt] at h74
          refine w_iconst hX dX10_isWrongCell_96 rfl (by decide) ?_
          refine w_goto (tgt := 101) hX dX10_isWrongCell_97 (by decide) ?_
          exact e_z hX hF dX10_isWrongCell_101 (by decide) (by first | (exfalso; omega) | exact ⟨by first | rw [b2_t (by unfold coM; rw [← zq_hc, ← zq_hf]; first | (rw [if_pos (by omega), ← zq_hfr]; omega) | (rw [if_neg (by omega), ← zq_hfr]; omega))] | rw [b2_f (by unfold coM; rw [← zq_hc, ← zq_hf]; first | (rw [if_pos (by omega), ← zq_hfr]; omega) | (rw [if_neg (by omega), ← zq_hfr]; omega))], rfl⟩)
        · rw [lc_lt] at h74
          refine w_aload_n (i := 0) hX dX10_isWrongCell_77 rfl rfl rfl ?_
          refine w_iload_n (i := 1) hX dX10_isWrongCell_78 rfl rfl rfl ?_
          refine c_V hX ml_RX10_117 cl9 dX10_isWrongCell_79 rfl (r_firstCell D i hi) rfl rfl rfl (by decide) (Nat.le_of_ble_eq_true rfl) ?_
          rintro _ _ ⟨rfl, rfl⟩ -
          rw [← zq_hf]
          all_goals try dsimp only [Option.toList, List.cons_append, List.nil_append]
          refine w_aload_n (i := 0) hX dX10_isWrongCell_82 rfl rfl rfl ?_
          refine w_iload_n (i := 1) hX dX10_isWrongCell_83 rfl rfl rfl ?_
          refine c_V hX ml_RX10_114 cl9 dX10_isWrongCell_84 rfl (r_cellsOf D i hi (fun zq_h => ha (Or.inr (Or.inr zq_h)))) rfl rfl rfl (by decide) (Nat.le_of_ble_eq_true rfl) ?_
          rintro _ _ ⟨rfl, rfl⟩ -
          rw [← zq_hc]
          all_goals try dsimp only [Option.toList, List.cons_append, List.nil_append]
          refine w_i2l hX dX10_isWrongCell_87 rfl ?_
          refine w_ladd hX dX10_isWrongCell_88 rfl (by omega) ?_
          refine w_iload hX dX10_isWrongCell_89 rfl rfl ?_
          refine w_i2l hX dX10_isWrongCell_91 rfl ?_
          refine w_lcmp hX dX10_isWrongCell_92 rfl ?_
          refine w_if_le (tgt := 100) hX dX10_isWrongCell_93 rfl (by decide) (fun h93 => ?_) (fun h93 => ?_)
          · rw [lc_le] at h93
            refine w_iconst hX dX10_isWrongCell_100 rfl (by decide) ?_
            exact e_z hX hF dX10_isWrongCell_101 (by decide) (by first | (exfalso; omega) | exact ⟨by first | rw [b2_t (by unfold coM; rw [← zq_hc, ← zq_hf]; first | (rw [if_pos (by omega), ← zq_hfr]; omega) | (rw [if_neg (by omega), ← zq_hfr]; omega))] | rw [b2_f (by unfold coM; rw [← zq_hc, ← zq_hf]; first | (rw [if_pos (by omega), ← zq_hfr]; omega) | (rw [if_neg (by omega), ← zq_hfr]; omega))], rfl⟩)
          · rw [lc_le] at h93
            refine w_iconst hX dX10_isWrongCell_96 rfl (by decide) ?_
            refine w_goto (tgt := 101) hX dX10_isWrongCell_97 (by decide) ?_
            exact e_z hX hF dX10_isWrongCell_101 (by decide) (by first | (exfalso; omega) | exact ⟨by first | rw [b2_t (by unfold coM; rw [← zq_hc, ← zq_hf]; first | (rw [if_pos (by omega), ← zq_hfr]; omega) | (rw [if_neg (by omega), ← zq_hfr]; omega))] | rw [b2_f (by unfold coM; rw [← zq_hc, ← zq_hf]; first | (rw [if_pos (by omega), ← zq_hfr]; omega) | (rw [if_neg (by omega), ← zq_hfr]; omega))], rfl⟩)
      · refine w_iload_n (i := 3) hX dX10_isWrongCell_39 rfl rfl rfl ?_
        refine w_bipush hX dX10_isWrongCell_40 rfl (by decide) ?_
        refine w_icmp_ne (tgt := 59) hX dX10_isWrongCell_42 rfl (by decide) (fun h42 => ?_) (fun h42 => ?_)
        · refine w_aload_n (i := 0) hX dX10_isWrongCell_59 rfl rfl rfl ?_
          refine w_getR (j := 2) hX cl9 fl_RX10_7_9 rfl (by decide) rfl rfl dX10_isWrongCell_60 rfl ?_
          refine w_iload_n (i := 2) hX dX10_isWrongCell_63 rfl rfl rfl ?_
          refine w_iald hX rfl (by omega) (by omega) dX10_isWrongCell_64 rfl ?_
          refine w_nameI (fun zq_fr zq_hfr => ?_)
          refine w_istore hX dX10_isWrongCell_65 rfl (by decide) ?_
          dsimp only [st1X, st2X, klX_I, klX_L, klX_R, klX_S, klX_N]
          refine w_aload_n (i := 0) hX dX10_isWrongCell_67 rfl rfl rfl ?_
          refine w_iload_n (i := 1) hX dX10_isWrongCell_68 rfl rfl rfl ?_
          refine c_V hX ml_RX10_117 cl9 dX10_isWrongCell_69 rfl (r_firstCell D i hi) rfl rfl rfl (by decide) (Nat.le_of_ble_eq_true rfl) ?_
          rintro _ _ ⟨rfl, rfl⟩ -
          refine w_nameL (fun zq_f zq_hf => ?_)
          have zq_of : -4000000000 ≤ zq_f ∧ zq_f ≤ 4000000000 := by
            have zq_3 := hok.int (k := 285) (by decide) (by decide) i.toNat
            have zq_4 := hok.int (k := 284) (by decide) (by decide) i.toNat
            rw [zq_hf]
            unfold fcM
            split <;> omega
          all_goals try dsimp only [Option.toList, List.cons_append, List.nil_append]
          refine w_lconst0 hX dX10_isWrongCell_72 rfl ?_
          refine w_lcmp hX dX10_isWrongCell_73 rfl ?_
          refine w_if_lt (tgt := 96) hX dX10_isWrongCell_74 rfl (by decide) (fun h74 => ?_) (fun h74 => ?_)
          · rw [lc_lt] at h74
            refine w_iconst hX dX10_isWrongCell_96 rfl (by decide) ?_
            refine w_goto (tgt := 101) hX dX10_isWrongCell_97 (by decide) ?_
            exact e_z hX hF dX10_isWrongCell_101 (by decide) (by first | (exfalso; omega) | exact ⟨by first | rw [b2_t (by unfold coM; rw [← zq_hc, ← zq_hf]; first | (rw [if_pos (by omega), ← zq_hfr]; omega) | (rw [if_neg (by omega), ← zq_hfr]; omega))] | rw [b2_f (by unfold coM; rw [← zq_hc, ← zq_hf]; first | (rw [if_pos (by omega), ← zq_hfr]; omega) | (rw [if_neg (by omega), ← zq_hfr]; omega))], rfl⟩)
          · rw [lc_lt] at h74
            refine w_aload_n (i := 0) hX dX10_isWrongCell_77 rfl rfl rfl ?_
            refine w_iload_n (i := 1) hX dX10_isWrongCell_78 rfl rfl rfl ?_
            refine c_V hX ml_RX10_117 cl9 dX10_isWrongCell_79 rfl (r_firstCell D i hi) rfl rfl rfl (by decide) (Nat.le_of_ble_eq_true rfl) ?_
            rintro _ _ ⟨rfl, rfl⟩ -
            rw [← zq_hf]
            all_goals try dsimp only [Option.toList, List.cons_append, List.nil_append]
            refine w_aload_n (i := 0) hX dX10_isWrongCell_82 rfl rfl rfl ?_
            refine w_iload_n (i := 1) hX dX10_isWrongCell_83 rfl rfl rfl ?_
            refine c_V hX ml_RX10_114 cl9 dX10_isWrongCell_84 rfl (r_cellsOf D i hi (fun zq_h => ha (Or.inr (Or.inr zq_h)))) rfl rfl rfl (by decide) (Nat.le_of_ble_eq_true rfl) ?_
            rintro _ _ ⟨rfl, rfl⟩ -
            rw [← zq_hc]
            all_goals try dsimp only [Option.toList, List.cons_append, List.nil_append]
            refine w_i2l hX dX10_isWrongCell_87 rfl ?_
            refine w_ladd hX dX10_isWrongCell_88 rfl (by omega) ?_
            refine w_iload hX dX10_isWrongCell_89 rfl rfl ?_
            refine w_i2l hX dX10_isWrongCell_91 rfl ?_
            refine w_lcmp hX dX10_isWrongCell_92 rfl ?_
            refine w_if_le (tgt := 100) hX dX10_isWrongCell_93 rfl (by decide) (fun h93 => ?_) (fun h93 => ?_)
            · rw [lc_le] at h93
              refine w_iconst hX dX10_isWrongCell_100 rfl (by decide) ?_
              exact e_z hX hF dX10_isWrongCell_101 (by decide) (by first | (exfalso; omega) | exact ⟨by first | rw [b2_t (by unfold coM; rw [← zq_hc, ← zq_hf]; first | (rw [if_pos (by omega), ← zq_hfr]; omega) | (rw [if_neg (by omega), ← zq_hfr]; omega))] | rw [b2_f (by unfold coM; rw [← zq_hc, ← zq_hf]; first | (rw [if_pos (by omega), ← zq_hfr]; omega) | (rw [if_neg (by omega), ← zq_hfr]; omega))], rfl⟩)
            · rw [lc_le] at h93
              refine w_iconst hX dX10_isWrongCell_96 rfl (by decide) ?_
              refine w_goto (tgt := 101) hX dX10_isWrongCell_97 (by decide) ?_
              exact e_z hX hF dX10_isWrongCell_101 (by decide) (by first | (exfalso; omega) | exact ⟨by first | rw [b2_t (by unfold coM; rw [← zq_hc, ← zq_hf]; first | (rw [if_pos (by omega), ← zq_hfr]; omega) | (rw [if_neg (by omega), ← zq_hfr]; omega))] | rw [b2_f (by unfold coM; rw [← zq_hc, ← zq_hf]; first | (rw [if_pos (by omega), ← zq_hfr]; omega) | (rw [if_neg (by omega), ← zq_hfr]; omega))], rfl⟩)
        · refine w_aload_n (i := 0) hX dX10_isWrongCell_45 rfl rfl rfl ?_
          refine w_getR (j := 2) hX cl9 fl_RX10_7_9 rfl (by decide) rfl rfl dX10_isWrongCell_46 rfl ?_
          refine w_aload_n (i := 0) hX dX10_isWrongCell_49 rfl rfl rfl ?_
          refine w_getR (j := 7) hX cl9 fl_RX10_22_9 rfl (by decide) rfl rfl dX10_isWrongCell_50 rfl ?_
          refine w_iload_n (i := 1) hX dX10_isWrongCell_53 rfl rfl rfl ?_
          refine w_iald hX rfl (by omega) (by omega) dX10_isWrongCell_54 rfl ?_
          refine w_iald hX rfl (by omega) (by omega) dX10_isWrongCell_55 rfl ?_
          refine w_goto (tgt := 65) hX dX10_isWrongCell_56 (by decide) ?_
          refine w_nameI (fun zq_fr zq_hfr => ?_)
          refine w_istore hX dX10_isWrongCell_65 rfl (by decide) ?_
          dsimp only [st1X, st2X, klX_I, klX_L, klX_R, klX_S, klX_N]
          refine w_aload_n (i := 0) hX dX10_isWrongCell_67 rfl rfl rfl ?_
          refine w_iload_n (i := 1) hX dX10_isWrongCell_68 rfl rfl rfl ?_
          refine c_V hX ml_RX10_117 cl9 dX10_isWrongCell_69 rfl (r_firstCell D i hi) rfl rfl rfl (by decide) (Nat.le_of_ble_eq_true rfl) ?_
          rintro _ _ ⟨rfl, rfl⟩ -
          refine w_nameL (fun zq_f zq_hf => ?_)
          have zq_of : -4000000000 ≤ zq_f ∧ zq_f ≤ 4000000000 := by
            have zq_3 := hok.int (k := 285) (by decide) (by decide) i.toNat
            have zq_4 := hok.int (k := 284) (by decide) (by decide) i.toNat
            rw [zq_hf]
            unfold fcM
            split <;> omega
          all_goals try dsimp only [Option.toList, List.cons_append, List.nil_append]
          refine w_lconst0 hX dX10_isWrongCell_72 rfl ?_
          refine w_lcmp hX dX10_isWrongCell_73 rfl ?_
          refine w_if_lt (tgt := 96) hX dX10_isWrongCell_74 rfl (by decide) (fun h74 => ?_) (fun h74 => ?_)
          · rw [lc_lt] at h74
            refine w_iconst hX dX10_isWrongCell_96 rfl (by decide) ?_
            refine w_goto (tgt := 101) hX dX10_isWrongCell_97 (by decide) ?_
            exact e_z hX hF dX10_isWrongCell_101 (by decide) (by first | (exfalso; omega) | exact ⟨by first | rw [b2_t (by unfold coM; rw [← zq_hc, ← zq_hf]; first | (rw [if_pos (by omega), ← zq_hfr]; omega) | (rw [if_neg (by omega), ← zq_hfr]; omega))] | rw [b2_f (by unfold coM; rw [← zq_hc, ← zq_hf]; first | (rw [if_pos (by omega), ← zq_hfr]; omega) | (rw [if_neg (by omega), ← zq_hfr]; omega))], rfl⟩)
          · rw [lc_lt] at h74
            refine w_aload_n (i := 0) hX dX10_isWrongCell_77 rfl rfl rfl ?_
            refine w_iload_n (i := 1) hX dX10_isWrongCell_78 rfl rfl rfl ?_
            refine c_V hX ml_RX10_117 cl9 dX10_isWrongCell_79 rfl (r_firstCell D i hi) rfl rfl rfl (by decide) (Nat.le_of_ble_eq_true rfl) ?_
            rintro _ _ ⟨rfl, rfl⟩ -
            rw [← zq_hf]
            all_goals try dsimp only [Option.toList, List.cons_append, List.nil_append]
            refine w_aload_n (i := 0) hX dX10_isWrongCell_82 rfl rfl rfl ?_
            refine w_iload_n (i := 1) hX dX10_isWrongCell_83 rfl rfl rfl ?_
            refine c_V hX ml_RX10_114 cl9 dX10_isWrongCell_84 rfl (r_cellsOf D i hi (fun zq_h => ha (Or.inr (Or.inr zq_h)))) rfl rfl rfl (by decide) (Nat.le_of_ble_eq_true rfl) ?_
            rintro _ _ ⟨rfl, rfl⟩ -
            rw [← zq_hc]
            all_goals try dsimp only [Option.toList, List.cons_append, List.nil_append]
            refine w_i2l hX dX10_isWrongCell_87 rfl ?_
            refine w_ladd hX dX10_isWrongCell_88 rfl (by omega) ?_
            refine w_iload hX dX10_isWrongCell_89 rfl rfl ?_
            refine w_i2l hX dX10_isWrongCell_91 rfl ?_
            refine w_lcmp hX dX10_isWrongCell_92 rfl ?_
            refine w_if_le (tgt := 100) hX dX10_isWrongCell_93 rfl (by decide) (fun h93 => ?_) (fun h93 => ?_)
            · rw [lc_le] at h93
              refine w_iconst hX dX10_isWrongCell_100 rfl (by decide) ?_
              exact e_z hX hF dX10_isWrongCell_101 (by decide) (by first | (exfalso; omega) | exact ⟨by first | rw [b2_t (by unfold coM; rw [← zq_hc, ← zq_hf]; first | (rw [if_pos (by omega), ← zq_hfr]; omega) | (rw [if_neg (by omega), ← zq_hfr]; omega))] | rw [b2_f (by unfold coM; rw [← zq_hc, ← zq_hf]; first | (rw [if_pos (by omega), ← zq_hfr]; omega) | (rw [if_neg (by omega), ← zq_hfr]; omega))], rfl⟩)
            · rw [lc_le] at h93
              refine w_iconst hX dX10_isWrongCell_96 rfl (by decide) ?_
              refine w_goto (tgt := 101) hX dX10_isWrongCell_97 (by decide) ?_
              exact e_z hX hF dX10_isWrongCell_101 (by decide) (by first | (exfalso; omega) | exact ⟨by first | rw [b2_t (by unfold coM; rw [← zq_hc, ← zq_hf]; first | (rw [if_pos (by omega), ← zq_hfr]; omega) | (rw [if_neg (by omega), ← zq_hfr]; omega))] | rw [b2_f (by unfold coM; rw [← zq_hc, ← zq_hf]; first | (rw [if_pos (by omega), ← zq_hfr]; omega) | (rw [if_neg (by omega), ← zq_hfr]; omega))], rfl⟩)
    · refine w_iconst hX dX10_isWrongCell_32 rfl (by decide) ?_
      exact e_z hX hF dX10_isWrongCell_33 (by decide) ⟨by rw [b2_f (by unfold coM; rw [← zq_hc]; omega)], rfl⟩
  · refine w_aload_n (i := 0) hX dX10_isWrongCell_13 rfl rfl rfl ?_
    refine w_getR (j := 8) hX cl9 fl_RX10_25_9 rfl (by decide) rfl rfl dX10_isWrongCell_14 rfl ?_
    refine w_iload_n (i := 1) hX dX10_isWrongCell_17 rfl rfl rfl ?_
    refine w_iald hX rfl (by omega) (by omega) dX10_isWrongCell_18 rfl ?_
    refine w_if_ge (tgt := 24) hX dX10_isWrongCell_19 rfl (by decide) (fun h19 => ?_) (fun h19 => ?_)
    · refine w_aload_n (i := 0) hX dX10_isWrongCell_24 rfl rfl rfl ?_
      refine w_iload_n (i := 1) hX dX10_isWrongCell_25 rfl rfl rfl ?_
      refine c_V hX ml_RX10_114 cl9 dX10_isWrongCell_26 rfl (r_cellsOf D i hi (fun zq_h => ha (Or.inr (Or.inr zq_h)))) rfl rfl rfl (by decide) (Nat.le_of_ble_eq_true rfl) ?_
      rintro _ _ ⟨rfl, rfl⟩ -
      refine w_nameI (fun zq_c zq_hc => ?_)
      refine w_ok (fun _ _ zq_os => ?_)
      have zq_cI : inI zq_c := zq_os.head
      all_goals try dsimp only [Option.toList, List.cons_append, List.nil_append]
      refine w_if_ne (tgt := 34) hX dX10_isWrongCell_29 rfl (by decide) (fun h29 => ?_) (fun h29 => ?_)
      · refine w_iload_n (i := 3) hX dX10_isWrongCell_34 rfl rfl rfl ?_
        refine w_iconst hX dX10_isWrongCell_35 rfl (by decide) ?_
        refine w_icmp_eq (tgt := 45) hX dX10_isWrongCell_36 rfl (by decide) (fun h36 => ?_) (fun h36 => ?_)
        · refine w_aload_n (i := 0) hX dX10_isWrongCell_45 rfl rfl rfl ?_
          refine w_getR (j := 2) hX cl9 fl_RX10_7_9 rfl (by decide) rfl rfl dX10_isWrongCell_46 rfl ?_
          refine w_aload_n (i := 0) hX dX10_isWrongCell_49 rfl rfl rfl ?_
          refine w_getR (j := 7) hX cl9 fl_RX10_22_9 rfl (by decide) rfl rfl dX10_isWrongCell_50 rfl ?_
          refine w_iload_n (i := 1) hX dX10_isWrongCell_53 rfl rfl rfl ?_
          refine w_iald hX rfl (by omega) (by omega) dX10_isWrongCell_54 rfl ?_
          refine w_iald hX rfl (by omega) (by omega) dX10_isWrongCell_55 rfl ?_
          refine w_goto (tgt := 65) hX dX10_isWrongCell_56 (by decide) ?_
          refine w_nameI (fun zq_fr zq_hfr => ?_)
          refine w_istore hX dX10_isWrongCell_65 rfl (by decide) ?_
          dsimp only [st1X, st2X, klX_I, klX_L, klX_R, klX_S, klX_N]
          refine w_aload_n (i := 0) hX dX10_isWrongCell_67 rfl rfl rfl ?_
          refine w_iload_n (i := 1) hX dX10_isWrongCell_68 rfl rfl rfl ?_
          refine c_V hX ml_RX10_117 cl9 dX10_isWrongCell_69 rfl (r_firstCell D i hi) rfl rfl rfl (by decide) (Nat.le_of_ble_eq_true rfl) ?_
          rintro _ _ ⟨rfl, rfl⟩ -
          refine w_nameL (fun zq_f zq_hf => ?_)
          have zq_of : -4000000000 ≤ zq_f ∧ zq_f ≤ 4000000000 := by
            have zq_3 := hok.int (k := 285) (by decide) (by decide) i.toNat
            have zq_4 := hok.int (k := 284) (by decide) (by decide) i.toNat
            rw [zq_hf]
            unfold fcM
            split <;> omega
          all_goals try dsimp only [Option.toList, List.cons_append, List.nil_append]
          refine w_lconst0 hX dX10_isWrongCell_72 rfl ?_
          refine w_lcmp hX dX10_isWrongCell_73 rfl ?_
          refine w_if_lt (tgt := 96) hX dX10_isWrongCell_74 rfl (by decide) (fun h74 => ?_) (fun h74 => ?_)
          · rw [lc_lt] at h74
            refine w_iconst hX dX10_isWrongCell_96 rfl (by decide) ?_
            refine w_goto (tgt := 101) hX dX10_isWrongCell_97 (by decide) ?_
            exact e_z hX hF dX10_isWrongCell_101 (by decide) (by first | (exfalso; omega) | exact ⟨by first | rw [b2_t (by unfold coM; rw [← zq_hc, ← zq_hf]; first | (rw [if_pos (by omega), ← zq_hfr]; omega) | (rw [if_neg (by omega), ← zq_hfr]; omega))] | rw [b2_f (by unfold coM; rw [← zq_hc, ← zq_hf]; first | (rw [if_pos (by omega), ← zq_hfr]; omega) | (rw [if_neg (by omega), ← zq_hfr]; omega))], rfl⟩)
          · rw [lc_lt] at h74
            refine w_aload_n (i := 0) hX dX10_isWrongCell_77 rfl rfl rfl ?_
            refine w_iload_n (i := 1) hX dX10_isWrongCell_78 rfl rfl rfl ?_
            refine c_V hX ml_RX10_117 cl9 dX10_isWrongCell_79 rfl (r_firstCell D i hi) rfl rfl rfl (by decide) (Nat.le_of_ble_eq_true rfl) ?_
            rintro _ _ ⟨rfl, rfl⟩ -
            rw [← zq_hf]
            all_goals try dsimp only [Option.toList, List.cons_append, List.nil_append]
            refine w_aload_n (i := 0) hX dX10_isWrongCell_82 rfl rfl rfl ?_
            refine w_iload_n (i := 1) hX dX10_isWrongCell_83 rfl rfl rfl ?_
            refine c_V hX ml_RX10_114 cl9 dX10_isWrongCell_84 rfl (r_cellsOf D i hi (fun zq_h => ha (Or.inr (Or.inr zq_h)))) rfl rfl rfl (by decide) (Nat.le_of_ble_eq_true rfl) ?_
            rintro _ _ ⟨rfl, rfl⟩ -
            rw [← zq_hc]
            all_goals try dsimp only [Option.toList, List.cons_append, List.nil_append]
            refine w_i2l hX dX10_isWrongCell_87 rfl ?_
            refine w_ladd hX dX10_isWrongCell_88 rfl (by omega) ?_
            refine w_iload hX dX10_isWrongCell_89 rfl rfl ?_
            refine w_i2l hX dX10_isWrongCell_91 rfl ?_
            refine w_lcmp hX dX10_isWrongCell_92 rfl ?_
            refine w_if_le (tgt := 100) hX dX10_isWrongCell_93 rfl (by decide) (fun h93 => ?_) (fun h93 => ?_)
            · rw [lc_le] at h93
              refine w_iconst hX dX10_isWrongCell_100 rfl (by decide) ?_
              exact e_z hX hF dX10_isWrongCell_101 (by decide) (by first | (exfalso; omega) | exact ⟨by first | rw [b2_t (by unfold coM; rw [← zq_hc, ← zq_hf]; first | (rw [if_pos (by omega), ← zq_hfr]; omega) | (rw [if_neg (by omega), ← zq_hfr]; omega))] | rw [b2_f (by unfold coM; rw [← zq_hc, ← zq_hf]; first | (rw [if_pos (by omega), ← zq_hfr]; omega) | (rw [if_neg (by omega), ← zq_hfr]; omega))], rfl⟩)
            · rw [lc_le] at h93
              refine w_iconst hX dX10_isWrongCell_96 rfl (by decide) ?_
              refine w_goto (tgt := 101) hX dX10_isWrongCell_97 (by decide) ?_
              exact e_z hX hF dX10_isWrongCell_101 (by decide) (by first | (exfalso; omega) | exact ⟨by first | rw [b2_t (by unfold coM; rw [← zq_hc, ← zq_hf]; first | (rw [if_pos (by omega), ← zq_hfr]; omega) | (rw [if_neg (by omega), ← zq_hfr]; omega))] | rw [b2_f (by unfold coM; rw [← zq_hc, ← zq_hf]; first | (rw [if_pos (by omega), ← zq_hfr]; omega) | (rw [if_neg (by omega), ← zq_hfr]; omega))], rfl⟩)
        · refine w_iload_n (i := 3) hX dX10_isWrongCell_39 rfl rfl rfl ?_
          refine w_bipush hX dX10_isWrongCell_40 rfl (by decide) ?_
          refine w_icmp_ne (tgt := 59) hX dX10_isWrongCell_42 rfl (by decide) (fun h42 => ?_) (fun h42 => ?_)
          · refine w_aload_n (i := 0) hX dX10_isWrongCell_59 rfl rfl rfl ?_
            refine w_getR (j := 2) hX cl9 fl_RX10_7_9 rfl (by decide) rfl rfl dX10_isWrongCell_60 rfl ?_
            refine w_iload_n (i := 2) hX dX10_isWrongCell_63 rfl rfl rfl ?_
            refine w_iald hX rfl (by omega) (by omega) dX10_isWrongCell_64 rfl ?_
            refine w_nameI (fun zq_fr zq_hfr => ?_)
            refine w_istore hX dX10_isWrongCell_65 rfl (by decide) ?_
            dsimp only [st1X, st2X, klX_I, klX_L, klX_R, klX_S, klX_N]
            refine w_aload_n (i := 0) hX dX10_isWrongCell_67 rfl rfl rfl ?_
            refine w_iload_n (i := 1) hX dX10_isWrongCell_68 rfl rfl rfl ?_
            refine c_V hX ml_RX10_117 cl9 dX10_isWrongCell_69 rfl (r_firstCell D i hi) rfl rfl rfl (by decide) (Nat.le_of_ble_eq_true rfl) ?_
            rintro _ _ ⟨rfl, rfl⟩ -
            refine w_nameL (fun zq_f zq_hf => ?_)
            have zq_of : -4000000000 ≤ zq_f ∧ zq_f ≤ 4000000000 := by
              have zq_3 := hok.int (k := 285) (by decide) (by decide) i.toNat
              have zq_4 := hok.int (k := 284) (by decide) (by decide) i.toNat
              rw [zq_hf]
              unfold fcM
              split <;> omega
            all_goals try dsimp only [Option.toList, List.cons_append, List.nil_append]
            refine w_lconst0 hX dX10_isWrongCell_72 rfl ?_
            refine w_lcmp hX dX10_isWrongCell_73 rfl ?_
            refine w_if_lt (tgt := 96) hX dX10_isWrongCell_74 rfl (by decide) (fun h74 => ?_) (fun h74 => ?_)
            · rw [lc_lt] at h74
              refine w_iconst hX dX10_isWrongCell_96 rfl (by decide) ?_
              refine w_goto (tgt := 101) hX dX10_isWrongCell_97 (by decide) ?_
              exact e_z hX hF dX10_isWrongCell_101 (by decide) (by first | (exfalso; omega) | exact ⟨by first | rw [b2_t (by unfold coM; rw [← zq_hc, ← zq_hf]; first | (rw [if_pos (by omega), ← zq_hfr]; omega) | (rw [if_neg (by omega), ← zq_hfr]; omega))] | rw [b2_f (by unfold coM; rw [← zq_hc, ← zq_hf]; first | (rw [if_pos (by omega), ← zq_hfr]; omega) | (rw [if_neg (by omega), ← zq_hfr]; omega))], rfl⟩)
            · rw [lc_lt] at h74
              refine w_aload_n (i := 0) hX dX10_isWrongCell_77 rfl rfl rfl ?_
              refine w_iload_n (i := 1) hX dX10_isWrongCell_78 rfl rfl rfl ?_
              refine c_V hX ml_RX10_117 cl9 dX10_isWrongCell_79 rfl (r_firstCell D i hi) rfl rfl rfl (by decide) (Nat.le_of_ble_eq_true rfl) ?_
              rintro _ _ ⟨rfl, rfl⟩ -
              rw [← zq_hf]
              all_goals try dsimp only [Option.toList, List.cons_append, List.nil_append]
              refine w_aload_n (i := 0) hX dX10_isWrongCell_82 rfl rfl rfl ?_
              refine w_iload_n (i := 1) hX dX10_isWrongCell_83 rfl rfl rfl ?_
              refine c_V hX ml_RX10_114 cl9 dX10_isWrongCell_84 rfl (r_cellsOf D i hi (fun zq_h => ha (Or.inr (Or.inr zq_h)))) rfl rfl rfl (by decide) (Nat.le_of_ble_eq_true rfl) ?_
              rintro _ _ ⟨rfl, rfl⟩ -
              rw [← zq_hc]
              all_goals try dsimp only [Option.toList, List.cons_append, List.nil_append]
              refine w_i2l hX dX10_isWrongCell_87 rfl ?_
              refine w_ladd hX dX10_isWrongCell_88 rfl (by omega) ?_
              refine w_iload hX dX10_isWrongCell_89 rfl rfl ?_
              refine w_i2l hX dX10_isWrongCell_91 rfl ?_
              refine w_lcmp hX dX10_isWrongCell_92 rfl ?_
              refine w_if_le (tgt := 100) hX dX10_isWrongCell_93 rfl (by decide) (fun h93 => ?_) (fun h93 => ?_)
              · rw [lc_le] at h93
                refine w_iconst hX dX10_isWrongCell_100 rfl (by decide) ?_
                exact e_z hX hF dX10_isWrongCell_101 (by decide) (by first | (exfalso; omega) | exact ⟨by first | rw [b2_t (by unfold coM; rw [← zq_hc, ← zq_hf]; first | (rw [if_pos (by omega), ← zq_hfr]; omega) | (rw [if_neg (by omega), ← zq_hfr]; omega))] | rw [b2_f (by unfold coM; rw [← zq_hc, ← zq_hf]; first | (rw [if_pos (by omega), ← zq_hfr]; omega) | (rw [if_neg (by omega), ← zq_hfr]; omega))], rfl⟩)
              · rw [lc_le] at h93
                refine w_iconst hX dX10_isWrongCell_96 rfl (by decide) ?_
                refine w_goto (tgt := 101) hX dX10_isWrongCell_97 (by decide) ?_
                exact e_z hX hF dX10_isWrongCell_101 (by decide) (by first | (exfalso; omega) | exact ⟨by first | rw [b2_t (by unfold coM; rw [← zq_hc, ← zq_hf]; first | (rw [if_pos (by omega), ← zq_hfr]; omega) | (rw [if_neg (by omega), ← zq_hfr]; omega))] | rw [b2_f (by unfold coM; rw [← zq_hc, ← zq_hf]; first | (rw [if_pos (by omega), ← zq_hfr]; omega) | (rw [if_neg (by omega), ← zq_hfr]; omega))], rfl⟩)
          · refine w_aload_n (i := 0) hX dX10_isWrongCell_45 rfl rfl rfl ?_
            refine w_getR (j := 2) hX cl9 fl_RX10_7_9 rfl (by decide) rfl rfl dX10_isWrongCell_46 rfl ?_
            refine w_aload_n (i := 0) hX dX10_isWrongCell_49 rfl rfl rfl ?_
            refine w_getR (j := 7) hX cl9 fl_RX10_22_9 rfl (by decide) rfl rfl dX10_isWrongCell_50 rfl ?_
            refine w_iload_n (i := 1) hX dX10_isWrongCell_53 rfl rfl rfl ?_
            refine w_iald hX rfl (by omega) (by omega) dX10_isWrongCell_54 rfl ?_
            refine w_iald hX rfl (by omega) (by omega) dX10_isWrongCell_55 rfl ?_
            refine w_goto (tgt := 65) hX dX10_isWrongCell_56 (by decide) ?_
            refine w_nameI (fun zq_fr zq_hfr => ?_)
            refine w_istore hX dX10_isWrongCell_65 rfl (by decide) ?_
            dsimp only [st1X, st2X, klX_I, klX_L, klX_R, klX_S, klX_N]
            refine w_aload_n (i := 0) hX dX10_isWrongCell_67 rfl rfl rfl ?_
            refine w_iload_n (i := 1) hX dX10_isWrongCell_68 rfl rfl rfl ?_
            refine c_V hX ml_RX10_117 cl9 dX10_isWrongCell_69 rfl (r_firstCell D i hi) rfl rfl rfl (by decide) (Nat.le_of_ble_eq_true rfl) ?_
            rintro _ _ ⟨rfl, rfl⟩ -
            refine w_nameL (fun zq_f zq_hf => ?_)
            have zq_of : -4000000000 ≤ zq_f ∧ zq_f ≤ 4000000000 := by
              have zq_3 := hok.int (k := 285) (by decide) (by decide) i.toNat
              have zq_4 := hok.int (k := 284) (by decide) (by decide) i.toNat
              rw [zq_hf]
              unfold fcM
              split <;> omega
            all_goals try dsimp only [Option.toList, List.cons_append, List.nil_append]
            refine w_lconst0 hX dX10_isWrongCell_72 rfl ?_
            refine w_lcmp hX dX10_isWrongCell_73 rfl ?_
            refine w_if_lt (tgt := 96) hX dX10_isWrongCell_74 rfl (by decide) (fun h74 => ?_) (fun h74 => ?_)
            · rw [lc_lt] at h74
              refine w_iconst hX dX10_isWrongCell_96 rfl (by decide) ?_
              refine w_goto (tgt := 101) hX dX10_isWrongCell_97 (by decide) ?_
              exact e_z hX hF dX10_isWrongCell_101 (by decide) (by first | (exfalso; omega) | exact ⟨by first | rw [b2_t (by unfold coM; rw [← zq_hc, ← zq_hf]; first | (rw [if_pos (by omega), ← zq_hfr]; omega) | (rw [if_neg (by omega), ← zq_hfr]; omega))] | rw [b2_f (by unfold coM; rw [← zq_hc, ← zq_hf]; first | (rw [if_pos (by omega), ← zq_hfr]; omega) | (rw [if_neg (by omega), ← zq_hfr]; omega))], rfl⟩)
            · rw [lc_lt] at h74
              refine w_aload_n (i := 0) hX dX10_isWrongCell_77 rfl rfl rfl ?_
              refine w_iload_n (i := 1) hX dX10_isWrongCell_78 rfl rfl rfl ?_
              refine c_V hX ml_RX10_117 cl9 dX10_isWrongCell_79 rfl (r_firstCell D i hi) rfl rfl rfl (by decide) (Nat.le_of_ble_eq_true rfl) ?_
              rintro _ _ ⟨rfl, rfl⟩ -
              rw [← zq_hf]
              all_goals try dsimp only [Option.toList, List.cons_append, List.nil_append]
              refine w_aload_n (i := 0) hX dX10_isWrongCell_82 rfl rfl rfl ?_
              refine w_iload_n (i := 1) hX dX10_isWrongCell_83 rfl rfl rfl ?_
              refine c_V hX ml_RX10_114 cl9 dX10_isWrongCell_84 rfl (r_cellsOf D i hi (fun zq_h => ha (Or.inr (Or.inr zq_h)))) rfl rfl rfl (by decide) (Nat.le_of_ble_eq_true rfl) ?_
              rintro _ _ ⟨rfl, rfl⟩ -
              rw [← zq_hc]
              all_goals try dsimp only [Option.toList, List.cons_append, List.nil_append]
              refine w_i2l hX dX10_isWrongCell_87 rfl ?_
              refine w_ladd hX dX10_isWrongCell_88 rfl (by omega) ?_
              refine w_iload hX dX10_isWrongCell_89 rfl rfl ?_
              refine w_i2l hX dX10_isWrongCell_91 rfl ?_
              refine w_lcmp hX dX10_isWrongCell_92 rfl ?_
              refine w_if_le (tgt := 100) hX dX10_isWrongCell_93 rfl (by decide) (fun h93 => ?_) (fun h93 => ?_)
              · rw [lc_le] at h93
                refine w_iconst hX dX10_isWrongCell_100 rfl (by decide) ?_
                exact e_z hX hF dX10_isWrongCell_101 (by decide) (by first | (exfalso; omega) | exact ⟨by first | rw [b2_t (by unfold coM; rw [← zq_hc, ← zq_hf]; first | (rw [if_pos (by omega), ← zq_hfr]; omega) | (rw [if_neg (by omega), ← zq_hfr]; omega))] | rw [b2_f (by unfold coM; rw [← zq_hc, ← zq_hf]; first | (rw [if_pos (by omega), ← zq_hfr]; omega) | (rw [if_neg (by omega), ← zq_hfr]; omega))], rfl⟩)
              · rw [lc_le] at h93
                refine w_iconst hX dX10_isWrongCell_96 rfl (by decide) ?_
                refine w_goto (tgt := 101) hX dX10_isWrongCell_97 (by decide) ?_
                exact e_z hX hF dX10_isWrongCell_101 (by decide) (by first | (exfalso; omega) | exact ⟨by first | rw [b2_t (by unfold coM; rw [← zq_hc, ← zq_hf]; first | (rw [if_pos (by omega), ← zq_hfr]; omega) | (rw [if_neg (by omega), ← zq_hfr]; omega))] | rw [b2_f (by unfold coM; rw [← zq_hc, ← zq_hf]; first | (rw [if_pos (by omega), ← zq_hfr]; omega) | (rw [if_neg (by omega), ← zq_hfr]; omega))], rfl⟩)
      · refine w_iconst hX dX10_isWrongCell_32 rfl (by decide) ?_
        exact e_z hX hF dX10_isWrongCell_33 (by decide) ⟨by rw [b2_f (by unfold coM; rw [← zq_hc]; omega)], rfl⟩
    · refine w_iconst hX dX10_isWrongCell_22 rfl (by decide) ?_
      exact e_z hX hF dX10_isWrongCell_23 (by decide) ⟨by rw [b2_t (Or.inl (by omega))], rfl⟩

/-- the cell c is a counter of the unit u -/
abbrev icQ (D : Dd) (c k : Int) : Prop := (D 283 k.toNat = 12 ∨ D 283 k.toNat = 13) ∧ D 284 k.toNat = c
def icM (D : Dd) (u c : Int) : Prop := ∃ k : Int, D 282 u.toNat ≤ k ∧ k < D 282 (u + 1).toNat ∧ icQ D c k

set_option maxRecDepth 100000 in
set_option maxHeartbeats 4000000 in
theorem l_isCounter {X : Cx} {Q : State → Prop} {P : Option AV → Dd → Prop} (hX : GX X yX10_isCounter cX10_isCounter 6 (some .boolean) 1 0 0) (hF : FX X Q P) (D : Dd) (hI : InM D) (u c : Int) (hu : 0 ≤ u ∧ u < D 279 1) (w0 : Prop) (hyes : ∀ w : Int, (w = 0 ∨ w = 1) → (w = 1 ↔ (w0 ∨ ∃ x : Int, D 282 u.toNat ≤ x ∧ x < D 282 (u + 1).toNat ∧ icQ D c x)) → P (some (vI w)) D) : ∀ (m : Nat) (j w : Int) , (D 282 (u + 1).toNat - j).toNat < m → D 282 u.toNat ≤ j → j ≤ D 282 (u + 1).toNat → (w = 0 ∨ w = 1) → (w = 1 ↔ (w0 ∨ ∃ x : Int, D 282 u.toNat ≤ x ∧ x < j ∧ icQ D c x)) → W0 X Q 11 [vR 279, vI u, vL c, vN, vI w, vI j] [] D := by
  intro m
  induction m with
  | zero =>
    intro j w  hm h0 h1 hw hr
    exact absurd hm (Nat.not_lt_zero _)
  | succ m ih =>
    intro j w  hm h0 h1 hw hr
    have zq_u := hI.u hu.1 hu.2
    have zq_5 := hI.2.1
    have zq_1 := hI.1
    refine w_iload hX dX10_isCounter_11 rfl rfl ?_
    refine w_aload_n (i := 0) hX dX10_isCounter_13 rfl rfl rfl ?_
    refine w_getR (j := 4) hX cl9 fl_RX10_16_9 rfl (by decide) rfl rfl dX10_isCounter_14 rfl ?_
    refine w_iload_n (i := 1) hX dX10_isCounter_17 rfl rfl rfl ?_
    refine w_iconst hX dX10_isCounter_18 rfl (by decide) ?_
    refine w_iadd hX dX10_isCounter_19 rfl (by omega) ?_
    refine w_iald hX rfl (by omega) (by omega) dX10_isCounter_20 rfl ?_
    refine w_icmp_ge (tgt := 79) hX dX10_isCounter_21 rfl (by decide) (fun h21 => ?_) (fun h21 => ?_)
    · refine w_iload hX dX10_isCounter_79 rfl rfl ?_
      exact e_z hX hF dX10_isCounter_81 hw (hyes w hw (by rw [show j = D 282 (u + 1).toNat by omega] at hr; exact hr))
    · refine w_iload hX dX10_isCounter_24 rfl rfl ?_
      refine w_if_ne (tgt := 66) hX dX10_isCounter_26 rfl (by decide) (fun h26 => ?_) (fun h26 => ?_)
      · refine w_iconst hX dX10_isCounter_66 rfl (by decide) ?_
        refine w_goto (tgt := 71) hX dX10_isCounter_67 (by decide) ?_
        refine w_istore hX dX10_isCounter_71 rfl (by decide) ?_
        dsimp only [st1X, st2X, klX_I, klX_L, klX_R, klX_S, klX_N]
        refine w_iinc hX dX10_isCounter_73 rfl rfl (by decide) (by omega) ?_
        dsimp only [st1X, st2X, klX_I, klX_L, klX_R, klX_S, klX_N]
        refine w_goto (tgt := 11) hX dX10_isCounter_76 (by decide) ?_
        refine ih (j + 1) _  (by omega) (by omega) (by omega) (by omega) ?_
        constructor
        · intro zq_q
          first
            | exact absurd zq_q (by decide)
            | exact Or.inr ⟨j, h0, by omega, by unfold icQ; omega⟩
            | (rcases hr.mp (by omega) with zq_x | ⟨x, zq_a, zq_b, zq_c⟩
               · exact Or.inl zq_x
               · exact Or.inr ⟨x, zq_a, by omega, zq_c⟩)
        · intro zq_q
          first
            | rfl
            | (rcases zq_q with zq_q | ⟨x, zq_a, zq_b, zq_c⟩
               · exact absurd (hr.mpr (Or.inl zq_q)) (by omega)
               · by_cases zq_e : x = j
                 · subst zq_e; exfalso; unfold icQ at zq_c; omega
                 · exact absurd (hr.mpr (Or.inr ⟨x, zq_a, by omega, zq_c⟩)) (by omega))
      · refine w_aload_n (i := 0) hX dX10_isCounter_29 rfl rfl rfl ?_
        refine w_getR (j := 6) hX cl9 fl_RX10_19_9 rfl (by decide) rfl rfl dX10_isCounter_30 rfl ?_
        refine w_iload hX dX10_isCounter_33 rfl rfl ?_
        refine w_iald hX rfl (by omega) (by omega) dX10_isCounter_35 rfl ?_
        refine w_bipush hX dX10_isCounter_36 rfl (by decide) ?_
        refine w_icmp_eq (tgt := 53) hX dX10_isCounter_38 rfl (by decide) (fun h38 => ?_) (fun h38 => ?_)
        · refine w_aload_n (i := 0) hX dX10_isCounter_53 rfl rfl rfl ?_
          refine w_getR (j := 7) hX cl9 fl_RX10_22_9 rfl (by decide) rfl rfl dX10_isCounter_54 rfl ?_
          refine w_iload hX dX10_isCounter_57 rfl rfl ?_
          refine w_iald hX rfl (by omega) (by omega) dX10_isCounter_59 rfl ?_
          refine w_i2l hX dX10_isCounter_60 rfl ?_
          refine w_lload_n (i := 2) hX dX10_isCounter_61 rfl rfl rfl ?_
          refine w_lcmp hX dX10_isCounter_62 rfl ?_
          refine w_if_ne (tgt := 70) hX dX10_isCounter_63 rfl (by decide) (fun h63 => ?_) (fun h63 => ?_)
          · rw [lc_ne] at h63
            refine w_iconst hX dX10_isCounter_70 rfl (by decide) ?_
            refine w_istore hX dX10_isCounter_71 rfl (by decide) ?_
            dsimp only [st1X, st2X, klX_I, klX_L, klX_R, klX_S, klX_N]
            refine w_iinc hX dX10_isCounter_73 rfl rfl (by decide) (by omega) ?_
            dsimp only [st1X, st2X, klX_I, klX_L, klX_R, klX_S, klX_N]
            refine w_goto (tgt := 11) hX dX10_isCounter_76 (by decide) ?_
            refine ih (j + 1) _  (by omega) (by omega) (by omega) (by omega) ?_
            constructor
            · intro zq_q
              first
                | exact absurd zq_q (by decide)
                | exact Or.inr ⟨j, h0, by omega, by unfold icQ; omega⟩
                | (rcases hr.mp (by omega) with zq_x | ⟨x, zq_a, zq_b, zq_c⟩
                   · exact Or.inl zq_x
                   · exact Or.inr ⟨x, zq_a, by omega, zq_c⟩)
            · intro zq_q
              first
                | rfl
                | (rcases zq_q with zq_q | ⟨x, zq_a, zq_b, zq_c⟩
                   · exact absurd (hr.mpr (Or.inl zq_q)) (by omega)
                   · by_cases zq_e : x = j
                     · subst zq_e; exfalso; unfold icQ at zq_c; omega
                     · exact absurd (hr.mpr (Or.inr ⟨x, zq_a, by omega, zq_c⟩)) (by omega))
          · rw [lc_ne] at h63
            refine w_iconst hX dX10_isCounter_66 rfl (by decide) ?_
            refine w_goto (tgt := 71) hX dX10_isCounter_67 (by decide) ?_
            refine w_istore hX dX10_isCounter_71 rfl (by decide) ?_
            dsimp only [st1X, st2X, klX_I, klX_L, klX_R, klX_S, klX_N]
            refine w_iinc hX dX10_isCounter_73 rfl rfl (by decide) (by omega) ?_
            dsimp only [st1X, st2X, klX_I, klX_L, klX_R, klX_S, klX_N]
            refine w_goto (tgt := 11) hX dX10_isCounter_76 (by decide) ?_
            refine ih (j + 1) _  (by omega) (by omega) (by omega) (by omega) ?_
            constructor
            · intro zq_q
              first
                | exact absurd zq_q (by decide)
                | exact Or.inr ⟨j, h0, by omega, by unfold icQ; omega⟩
                | (rcases hr.mp (by omega) with zq_x | ⟨x, zq_a, zq_b, zq_c⟩
                   · exact Or.inl zq_x
                   · exact Or.inr ⟨x, zq_a, by omega, zq_c⟩)
            · intro zq_q
              first
                | rfl
                | (rcases zq_q with zq_q | ⟨x, zq_a, zq_b, zq_c⟩
                   · exact absurd (hr.mpr (Or.inl zq_q)) (by omega)
                   · by_cases zq_e : x = j
                     · subst zq_e; exfalso; unfold icQ at zq_c; omega
                     · exact absurd (hr.mpr (Or.inr ⟨x, zq_a, by omega, zq_c⟩)) (by omega))
        · refine w_aload_n (i := 0) hX dX10_isCounter_41 rfl rfl rfl ?_
          refine w_getR (j := 6) hX cl9 fl_RX10_19_9 rfl (by decide) rfl rfl dX10_isCounter_42 rfl ?_
          refine w_iload hX dX10_isCounter_45 rfl rfl ?_
          refine w_iald hX rfl (by omega) (by omega) dX10_isCounter_47 rfl ?_
          refine w_bipush hX dX10_isCounter_48 rfl (by decide) ?_
          refine w_icmp_ne (tgt := 70) hX dX10_isCounter_50 rfl (by decide) (fun h50 => ?_) (fun h50 => ?_)
          · refine w_iconst hX dX10_isCounter_70 rfl (by decide) ?_
            refine w_istore hX dX10_isCounter_71 rfl (by decide) ?_
            dsimp only [st1X, st2X, klX_I, klX_L, klX_R, klX_S, klX_N]
            refine w_iinc hX dX10_isCounter_73 rfl rfl (by decide) (by omega) ?_
            dsimp only [st1X, st2X, klX_I, klX_L, klX_R, klX_S, klX_N]
            refine w_goto (tgt := 11) hX dX10_isCounter_76 (by decide) ?_
            refine ih (j + 1) _  (by omega) (by omega) (by omega) (by omega) ?_
            constructor
            · intro zq_q
              first
                | exact absurd zq_q (by decide)
                | exact Or.inr ⟨j, h0, by omega, by unfold icQ; omega⟩
                | (rcases hr.mp (by omega) with zq_x | ⟨x, zq_a, zq_b, zq_c⟩
                   · exact Or.inl zq_x
                   · exact Or.inr ⟨x, zq_a, by omega, zq_c⟩)
            · intro zq_q
              first
                | rfl
                | (rcases zq_q with zq_q | ⟨x, zq_a, zq_b, zq_c⟩
                   · exact absurd (hr.mpr (Or.inl zq_q)) (by omega)
                   · by_cases zq_e : x = j
                     · subst zq_e; exfalso; unfold icQ at zq_c; omega
                     · exact absurd (hr.mpr (Or.inr ⟨x, zq_a, by omega, zq_c⟩)) (by omega))
          · refine w_aload_n (i := 0) hX dX10_isCounter_53 rfl rfl rfl ?_
            refine w_getR (j := 7) hX cl9 fl_RX10_22_9 rfl (by decide) rfl rfl dX10_isCounter_54 rfl ?_
            refine w_iload hX dX10_isCounter_57 rfl rfl ?_
            refine w_iald hX rfl (by omega) (by omega) dX10_isCounter_59 rfl ?_
            refine w_i2l hX dX10_isCounter_60 rfl ?_
            refine w_lload_n (i := 2) hX dX10_isCounter_61 rfl rfl rfl ?_
            refine w_lcmp hX dX10_isCounter_62 rfl ?_
            refine w_if_ne (tgt := 70) hX dX10_isCounter_63 rfl (by decide) (fun h63 => ?_) (fun h63 => ?_)
            · rw [lc_ne] at h63
              refine w_iconst hX dX10_isCounter_70 rfl (by decide) ?_
              refine w_istore hX dX10_isCounter_71 rfl (by decide) ?_
              dsimp only [st1X, st2X, klX_I, klX_L, klX_R, klX_S, klX_N]
              refine w_iinc hX dX10_isCounter_73 rfl rfl (by decide) (by omega) ?_
              dsimp only [st1X, st2X, klX_I, klX_L, klX_R, klX_S, klX_N]
              refine w_goto (tgt := 11) hX dX10_isCounter_76 (by decide) ?_
              refine ih (j + 1) _  (by omega) (by omega) (by omega) (by omega) ?_
              constructor
              · intro zq_q
                first
                  | exact absurd zq_q (by decide)
                  | exact Or.inr ⟨j, h0, by omega, by unfold icQ; omega⟩
                  | (rcases hr.mp (by omega) with zq_x | ⟨x, zq_a, zq_b, zq_c⟩
                     · exact Or.inl zq_x
                     · exact Or.inr ⟨x, zq_a, by omega, zq_c⟩)
              · intro zq_q
                first
                  | rfl
                  | (rcases zq_q with zq_q | ⟨x, zq_a, zq_b, zq_c⟩
                     · exact absurd (hr.mpr (Or.inl zq_q)) (by omega)
                     · by_cases zq_e : x = j
                       · subst zq_e; exfalso; unfold icQ at zq_c; omega
                       · exact absurd (hr.mpr (Or.inr ⟨x, zq_a, by omega, zq_c⟩)) (by omega))
            · rw [lc_ne] at h63
              refine w_iconst hX dX10_isCounter_66 rfl (by decide) ?_
              refine w_goto (tgt := 71) hX dX10_isCounter_67 (by decide) ?_
              refine w_istore hX dX10_isCounter_71 rfl (by decide) ?_
              dsimp only [st1X, st2X, klX_I, klX_L, klX_R, klX_S, klX_N]
              refine w_iinc hX dX10_isCounter_73 rfl rfl (by decide) (by omega) ?_
              dsimp only [st1X, st2X, klX_I, klX_L, klX_R, klX_S, klX_N]
              refine w_goto (tgt := 11) hX dX10_isCounter_76 (by decide) ?_
              refine ih (j + 1) _  (by omega) (by omega) (by omega) (by omega) ?_
              constructor
              · intro zq_q
                first
                  | exact absurd zq_q (by decide)
                  | exact Or.inr ⟨j, h0, by omega, by unfold icQ; omega⟩
                  | (rcases hr.mp (by omega) with zq_x | ⟨x, zq_a, zq_b, zq_c⟩
                     · exact Or.inl zq_x
                     · exact Or.inr ⟨x, zq_a, by omega, zq_c⟩)
              · intro zq_q
                first
                  | rfl
                  | (rcases zq_q with zq_q | ⟨x, zq_a, zq_b, zq_c⟩
                     · exact absurd (hr.mpr (Or.inl zq_q)) (by omega)
                     · by_cases zq_e : x = j
                       · subst zq_e; exfalso; unfold icQ at zq_c; omega
                       · exact absurd (hr.mpr (Or.inr ⟨x, zq_a, by omega, zq_c⟩)) (by omega))

set_option maxRecDepth 100000 in
set_option maxHeartbeats 4000000 in
theorem r_isCounter (D : Dd) (hI : InM D) (u c : Int) (hu : 0 ≤ u ∧ u < D 279 1) : MC 1 yX10_isCounter cX10_isCounter 6 (some .boolean) [vR 279, vI u, vL c] D (Is (some (vI (b2 (icM D u c)))) D) := by
  refine MC.mk [vR 279, vI u, vL c, vN, vN, vN] (by decide) (Nat.le_of_ble_eq_true rfl) rfl (fun X Q hX hF hok hol => ?_)
  have zq_u := hI.u hu.1 hu.2
  have zq_5 := hI.2.1
  have zq_1 := hI.1
  refine w_iconst hX dX10_isCounter_0 rfl (by decide) ?_
  refine w_istore hX dX10_isCounter_1 rfl (by decide) ?_
  dsimp only [st1X, st2X, klX_I, klX_L, klX_R, klX_S, klX_N]
  refine w_aload_n (i := 0) hX dX10_isCounter_3 rfl rfl rfl ?_
  refine w_getR (j := 4) hX cl9 fl_RX10_16_9 rfl (by decide) rfl rfl dX10_isCounter_4 rfl ?_
  refine w_iload_n (i := 1) hX dX10_isCounter_7 rfl rfl rfl ?_
  refine w_iald hX rfl (by omega) (by omega) dX10_isCounter_8 rfl ?_
  refine w_istore hX dX10_isCounter_9 rfl (by decide) ?_
  dsimp only [st1X, st2X, klX_I, klX_L, klX_R, klX_S, klX_N]
  refine l_isCounter hX hF D hI u c hu False (fun w zq_w zq_r => ⟨?_, rfl⟩) _ (D 282 u.toNat) 0 (Nat.lt_succ_self _) (by omega) (by omega) (by omega) ⟨fun zq_q => by omega, fun zq_q => ?_⟩
  · rcases zq_w with zq_w | zq_w
    · subst zq_w; rw [b2_f (p := icM D u c) (fun zq_q => absurd (zq_r.mpr (Or.inr zq_q)) (by decide))]
    · subst zq_w; rw [b2_t (p := icM D u c) ((zq_r.mp rfl).resolve_left id)]
  · rcases zq_q with zq_q | ⟨x, zq_a, zq_b, _⟩
    · exact zq_q.elim
    · omega

def exT (D : Dd) (ow cn f : Int) : Prop := ∃ x : Int, 0 ≤ x ∧ x < cn ∧ icM D ow (f + x)
/-- fault 5 -/
def ctM (D : Dd) (u n a b c : Int) : Prop := ¬ (n = 12 ∨ n = 13) ∧ exT D (if n = 5 ∨ n = 6 then a else u) (cnM D n a c) (fcM n a b)

set_option maxRecDepth 100000 in
set_option maxHeartbeats 4000000 in
theorem l_touches {X : Cx} {Q : State → Prop} {P : Option AV → Dd → Prop} (hX : GX X yX10_touchesCounter cX10_touchesCounter 7 (some .boolean) 2 0 0) (hF : FX X Q P) (D : Dd) (i : Int) (hi : 0 ≤ i ∧ i < 256) (ha : D 283 i.toNat = 5 ∨ D 283 i.toNat = 6 ∨ D 283 i.toNat = 15 → 0 ≤ D 284 i.toNat ∧ D 284 i.toNat < 16) (hI : InM D) (u ow n : Int) (how : 0 ≤ ow ∧ ow < D 279 1) (hfi : -4000000000 ≤ fcM (D 283 i.toNat) (D 284 i.toNat) (D 285 i.toNat) ∧ fcM (D 283 i.toNat) (D 284 i.toNat) (D 285 i.toNat) ≤ 4000000000) (hcI : inI (cnM D (D 283 i.toNat) (D 284 i.toNat) (D 286 i.toNat))) (hyes : ∀ w : Int, (w = 0 ∨ w = 1) → (w = 1 ↔ exT D ow (cnM D (D 283 i.toNat) (D 284 i.toNat) (D 286 i.toNat)) (fcM (D 283 i.toNat) (D 284 i.toNat) (D 285 i.toNat))) → P (some (vI w)) D) : ∀ (m : Nat) (j w : Int), (cnM D (D 283 i.toNat) (D 284 i.toNat) (D 286 i.toNat) - j).toNat < m → 0 ≤ j → (w = 0 ∨ w = 1) → (w = 1 → exT D ow (cnM D (D 283 i.toNat) (D 284 i.toNat) (D 286 i.toNat)) (fcM (D 283 i.toNat) (D 284 i.toNat) (D 285 i.toNat))) → (w = 0 → ∀ x : Int, 0 ≤ x → x < j → ¬ icM D ow (fcM (D 283 i.toNat) (D 284 i.toNat) (D 285 i.toNat) + x)) → W0 X Q 50 [vR 279, vI i, vI u, vI n, vI ow, vI w, vI j] [] D := by
  intro m
  induction m with
  | zero =>
    intro j w hm h0 hw hr1 hr0
    exact absurd hm (Nat.not_lt_zero _)
  | succ m ih =>
    intro j w hm h0 hw hr1 hr0
    refine w_iload hX dX10_touchesCounter_50 rfl rfl ?_
    refine w_aload_n (i := 0) hX dX10_touchesCounter_52 rfl rfl rfl ?_
    refine w_iload_n (i := 1) hX dX10_touchesCounter_53 rfl rfl rfl ?_
    refine c_V hX ml_RX10_114 cl9 dX10_touchesCounter_54 rfl (r_cellsOf D i hi (fun zq_h => ha (Or.inr (Or.inr zq_h)))) rfl rfl rfl (by decide) (Nat.le_of_ble_eq_true rfl) ?_
    rintro _ _ ⟨rfl, rfl⟩ -
    all_goals try dsimp only [Option.toList, List.cons_append, List.nil_append]
    refine w_icmp_ge (tgt := 88) hX dX10_touchesCounter_57 rfl (by decide) (fun h57 => ?_) (fun h57 => ?_)
    · refine w_iload hX dX10_touchesCounter_88 rfl rfl ?_
      exact e_z hX hF dX10_touchesCounter_90 hw (hyes w hw ⟨hr1, fun ⟨x, zq_a, zq_b, zq_c⟩ => by
  rcases hw with zq_w | zq_w
  · exact absurd zq_c (hr0 zq_w x zq_a (by omega))
  · exact zq_w⟩)
    · refine w_iload hX dX10_touchesCounter_60 rfl rfl ?_
      refine w_if_ne (tgt := 88) hX dX10_touchesCounter_62 rfl (by decide) (fun h62 => ?_) (fun h62 => ?_)
      · refine w_iload hX dX10_touchesCounter_88 rfl rfl ?_
        exact e_z hX hF dX10_touchesCounter_90 hw (hyes w hw ⟨hr1, fun ⟨x, zq_a, zq_b, zq_c⟩ => by
  rcases hw with zq_w | zq_w
  · exact absurd zq_c (hr0 zq_w x zq_a (by omega))
  · exact zq_w⟩)
      · refine w_aload_n (i := 0) hX dX10_touchesCounter_65 rfl rfl rfl ?_
        refine w_iload hX dX10_touchesCounter_66 rfl rfl ?_
        refine w_aload_n (i := 0) hX dX10_touchesCounter_68 rfl rfl rfl ?_
        refine w_iload_n (i := 1) hX dX10_touchesCounter_69 rfl rfl rfl ?_
        refine c_V hX ml_RX10_117 cl9 dX10_touchesCounter_70 rfl (r_firstCell D i hi) rfl rfl rfl (by decide) (Nat.le_of_ble_eq_true rfl) ?_
        rintro _ _ ⟨rfl, rfl⟩ -
        all_goals try dsimp only [Option.toList, List.cons_append, List.nil_append]
        refine w_iload hX dX10_touchesCounter_73 rfl rfl ?_
        refine w_i2l hX dX10_touchesCounter_75 rfl ?_
        refine w_ladd hX dX10_touchesCounter_76 rfl (by omega) ?_
        refine c_V hX ml_RX10_121 cl9 dX10_touchesCounter_77 rfl (r_isCounter D hI ow _ how) rfl rfl rfl (by decide) (Nat.le_of_ble_eq_true rfl) ?_
        rintro _ _ ⟨rfl, rfl⟩ -
        all_goals try dsimp only [Option.toList, List.cons_append, List.nil_append]
        refine w_istore hX dX10_touchesCounter_80 rfl (by decide) ?_
        dsimp only [st1X, st2X, klX_I, klX_L, klX_R, klX_S, klX_N]
        refine w_iinc hX dX10_touchesCounter_82 rfl rfl (by decide) (by omega) ?_
        dsimp only [st1X, st2X, klX_I, klX_L, klX_R, klX_S, klX_N]
        refine w_goto (tgt := 50) hX dX10_touchesCounter_85 (by decide) ?_
        have zq_z : w = 0 := by omega
        refine ih (j + 1) _ (by omega) (by omega) (b2_01 _) (fun zq_q => ⟨j, h0, by omega, b2_1.mp zq_q⟩) (fun zq_q x zq_a zq_b => ?_)
        by_cases zq_e : x = j
        · subst zq_e; exact b2_0.mp zq_q
        · exact hr0 zq_z x zq_a (by omega)

set_option maxRecDepth 100000 in
set_option maxHeartbeats 4000000 in
theorem r_touchesCounter (D : Dd) (i : Int) (hi : 0 ≤ i ∧ i < 256) (ha : D 283 i.toNat = 5 ∨ D 283 i.toNat = 6 ∨ D 283 i.toNat = 15 → 0 ≤ D 284 i.toNat ∧ D 284 i.toNat < 16) (hI : InM D) (u : Int) (hu : 0 ≤ u ∧ u < D 279 1) (how : D 283 i.toNat = 5 ∨ D 283 i.toNat = 6 → D 284 i.toNat < D 279 1) (hcI : inI (cnM D (D 283 i.toNat) (D 284 i.toNat) (D 286 i.toNat))) : MC 2 yX10_touchesCounter cX10_touchesCounter 7 (some .boolean) [vR 279, vI i, vI u] D (Is (some (vI (b2 (ctM D u (D 283 i.toNat) (D 284 i.toNat) (D 285 i.toNat) (D 286 i.toNat))))) D) := by
  refine MC.mk [vR 279, vI i, vI u, vN, vN, vN, vN] (by decide) (Nat.le_of_ble_eq_true rfl) rfl (fun X Q hX hF hok hol => ?_)
  have zq_of : -4000000000 ≤ fcM (D 283 i.toNat) (D 284 i.toNat) (D 285 i.toNat) ∧ fcM (D 283 i.toNat) (D 284 i.toNat) (D 285 i.toNat) ≤ 4000000000 := by
    have zq_3 := hok.int (k := 285) (by decide) (by decide) i.toNat
    have zq_4 := hok.int (k := 284) (by decide) (by decide) i.toNat
    unfold fcM
    split <;> omega
  refine w_aload_n (i := 0) hX dX10_touchesCounter_0 rfl rfl rfl ?_
  refine w_getR (j := 6) hX cl9 fl_RX10_19_9 rfl (by decide) rfl rfl dX10_touchesCounter_1 rfl ?_
  refine w_iload_n (i := 1) hX dX10_touchesCounter_4 rfl rfl rfl ?_
  refine w_iald hX rfl (by omega) (by omega) dX10_touchesCounter_5 rfl ?_
  refine w_istore_n (i := 3) hX dX10_touchesCounter_6 rfl rfl (by decide) ?_
  dsimp only [st1X, st2X, klX_I, klX_L, klX_R, klX_S, klX_N]
  refine w_iload_n (i := 3) hX dX10_touchesCounter_7 rfl rfl rfl ?_
  refine w_bipush hX dX10_touchesCounter_8 rfl (by decide) ?_
  refine w_icmp_eq (tgt := 19) hX dX10_touchesCounter_10 rfl (by decide) (fun h10 => ?_) (fun h10 => ?_)
  · refine w_iconst hX dX10_touchesCounter_19 rfl (by decide) ?_
    exact e_z hX hF dX10_touchesCounter_20 (by decide) ⟨by rw [b2_f (fun zq_q => zq_q.1 (by omega))], rfl⟩
  · refine w_iload_n (i := 3) hX dX10_touchesCounter_13 rfl rfl rfl ?_
    refine w_bipush hX dX10_touchesCounter_14 rfl (by decide) ?_
    refine w_icmp_ne (tgt := 21) hX dX10_touchesCounter_16 rfl (by decide) (fun h16 => ?_) (fun h16 => ?_)
    · refine w_iload_n (i := 3) hX dX10_touchesCounter_21 rfl rfl rfl ?_
      refine w_iconst hX dX10_touchesCounter_22 rfl (by decide) ?_
      refine w_icmp_eq (tgt := 32) hX dX10_touchesCounter_23 rfl (by decide) (fun h23 => ?_) (fun h23 => ?_)
      · refine w_aload_n (i := 0) hX dX10_touchesCounter_32 rfl rfl rfl ?_
        refine w_getR (j := 7) hX cl9 fl_RX10_22_9 rfl (by decide) rfl rfl dX10_touchesCounter_33 rfl ?_
        refine w_iload_n (i := 1) hX dX10_touchesCounter_36 rfl rfl rfl ?_
        refine w_iald hX rfl (by omega) (by omega) dX10_touchesCounter_37 rfl ?_
        refine w_goto (tgt := 42) hX dX10_touchesCounter_38 (by decide) ?_
        refine w_istore hX dX10_touchesCounter_42 rfl (by decide) ?_
        dsimp only [st1X, st2X, klX_I, klX_L, klX_R, klX_S, klX_N]
        refine w_iconst hX dX10_touchesCounter_44 rfl (by decide) ?_
        refine w_istore hX dX10_touchesCounter_45 rfl (by decide) ?_
        dsimp only [st1X, st2X, klX_I, klX_L, klX_R, klX_S, klX_N]
        refine w_iconst hX dX10_touchesCounter_47 rfl (by decide) ?_
        refine w_istore hX dX10_touchesCounter_48 rfl (by decide) ?_
        dsimp only [st1X, st2X, klX_I, klX_L, klX_R, klX_S, klX_N]
        refine l_touches hX hF D i hi ha hI u _ _ (by omega) zq_of hcI (fun w zq_w zq_r => ⟨?_, rfl⟩) _ 0 0 (Nat.lt_succ_self _) (by omega) (by omega) (fun zq_q => by omega) (fun _ x zq_a zq_b => by omega)
        rcases zq_w with zq_w | zq_w
        · subst zq_w
          rw [b2_f (p := ctM D u (D 283 i.toNat) (D 284 i.toNat) (D 285 i.toNat) (D 286 i.toNat)) (fun zq_q => absurd (zq_r.mpr (by have zq_p := zq_q.2; first | (rw [if_pos (by omega)] at zq_p; exact zq_p) | (rw [if_neg (by omega)] at zq_p; exact zq_p))) (by decide))]
        · subst zq_w
          rw [b2_t (p := ctM D u (D 283 i.toNat) (D 284 i.toNat) (D 285 i.toNat) (D 286 i.toNat)) ⟨by omega, by first | (rw [if_pos (by omega)]; exact zq_r.mp rfl) | (rw [if_neg (by omega)]; exact zq_r.mp rfl)⟩]
      · refine w_iload_n (i := 3) hX dX10_touchesCounter_26 rfl rfl rfl ?_
        refine w_bipush hX dX10_touchesCounter_27 rfl (by decide) ?_
        refine w_icmp_ne (tgt := 41) hX dX10_touchesCounter_29 rfl (by decide) (fun h29 => ?_) (fun h29 => ?_)
        · refine w_iload_n (i := 2) hX dX10_touchesCounter_41 rfl rfl rfl ?_
          refine w_istore hX dX10_touchesCounter_42 rfl (by decide) ?_
          dsimp only [st1X, st2X, klX_I, klX_L, klX_R, klX_S, klX_N]
          refine w_iconst hX dX10_touchesCounter_44 rfl (by decide) ?_
          refine w_istore hX dX10_touchesCounter_45 rfl (by decide) ?_
          dsimp only [st1X, st2X, klX_I, klX_L, klX_R, klX_S, klX_N]
          refine w_iconst hX dX10_touchesCounter_47 rfl (by decide) ?_
          refine w_istore hX dX10_touchesCounter_48 rfl (by decide) ?_
          dsimp only [st1X, st2X, klX_I, klX_L, klX_R, klX_S, klX_N]
          refine l_touches hX hF D i hi ha hI u _ _ (by omega) zq_of hcI (fun w zq_w zq_r => ⟨?_, rfl⟩) _ 0 0 (Nat.lt_succ_self _) (by omega) (by omega) (fun zq_q => by omega) (fun _ x zq_a zq_b => by omega)
          rcases zq_w with zq_w | zq_w
          · subst zq_w
            rw [b2_f (p := ctM D u (D 283 i.toNat) (D 284 i.toNat) (D 285 i.toNat) (D 286 i.toNat)) (fun zq_q => absurd (zq_r.mpr (by have zq_p := zq_q.2; first | (rw [if_pos (by omega)] at zq_p; exact zq_p) | (rw [if_neg (by omega)] at zq_p; exact zq_p))) (by decide))]
          · subst zq_w
            rw [b2_t (p := ctM D u (D 283 i.toNat) (D 284 i.toNat) (D 285 i.toNat) (D 286 i.toNat)) ⟨by omega, by first | (rw [if_pos (by omega)]; exact zq_r.mp rfl) | (rw [if_neg (by omega)]; exact zq_r.mp rfl)⟩]
        · refine w_aload_n (i := 0) hX dX10_touchesCounter_32 rfl rfl rfl ?_
          refine w_getR (j := 7) hX cl9 fl_RX10_22_9 rfl (by decide) rfl rfl dX10_touchesCounter_33 rfl ?_
          refine w_iload_n (i := 1) hX dX10_touchesCounter_36 rfl rfl rfl ?_
          refine w_iald hX rfl (by omega) (by omega) dX10_touchesCounter_37 rfl ?_
          refine w_goto (tgt := 42) hX dX10_touchesCounter_38 (by decide) ?_
          refine w_istore hX dX10_touchesCounter_42 rfl (by decide) ?_
          dsimp only [st1X, st2X, klX_I, klX_L, klX_R, klX_S, klX_N]
          refine w_iconst hX dX10_touchesCounter_44 rfl (by decide) ?_
          refine w_istore hX dX10_touchesCounter_45 rfl (by decide) ?_
          dsimp only [st1X, st2X, klX_I, klX_L, klX_R, klX_S, klX_N]
          refine w_iconst hX dX10_touchesCounter_47 rfl (by decide) ?_
          refine w_istore hX dX10_touchesCounter_48 rfl (by decide) ?_
          dsimp only [st1X, st2X, klX_I, klX_L, klX_R, klX_S, klX_N]
          refine l_touches hX hF D i hi ha hI u _ _ (by omega) zq_of hcI (fun w zq_w zq_r => ⟨?_, rfl⟩) _ 0 0 (Nat.lt_succ_self _) (by omega) (by omega) (fun zq_q => by omega) (fun _ x zq_a zq_b => by omega)
          rcases zq_w with zq_w | zq_w
          · subst zq_w
            rw [b2_f (p := ctM D u (D 283 i.toNat) (D 284 i.toNat) (D 285 i.toNat) (D 286 i.toNat)) (fun zq_q => absurd (zq_r.mpr (by have zq_p := zq_q.2; first | (rw [if_pos (by omega)] at zq_p; exact zq_p) | (rw [if_neg (by omega)] at zq_p; exact zq_p))) (by decide))]
          · subst zq_w
            rw [b2_t (p := ctM D u (D 283 i.toNat) (D 284 i.toNat) (D 285 i.toNat) (D 286 i.toNat)) ⟨by omega, by first | (rw [if_pos (by omega)]; exact zq_r.mp rfl) | (rw [if_neg (by omega)]; exact zq_r.mp rfl)⟩]
    · refine w_iconst hX dX10_touchesCounter_19 rfl (by decide) ?_
      exact e_z hX hF dX10_touchesCounter_20 (by decide) ⟨by rw [b2_f (fun zq_q => zq_q.1 (by omega))], rfl⟩
