/-! StackPass (faults 8 to 10, depths) -/
abbrev cmOK (D : Dd) (t d : Int) : Prop := (0 ≤ t ∧ t ≤ D 268 3) ∧ (D 269 t.toNat = -1 ∨ D 269 t.toNat = d)
def cmD (D : Dd) (t d : Int) : Dd := if (0 ≤ t ∧ t ≤ D 268 3) ∧ D 269 t.toNat = -1 then upD D 269 t.toNat d else D
def cmL (d : Int) : Dd → List Int → Prop
  | _, [] => True
  | D, t :: r => cmOK D t d ∧ cmL d (cmD D t d) r
def cmE (d : Int) : Dd → List Int → Dd
  | D, [] => D
  | D, t :: r => cmE d (cmD D t d) r
/-- where an instruction goes -/
def tgF (n i a b sz : Int) : List Int := if n = 10 ∨ n = 14 then [a] else if n = 11 then [a, i + 1] else if n = 13 then [b, i + 1] else if n = 18 then [sz] else [i + 1]
def keepS (D D2 : Dd) : Prop := ∀ k j, k ≠ 269 → k ≠ 270 → D2 k j = D k j
theorem keepS.rf (D : Dd) : keepS D D := fun _ _ _ _ => rfl
theorem keepS.tr {D D' D2 : Dd} (h : keepS D D') (h2 : keepS D' D2) : keepS D D2 := fun k j a b => (h2 k j a b).trans (h k j a b)
theorem keepS.sm {D D2 : Dd} (h : keepS D D2) : smC D D2 := fun k j hk => h k j (by omega) (by omega)
theorem keepS.cm {D : Dd} {t d : Int} : keepS D (cmD D t d) := fun k j h1 _ => by
  unfold cmD
  split
  · exact upD_k h1
  · rfl
theorem cmD_st (D : Dd) (t d : Int) : cmD D t d 268 3 = D 268 3 := keepS.cm _ _ (by decide) (by decide)
def ndF (D : Dd) (u x : Int) : Dd := if (0 ≤ u ∧ u < 16) ∧ D 270 u.toNat < x then upD D 270 u.toNat x else D
theorem keepS.nd {D : Dd} {u x : Int} : keepS D (ndF D u x) := fun k j _ h2 => by
  unfold ndF
  split
  · exact upD_k h2
  · rfl
theorem keepS.cme {d : Int} : ∀ {r : List Int} {D : Dd}, keepS D (cmE d D r)
  | [], D => keepS.rf D
  | t :: r, D => keepS.cm.tr (keepS.cme (r := r))

set_option maxRecDepth 100000 in
set_option maxHeartbeats 4000000 in
theorem m_comesTo (D : Dd) (hs : 0 ≤ D 268 3 ∧ D 268 3 ≤ 256) (t d : Int) : MC 1 yX6_comesTo cX6_comesTo 3 (some .boolean) [vR 268, vI t, vI d] D (Is (some (vI (b2 (cmOK D t d)))) (cmD D t d)) := by
  refine MC.mk [vR 268, vI t, vI d] (by decide) (Nat.le_of_ble_eq_true rfl) rfl (fun X Q hX hF hok hol => ?_)
  refine w_iload_n (i := 1) hX dX6_comesTo_0 rfl rfl rfl ?_
  refine w_if_lt (tgt := 12) hX dX6_comesTo_1 rfl (by decide) (fun h1 => ?_) (fun h1 => ?_)
  · refine w_iconst hX dX6_comesTo_12 rfl (by decide) ?_
    exact e_z hX hF dX6_comesTo_13 (by decide) ⟨by rw [b2_f (by omega)], by rw [cmD, if_neg (by omega)]⟩
  · refine w_iload_n (i := 1) hX dX6_comesTo_4 rfl rfl rfl ?_
    refine w_aload_n (i := 0) hX dX6_comesTo_5 rfl rfl rfl ?_
    refine w_getI (j := 3) hX cl5 fl_RX6_34_5 rfl (by decide) rfl dX6_comesTo_6 rfl ?_
    try simp +decide only [upD_rd, ↓reduceIte]
    refine w_icmp_le (tgt := 14) hX dX6_comesTo_9 rfl (by decide) (fun h9 => ?_) (fun h9 => ?_)
    · refine w_aload_n (i := 0) hX dX6_comesTo_14 rfl rfl rfl ?_
      refine w_getR (j := 1) hX cl5 fl_RX6_9_5 rfl (by decide) rfl rfl dX6_comesTo_15 rfl ?_
      try simp +decide only [upD_rd, ↓reduceIte]
      refine w_iload_n (i := 1) hX dX6_comesTo_18 rfl rfl rfl ?_
      refine w_iald hX rfl (by omega) (by omega) dX6_comesTo_19 rfl ?_
      try simp +decide only [upD_rd, ↓reduceIte]
      refine w_iconst hX dX6_comesTo_20 rfl (by decide) ?_
      refine w_icmp_ne (tgt := 31) hX dX6_comesTo_21 rfl (by decide) (fun h21 => ?_) (fun h21 => ?_)
      · refine w_aload_n (i := 0) hX dX6_comesTo_31 rfl rfl rfl ?_
        refine w_getR (j := 1) hX cl5 fl_RX6_9_5 rfl (by decide) rfl rfl dX6_comesTo_32 rfl ?_
        try simp +decide only [upD_rd, ↓reduceIte]
        refine w_iload_n (i := 1) hX dX6_comesTo_35 rfl rfl rfl ?_
        refine w_iald hX rfl (by omega) (by omega) dX6_comesTo_36 rfl ?_
        try simp +decide only [upD_rd, ↓reduceIte]
        refine w_iload_n (i := 2) hX dX6_comesTo_37 rfl rfl rfl ?_
        refine w_icmp_ne (tgt := 45) hX dX6_comesTo_38 rfl (by decide) (fun h38 => ?_) (fun h38 => ?_)
        · refine w_iconst hX dX6_comesTo_45 rfl (by decide) ?_
          exact e_z hX hF dX6_comesTo_46 (by decide) (by first | exact absurd rfl h38 | exact ⟨by first | rw [b2_t (by omega)] | rw [b2_f (by omega)], by first | rw [cmD, if_pos ⟨by omega, by omega⟩] | rw [cmD, if_neg (by omega)]⟩)
        · refine w_iconst hX dX6_comesTo_41 rfl (by decide) ?_
          refine w_goto (tgt := 46) hX dX6_comesTo_42 (by decide) ?_
          exact e_z hX hF dX6_comesTo_46 (by decide) (by first | exact absurd rfl h38 | exact ⟨by first | rw [b2_t (by omega)] | rw [b2_f (by omega)], by first | rw [cmD, if_pos ⟨by omega, by omega⟩] | rw [cmD, if_neg (by omega)]⟩)
      · refine w_aload_n (i := 0) hX dX6_comesTo_24 rfl rfl rfl ?_
        refine w_getR (j := 1) hX cl5 fl_RX6_9_5 rfl (by decide) rfl rfl dX6_comesTo_25 rfl ?_
        try simp +decide only [upD_rd, ↓reduceIte]
        refine w_iload_n (i := 1) hX dX6_comesTo_28 rfl rfl rfl ?_
        refine w_iload_n (i := 2) hX dX6_comesTo_29 rfl rfl rfl ?_
        refine w_iast hX rfl (by omega) (by omega) dX6_comesTo_30 rfl ?_
        refine w_aload_n (i := 0) hX dX6_comesTo_31 rfl rfl rfl ?_
        refine w_getR (j := 1) hX cl5 fl_RX6_9_5 rfl (by decide) rfl rfl dX6_comesTo_32 rfl ?_
        try simp +decide only [upD_rd, ↓reduceIte]
        refine w_iload_n (i := 1) hX dX6_comesTo_35 rfl rfl rfl ?_
        refine w_iald hX rfl (by omega) (by omega) dX6_comesTo_36 rfl ?_
        try simp +decide only [upD_rd, ↓reduceIte]
        refine w_iload_n (i := 2) hX dX6_comesTo_37 rfl rfl rfl ?_
        refine w_icmp_ne (tgt := 45) hX dX6_comesTo_38 rfl (by decide) (fun h38 => ?_) (fun h38 => ?_)
        · refine w_iconst hX dX6_comesTo_45 rfl (by decide) ?_
          exact e_z hX hF dX6_comesTo_46 (by decide) (by first | exact absurd rfl h38 | exact ⟨by first | rw [b2_t (by omega)] | rw [b2_f (by omega)], by first | rw [cmD, if_pos ⟨by omega, by omega⟩] | rw [cmD, if_neg (by omega)]⟩)
        · refine w_iconst hX dX6_comesTo_41 rfl (by decide) ?_
          refine w_goto (tgt := 46) hX dX6_comesTo_42 (by decide) ?_
          exact e_z hX hF dX6_comesTo_46 (by decide) (by first | exact absurd rfl h38 | exact ⟨by first | rw [b2_t (by omega)] | rw [b2_f (by omega)], by first | rw [cmD, if_pos ⟨by omega, by omega⟩] | rw [cmD, if_neg (by omega)]⟩)
    · refine w_iconst hX dX6_comesTo_12 rfl (by decide) ?_
      exact e_z hX hF dX6_comesTo_13 (by decide) ⟨by rw [b2_f (by omega)], by rw [cmD, if_neg (by omega)]⟩

set_option maxRecDepth 100000 in
set_option maxHeartbeats 4000000 in
theorem m_noteDepth (D : Dd) (u x : Int) : MC 1 yX6_noteDepth cX6_noteDepth 3 none [vR 268, vI u, vI x] D (Is none (ndF D u x)) := by
  refine MC.mk [vR 268, vI u, vI x] (by decide) (Nat.le_of_ble_eq_true rfl) rfl (fun X Q hX hF hok hol => ?_)
  refine w_iload_n (i := 1) hX dX6_noteDepth_0 rfl rfl rfl ?_
  refine w_if_lt (tgt := 27) hX dX6_noteDepth_1 rfl (by decide) (fun h1 => ?_) (fun h1 => ?_)
  · exact e_v hX hF dX6_noteDepth_27 ⟨rfl, by first | rw [ndF, if_pos (by omega)] | rw [ndF, if_neg (by omega)]⟩
  · refine w_iload_n (i := 1) hX dX6_noteDepth_4 rfl rfl rfl ?_
    refine w_bipush hX dX6_noteDepth_5 rfl (by decide) ?_
    refine w_icmp_ge (tgt := 27) hX dX6_noteDepth_7 rfl (by decide) (fun h7 => ?_) (fun h7 => ?_)
    · exact e_v hX hF dX6_noteDepth_27 ⟨rfl, by first | rw [ndF, if_pos (by omega)] | rw [ndF, if_neg (by omega)]⟩
    · refine w_iload_n (i := 2) hX dX6_noteDepth_10 rfl rfl rfl ?_
      refine w_aload_n (i := 0) hX dX6_noteDepth_11 rfl rfl rfl ?_
      refine w_getR (j := 2) hX cl5 fl_RX6_15_5 rfl (by decide) rfl rfl dX6_noteDepth_12 rfl ?_
      refine w_iload_n (i := 1) hX dX6_noteDepth_15 rfl rfl rfl ?_
      refine w_iald hX rfl (by omega) (by omega) dX6_noteDepth_16 rfl ?_
      refine w_icmp_le (tgt := 27) hX dX6_noteDepth_17 rfl (by decide) (fun h17 => ?_) (fun h17 => ?_)
      · exact e_v hX hF dX6_noteDepth_27 ⟨rfl, by first | rw [ndF, if_pos (by omega)] | rw [ndF, if_neg (by omega)]⟩
      · refine w_aload_n (i := 0) hX dX6_noteDepth_20 rfl rfl rfl ?_
        refine w_getR (j := 2) hX cl5 fl_RX6_15_5 rfl (by decide) rfl rfl dX6_noteDepth_21 rfl ?_
        refine w_iload_n (i := 1) hX dX6_noteDepth_24 rfl rfl rfl ?_
        refine w_iload_n (i := 2) hX dX6_noteDepth_25 rfl rfl rfl ?_
        refine w_iast hX rfl (by omega) (by omega) dX6_noteDepth_26 rfl ?_
        exact e_v hX hF dX6_noteDepth_27 ⟨rfl, by first | rw [ndF, if_pos (by omega)] | rw [ndF, if_neg (by omega)]⟩

set_option maxRecDepth 100000 in
set_option maxHeartbeats 4000000 in
theorem m_goesOn (D : Dd) (hs : 0 ≤ D 268 3 ∧ D 268 3 ≤ 256) (k : Nat) (hk : isIns k) (i d : Int) (hi : 0 ≤ i ∧ i ≤ 256) : MC 2 yX6_goesOn cX6_goesOn 4 (some .boolean) [vR 268, vI i, vR k, vI d] D (fun r D2 => (cmL d D (tgF (D k 0) i (D k 1) (D k 2) (D 268 3)) ∧ some (vI 1) = r ∧ cmE d D (tgF (D k 0) i (D k 1) (D k 2) (D 268 3)) = D2) ∨ (¬ cmL d D (tgF (D k 0) i (D k 1) (D k 2) (D 268 3)) ∧ some (vI 0) = r ∧ keepS D D2)) := by
  refine MC.mk [vR 268, vI i, vR k, vI d] (by decide) (Nat.le_of_ble_eq_true rfl) rfl (fun X Q hX hF hok hol => ?_)
  refine w_aload_n (i := 2) hX dX6_goesOn_0 rfl rfl rfl ?_
  refine w_getI (j := 0) hX cl2 fl_RX6_42_2 (K0_ins (by assumption)) (by decide) rfl dX6_goesOn_1 rfl ?_
  refine w_nameI (fun sw4 hsw4 => ?_)
  by_cases g4_0 : sw4 = 10 ∨ sw4 = 14
  · refine w_tsw (tgt := 56) hX dX6_goesOn_4 rfl (by rcases g4_0 with w | w <;> rw [w] <;> decide) ?_
    refine w_aload_n (i := 0) hX dX6_goesOn_56 rfl rfl rfl ?_
    refine w_aload_n (i := 2) hX dX6_goesOn_57 rfl rfl rfl ?_
    refine w_getI (j := 1) hX cl2 fl_RX6_65_2 (K0_ins (by assumption)) (by decide) rfl dX6_goesOn_58 rfl ?_
    refine w_iload_n (i := 3) hX dX6_goesOn_61 rfl rfl rfl ?_
    refine c_V hX ml_RX6_71 cl5 dX6_goesOn_62 rfl (m_comesTo D hs (D k 1) d) rfl rfl rfl (by decide) (Nat.le_of_ble_eq_true rfl) ?_
    rintro _ _ ⟨rfl, rfl⟩ -
    all_goals try dsimp only [Option.toList, List.cons_append, List.nil_append]
    exact e_z hX hF dX6_goesOn_65 (b2_01 _) (by
      have e : tgF (D k 0) i (D k 1) (D k 2) (D 268 3) = [D k 1] := by simp only [tgF]; rw [if_pos (by omega)]
      rw [e]
      by_cases hc : cmOK D (D k 1) d
      · exact Or.inl ⟨⟨hc, trivial⟩, by rw [b2_t hc], rfl⟩
      · exact Or.inr ⟨fun q => hc q.1, by rw [b2_f hc], keepS.cm⟩)
  by_cases g4_1 : sw4 = 11
  · refine w_tsw (tgt := 66) hX dX6_goesOn_4 rfl (by rw [g4_1]; decide) ?_
    refine w_aload_n (i := 0) hX dX6_goesOn_66 rfl rfl rfl ?_
    refine w_aload_n (i := 2) hX dX6_goesOn_67 rfl rfl rfl ?_
    refine w_getI (j := 1) hX cl2 fl_RX6_65_2 (K0_ins (by assumption)) (by decide) rfl dX6_goesOn_68 rfl ?_
    refine w_iload_n (i := 3) hX dX6_goesOn_71 rfl rfl rfl ?_
    refine c_V hX ml_RX6_71 cl5 dX6_goesOn_72 rfl (m_comesTo D hs (D k 1) d) rfl rfl rfl (by decide) (Nat.le_of_ble_eq_true rfl) ?_
    rintro _ _ ⟨rfl, rfl⟩ -
    all_goals try dsimp only [Option.toList, List.cons_append, List.nil_append]
    refine w_if_eq (tgt := 93) hX dX6_goesOn_75 rfl (by decide) (fun h75 => ?_) (fun h75 => ?_)
    · rw [b2_0] at h75
      refine w_iconst hX dX6_goesOn_93 rfl (by decide) ?_
      exact e_z hX hF dX6_goesOn_94 (by decide) (by
      have e : tgF (D k 0) i (D k 1) (D k 2) (D 268 3) = [D k 1, i + 1] := by simp only [tgF]; rw [if_neg (by omega)]; rw [if_pos (by omega)]
      rw [e]
      first
        | exact Or.inl ⟨⟨h75, h86, trivial⟩, rfl, rfl⟩
        | exact Or.inr ⟨fun q => h86 q.2.1, rfl, keepS.cm.tr keepS.cm⟩
        | exact Or.inr ⟨fun q => h75 q.1, rfl, keepS.cm⟩)
    · rw [b2_n] at h75
      refine w_aload_n (i := 0) hX dX6_goesOn_78 rfl rfl rfl ?_
      refine w_iload_n (i := 1) hX dX6_goesOn_79 rfl rfl rfl ?_
      refine w_iconst hX dX6_goesOn_80 rfl (by decide) ?_
      refine w_iadd hX dX6_goesOn_81 rfl (by omega) ?_
      refine w_iload_n (i := 3) hX dX6_goesOn_82 rfl rfl rfl ?_
      refine c_V hX ml_RX6_71 cl5 dX6_goesOn_83 rfl (m_comesTo _ (by rw [cmD_st]; exact hs) (i + 1) d) rfl rfl rfl (by decide) (Nat.le_of_ble_eq_true rfl) ?_
      rintro _ _ ⟨rfl, rfl⟩ -
      all_goals try dsimp only [Option.toList, List.cons_append, List.nil_append]
      refine w_if_eq (tgt := 93) hX dX6_goesOn_86 rfl (by decide) (fun h86 => ?_) (fun h86 => ?_)
      · rw [b2_0] at h86
        refine w_iconst hX dX6_goesOn_93 rfl (by decide) ?_
        exact e_z hX hF dX6_goesOn_94 (by decide) (by
      have e : tgF (D k 0) i (D k 1) (D k 2) (D 268 3) = [D k 1, i + 1] := by simp only [tgF]; rw [if_neg (by omega)]; rw [if_pos (by omega)]
      rw [e]
      first
        | exact Or.inl ⟨⟨h75, h86, trivial⟩, rfl, rfl⟩
        | exact Or.inr ⟨fun q => h86 q.2.1, rfl, keepS.cm.tr keepS.cm⟩
        | exact Or.inr ⟨fun q => h75 q.1, rfl, keepS.cm⟩)
      · rw [b2_n] at h86
        refine w_iconst hX dX6_goesOn_89 rfl (by decide) ?_
        refine w_goto (tgt := 94) hX dX6_goesOn_90 (by decide) ?_
        exact e_z hX hF dX6_goesOn_94 (by decide) (by
      have e : tgF (D k 0) i (D k 1) (D k 2) (D 268 3) = [D k 1, i + 1] := by simp only [tgF]; rw [if_neg (by omega)]; rw [if_pos (by omega)]
      rw [e]
      first
        | exact Or.inl ⟨⟨h75, h86, trivial⟩, rfl, rfl⟩
        | exact Or.inr ⟨fun q => h86 q.2.1, rfl, keepS.cm.tr keepS.cm⟩
        | exact Or.inr ⟨fun q => h75 q.1, rfl, keepS.cm⟩)
  by_cases g4_2 : sw4 = 13
  · refine w_tsw (tgt := 95) hX dX6_goesOn_4 rfl (by rw [g4_2]; decide) ?_
    refine w_aload_n (i := 0) hX dX6_goesOn_95 rfl rfl rfl ?_
    refine w_aload_n (i := 2) hX dX6_goesOn_96 rfl rfl rfl ?_
    refine w_getI (j := 2) hX cl2 fl_RX6_75_2 (K0_ins (by assumption)) (by decide) rfl dX6_goesOn_97 rfl ?_
    refine w_iload_n (i := 3) hX dX6_goesOn_100 rfl rfl rfl ?_
    refine c_V hX ml_RX6_71 cl5 dX6_goesOn_101 rfl (m_comesTo D hs (D k 2) d) rfl rfl rfl (by decide) (Nat.le_of_ble_eq_true rfl) ?_
    rintro _ _ ⟨rfl, rfl⟩ -
    all_goals try dsimp only [Option.toList, List.cons_append, List.nil_append]
    refine w_if_eq (tgt := 122) hX dX6_goesOn_104 rfl (by decide) (fun h104 => ?_) (fun h104 => ?_)
    · rw [b2_0] at h104
      refine w_iconst hX dX6_goesOn_122 rfl (by decide) ?_
      exact e_z hX hF dX6_goesOn_123 (by decide) (by
      have e : tgF (D k 0) i (D k 1) (D k 2) (D 268 3) = [D k 2, i + 1] := by simp only [tgF]; rw [if_neg (by omega)]; rw [if_neg (by omega)]; rw [if_pos (by omega)]
      rw [e]
      first
        | exact Or.inl ⟨⟨h104, h115, trivial⟩, rfl, rfl⟩
        | exact Or.inr ⟨fun q => h115 q.2.1, rfl, keepS.cm.tr keepS.cm⟩
        | exact Or.inr ⟨fun q => h104 q.1, rfl, keepS.cm⟩)
    · rw [b2_n] at h104
      refine w_aload_n (i := 0) hX dX6_goesOn_107 rfl rfl rfl ?_
      refine w_iload_n (i := 1) hX dX6_goesOn_108 rfl rfl rfl ?_
      refine w_iconst hX dX6_goesOn_109 rfl (by decide) ?_
      refine w_iadd hX dX6_goesOn_110 rfl (by omega) ?_
      refine w_iload_n (i := 3) hX dX6_goesOn_111 rfl rfl rfl ?_
      refine c_V hX ml_RX6_71 cl5 dX6_goesOn_112 rfl (m_comesTo _ (by rw [cmD_st]; exact hs) (i + 1) d) rfl rfl rfl (by decide) (Nat.le_of_ble_eq_true rfl) ?_
      rintro _ _ ⟨rfl, rfl⟩ -
      all_goals try dsimp only [Option.toList, List.cons_append, List.nil_append]
      refine w_if_eq (tgt := 122) hX dX6_goesOn_115 rfl (by decide) (fun h115 => ?_) (fun h115 => ?_)
      · rw [b2_0] at h115
        refine w_iconst hX dX6_goesOn_122 rfl (by decide) ?_
        exact e_z hX hF dX6_goesOn_123 (by decide) (by
      have e : tgF (D k 0) i (D k 1) (D k 2) (D 268 3) = [D k 2, i + 1] := by simp only [tgF]; rw [if_neg (by omega)]; rw [if_neg (by omega)]; rw [if_pos (by omega)]
      rw [e]
      first
        | exact Or.inl ⟨⟨h104, h115, trivial⟩, rfl, rfl⟩
        | exact Or.inr ⟨fun q => h115 q.2.1, rfl, keepS.cm.tr keepS.cm⟩
        | exact Or.inr ⟨fun q => h104 q.1, rfl, keepS.cm⟩)
      · rw [b2_n] at h115
        refine w_iconst hX dX6_goesOn_118 rfl (by decide) ?_
        refine w_goto (tgt := 123) hX dX6_goesOn_119 (by decide) ?_
        exact e_z hX hF dX6_goesOn_123 (by decide) (by
      have e : tgF (D k 0) i (D k 1) (D k 2) (D 268 3) = [D k 2, i + 1] := by simp only [tgF]; rw [if_neg (by omega)]; rw [if_neg (by omega)]; rw [if_pos (by omega)]
      rw [e]
      first
        | exact Or.inl ⟨⟨h104, h115, trivial⟩, rfl, rfl⟩
        | exact Or.inr ⟨fun q => h115 q.2.1, rfl, keepS.cm.tr keepS.cm⟩
        | exact Or.inr ⟨fun q => h104 q.1, rfl, keepS.cm⟩)
  by_cases g4_3 : sw4 = 18
  · refine w_tsw (tgt := 124) hX dX6_goesOn_4 rfl (by rw [g4_3]; decide) ?_
    refine w_aload_n (i := 0) hX dX6_goesOn_124 rfl rfl rfl ?_
    refine w_aload_n (i := 0) hX dX6_goesOn_125 rfl rfl rfl ?_
    refine w_getI (j := 3) hX cl5 fl_RX6_34_5 rfl (by decide) rfl dX6_goesOn_126 rfl ?_
    refine w_iload_n (i := 3) hX dX6_goesOn_129 rfl rfl rfl ?_
    refine c_V hX ml_RX6_71 cl5 dX6_goesOn_130 rfl (m_comesTo D hs (D 268 3) d) rfl rfl rfl (by decide) (Nat.le_of_ble_eq_true rfl) ?_
    rintro _ _ ⟨rfl, rfl⟩ -
    all_goals try dsimp only [Option.toList, List.cons_append, List.nil_append]
    exact e_z hX hF dX6_goesOn_133 (b2_01 _) (by
      have e : tgF (D k 0) i (D k 1) (D k 2) (D 268 3) = [D 268 3] := by simp only [tgF]; rw [if_neg (by omega)]; rw [if_neg (by omega)]; rw [if_neg (by omega)]; rw [if_pos (by omega)]
      rw [e]
      by_cases hc : cmOK D (D 268 3) d
      · exact Or.inl ⟨⟨hc, trivial⟩, by rw [b2_t hc], rfl⟩
      · exact Or.inr ⟨fun q => hc q.1, by rw [b2_f hc], keepS.cm⟩)
  refine w_tsw (tgt := 134) hX dX6_goesOn_4 rfl (by rw [sw_dflt [10, 14, 11, 13, 18] (by decide) (by simp only [List.mem_cons, List.not_mem_nil, or_false]; omega)]; decide) ?_
  refine w_aload_n (i := 0) hX dX6_goesOn_134 rfl rfl rfl ?_
  refine w_iload_n (i := 1) hX dX6_goesOn_135 rfl rfl rfl ?_
  refine w_iconst hX dX6_goesOn_136 rfl (by decide) ?_
  refine w_iadd hX dX6_goesOn_137 rfl (by omega) ?_
  refine w_iload_n (i := 3) hX dX6_goesOn_138 rfl rfl rfl ?_
  refine c_V hX ml_RX6_71 cl5 dX6_goesOn_139 rfl (m_comesTo D hs (i + 1) d) rfl rfl rfl (by decide) (Nat.le_of_ble_eq_true rfl) ?_
  rintro _ _ ⟨rfl, rfl⟩ -
  all_goals try dsimp only [Option.toList, List.cons_append, List.nil_append]
  exact e_z hX hF dX6_goesOn_142 (b2_01 _) (by
      have e : tgF (D k 0) i (D k 1) (D k 2) (D 268 3) = [i + 1] := by simp only [tgF]; rw [if_neg (by omega)]; rw [if_neg (by omega)]; rw [if_neg (by omega)]; rw [if_neg (by omega)]
      rw [e]
      by_cases hc : cmOK D (i + 1) d
      · exact Or.inl ⟨⟨hc, trivial⟩, by rw [b2_t hc], rfl⟩
      · exact Or.inr ⟨fun q => hc q.1, by rw [b2_f hc], keepS.cm⟩)
