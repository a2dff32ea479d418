/-! CONTRACTS: Code's writes, Proof's small methods, the face but prove and walk -/
def nuD (D : Dd) (f p : Int) : Dd := upD (upD (upD (upD (upD D 4 (D 1 7).toNat (D 1 8)) 5 (D 1 7).toNat 0) 6 (D 1 7).toNat f) 7 (D 1 7).toNat p) 1 7 (D 1 7 + 1)

set_option maxRecDepth 100000 in
set_option maxHeartbeats 4000000 in
theorem m_newUnit (D : Dd) (hI : InC D) (f p : Int) : MC 1 yX0_newUnit cX0_newUnit 3 (some .int) [vR 1, vI f, vI p] D (fun r D2 => (16 ≤ D 1 7 ∧ some (vI (-1)) = r ∧ D = D2) ∨ (D 1 7 < 16 ∧ some (vI (D 1 7)) = r ∧ nuD D f p = D2)) := by
  refine MC.mk [vR 1, vI f, vI p] (by decide) (Nat.le_of_ble_eq_true rfl) rfl (fun X Q hX hF hok hol => ?_)
  have h7 := hI.1
  refine w_aload_n (i := 0) hX dX0_newUnit_0 rfl rfl rfl ?_
  refine w_getI (j := 7) hX cl0 fl_RX0_39_0 rfl (by decide) rfl dX0_newUnit_1 rfl ?_
  try simp +decide only [upD_rd, ↓reduceIte]
  refine w_bipush hX dX0_newUnit_4 rfl (by decide) ?_
  refine w_icmp_lt (tgt := 11) hX dX0_newUnit_6 rfl (by decide) (fun h6 => ?_) (fun h6 => ?_)
  · refine w_aload_n (i := 0) hX dX0_newUnit_11 rfl rfl rfl ?_
    refine w_getR (j := 2) hX cl0 fl_RX0_22_0 rfl (by decide) rfl rfl dX0_newUnit_12 rfl ?_
    try simp +decide only [upD_rd, ↓reduceIte]
    refine w_aload_n (i := 0) hX dX0_newUnit_15 rfl rfl rfl ?_
    refine w_getI (j := 7) hX cl0 fl_RX0_39_0 rfl (by decide) rfl dX0_newUnit_16 rfl ?_
    try simp +decide only [upD_rd, ↓reduceIte]
    refine w_aload_n (i := 0) hX dX0_newUnit_19 rfl rfl rfl ?_
    refine w_getI (j := 8) hX cl0 fl_RX0_42_0 rfl (by decide) rfl dX0_newUnit_20 rfl ?_
    try simp +decide only [upD_rd, ↓reduceIte]
    refine w_iast hX rfl (by omega) (by omega) dX0_newUnit_23 rfl ?_
    refine w_aload_n (i := 0) hX dX0_newUnit_24 rfl rfl rfl ?_
    refine w_getR (j := 3) hX cl0 fl_RX0_26_0 rfl (by decide) rfl rfl dX0_newUnit_25 rfl ?_
    try simp +decide only [upD_rd, ↓reduceIte]
    refine w_aload_n (i := 0) hX dX0_newUnit_28 rfl rfl rfl ?_
    refine w_getI (j := 7) hX cl0 fl_RX0_39_0 rfl (by decide) rfl dX0_newUnit_29 rfl ?_
    try simp +decide only [upD_rd, ↓reduceIte]
    refine w_iconst hX dX0_newUnit_32 rfl (by decide) ?_
    refine w_iast hX rfl (by omega) (by omega) dX0_newUnit_33 rfl ?_
    refine w_aload_n (i := 0) hX dX0_newUnit_34 rfl rfl rfl ?_
    refine w_getR (j := 4) hX cl0 fl_RX0_29_0 rfl (by decide) rfl rfl dX0_newUnit_35 rfl ?_
    try simp +decide only [upD_rd, ↓reduceIte]
    refine w_aload_n (i := 0) hX dX0_newUnit_38 rfl rfl rfl ?_
    refine w_getI (j := 7) hX cl0 fl_RX0_39_0 rfl (by decide) rfl dX0_newUnit_39 rfl ?_
    try simp +decide only [upD_rd, ↓reduceIte]
    refine w_iload_n (i := 1) hX dX0_newUnit_42 rfl rfl rfl ?_
    refine w_iast hX rfl (by omega) (by omega) dX0_newUnit_43 rfl ?_
    refine w_aload_n (i := 0) hX dX0_newUnit_44 rfl rfl rfl ?_
    refine w_getR (j := 5) hX cl0 fl_RX0_32_0 rfl (by decide) rfl rfl dX0_newUnit_45 rfl ?_
    try simp +decide only [upD_rd, ↓reduceIte]
    refine w_aload_n (i := 0) hX dX0_newUnit_48 rfl rfl rfl ?_
    refine w_getI (j := 7) hX cl0 fl_RX0_39_0 rfl (by decide) rfl dX0_newUnit_49 rfl ?_
    try simp +decide only [upD_rd, ↓reduceIte]
    refine w_iload_n (i := 2) hX dX0_newUnit_52 rfl rfl rfl ?_
    refine w_iast hX rfl (by omega) (by omega) dX0_newUnit_53 rfl ?_
    refine w_aload_n (i := 0) hX dX0_newUnit_54 rfl rfl rfl ?_
    refine w_dup hX dX0_newUnit_55 rfl rfl ?_
    refine w_getI (j := 7) hX cl0 fl_RX0_39_0 rfl (by decide) rfl dX0_newUnit_56 rfl ?_
    try simp +decide only [upD_rd, ↓reduceIte]
    refine w_iconst hX dX0_newUnit_59 rfl (by decide) ?_
    refine w_iadd hX dX0_newUnit_60 rfl (by omega) ?_
    refine w_putI (j := 7) hX cl0 fl_RX0_39_0 rfl (by decide) rfl rfl (Or.inl rfl) dX0_newUnit_61 rfl ?_
    refine w_aload_n (i := 0) hX dX0_newUnit_64 rfl rfl rfl ?_
    refine w_getI (j := 7) hX cl0 fl_RX0_39_0 rfl (by decide) rfl dX0_newUnit_65 rfl ?_
    try simp +decide only [upD_rd, ↓reduceIte]
    refine w_iconst hX dX0_newUnit_68 rfl (by decide) ?_
    refine w_isub hX dX0_newUnit_69 rfl (by omega) ?_
    exact e_i hX hF dX0_newUnit_70 (Or.inr ⟨by omega, by rw [show D 1 7 + 1 - 1 = D 1 7 by omega], rfl⟩)
  · refine w_iconst hX dX0_newUnit_9 rfl (by decide) ?_
    exact e_i hX hF dX0_newUnit_10 (Or.inl ⟨by omega, rfl, rfl⟩)

def niD (D : Dd) (x a b c : Int) : Dd := upD (upD (upD (upD (upD (upD D (8 + (D 1 8).toNat) 0 x) (8 + (D 1 8).toNat) 1 a) (8 + (D 1 8).toNat) 2 b) (8 + (D 1 8).toNat) 3 c) 1 8 (D 1 8 + 1)) 5 (D 1 7 - 1).toNat (D 5 (D 1 7 - 1).toNat + 1)

set_option maxRecDepth 100000 in
set_option maxHeartbeats 4000000 in
theorem m_newInstruction (D : Dd) (hI : InC D) (x a b c : Int) : MC 2 yX0_newInstruction cX0_newInstruction 6 (some .int) [vR 1, vI x, vI a, vI b, vI c] D (fun r D2 => ((D 1 7 < 1 ∨ 256 ≤ D 1 8) ∧ some (vI (-1)) = r ∧ D = D2) ∨ ((1 ≤ D 1 7 ∧ D 1 8 < 256) ∧ some (vI (D 5 (D 1 7 - 1).toNat)) = r ∧ niD D x a b c = D2)) := by
  refine MC.mk [vR 1, vI x, vI a, vI b, vI c, vN] (by decide) (Nat.le_of_ble_eq_true rfl) rfl (fun X Q hX hF hok hol => ?_)
  have h7 := hI.1
  have h8 := hI.2.1
  refine w_aload_n (i := 0) hX dX0_newInstruction_0 rfl rfl rfl ?_
  refine w_getI (j := 7) hX cl0 fl_RX0_39_0 rfl (by decide) rfl dX0_newInstruction_1 rfl ?_
  refine w_iconst hX dX0_newInstruction_4 rfl (by decide) ?_
  refine w_isub hX dX0_newInstruction_5 rfl (by omega) ?_
  refine w_istore hX dX0_newInstruction_6 rfl (by decide) ?_
  dsimp only [st1X, st2X, klX_I, klX_L, klX_R, klX_S, klX_N]
  refine w_iload hX dX0_newInstruction_8 rfl rfl ?_
  refine w_if_lt (tgt := 23) hX dX0_newInstruction_10 rfl (by decide) (fun h10 => ?_) (fun h10 => ?_)
  · refine w_iconst hX dX0_newInstruction_23 rfl (by decide) ?_
    exact e_i hX hF dX0_newInstruction_24 (Or.inl ⟨by omega, rfl, rfl⟩)
  · refine w_aload_n (i := 0) hX dX0_newInstruction_13 rfl rfl rfl ?_
    refine w_getI (j := 8) hX cl0 fl_RX0_42_0 rfl (by decide) rfl dX0_newInstruction_14 rfl ?_
    refine w_sipush hX dX0_newInstruction_17 rfl (by decide) ?_
    refine w_icmp_lt (tgt := 25) hX dX0_newInstruction_20 rfl (by decide) (fun h20 => ?_) (fun h20 => ?_)
    · have hu := hI.u (u := D 1 7 - 1) (by omega) (by omega)
      have hi : isIns (8 + (D 1 8).toNat) := Or.inr (by omega)
      obtain ⟨k, hk⟩ : ∃ k, k = 8 + (D 1 8).toNat := ⟨_, rfl⟩
      refine w_aload_n (i := 0) hX dX0_newInstruction_25 rfl rfl rfl ?_
      refine w_getR (j := 0) hX cl0 fl_RX0_11_0 rfl (by decide) rfl rfl dX0_newInstruction_26 rfl ?_
      refine w_aload_n (i := 0) hX dX0_newInstruction_29 rfl rfl rfl ?_
      refine w_getI (j := 8) hX cl0 fl_RX0_42_0 rfl (by decide) rfl dX0_newInstruction_30 rfl ?_
      refine w_aald hX rfl (by omega) (by omega) (R0_row (by omega)) dX0_newInstruction_33 rfl ?_
      rw [← hk] at hi ⊢
      refine w_iload_n (i := 1) hX dX0_newInstruction_34 rfl rfl rfl ?_
      refine w_iload_n (i := 2) hX dX0_newInstruction_35 rfl rfl rfl ?_
      refine w_iload_n (i := 3) hX dX0_newInstruction_36 rfl rfl rfl ?_
      refine w_iload hX dX0_newInstruction_37 rfl rfl ?_
      refine c_V hX ml_RX0_45 cl2 dX0_newInstruction_39 rfl (m_become D k hi x a b c) rfl (K0_ins (by assumption)) rfl (by decide) (Nat.le_of_ble_eq_true rfl) ?_
      rintro _ _ ⟨rfl, rfl⟩ -
      all_goals try dsimp only [Option.toList, List.cons_append, List.nil_append]
      refine w_aload_n (i := 0) hX dX0_newInstruction_42 rfl rfl rfl ?_
      refine w_dup hX dX0_newInstruction_43 rfl rfl ?_
      refine w_getI (j := 8) hX cl0 fl_RX0_42_0 rfl (by decide) rfl dX0_newInstruction_44 rfl ?_
      try simp +decide only [upD_rd, ↓reduceIte]
      try simp only [show ¬ (1 : Nat) = k by omega, ↓reduceIte]
      refine w_iconst hX dX0_newInstruction_47 rfl (by decide) ?_
      refine w_iadd hX dX0_newInstruction_48 rfl (by omega) ?_
      refine w_putI (j := 8) hX cl0 fl_RX0_42_0 rfl (by decide) rfl rfl (Or.inl rfl) dX0_newInstruction_49 rfl ?_
      refine w_aload_n (i := 0) hX dX0_newInstruction_52 rfl rfl rfl ?_
      refine w_getR (j := 3) hX cl0 fl_RX0_26_0 rfl (by decide) rfl rfl dX0_newInstruction_53 rfl ?_
      refine w_iload hX dX0_newInstruction_56 rfl rfl ?_
      refine w_dup2 hX dX0_newInstruction_58 rfl rfl rfl ?_
      refine w_iald hX rfl (by omega) (by omega) dX0_newInstruction_59 rfl ?_
      try simp +decide only [upD_rd, ↓reduceIte]
      try simp only [show ¬ (5 : Nat) = k by omega, ↓reduceIte]
      refine w_iconst hX dX0_newInstruction_60 rfl (by decide) ?_
      refine w_iadd hX dX0_newInstruction_61 rfl (by omega) ?_
      refine w_iast hX rfl (by omega) (by omega) dX0_newInstruction_62 rfl ?_
      refine w_aload_n (i := 0) hX dX0_newInstruction_63 rfl rfl rfl ?_
      refine w_getR (j := 3) hX cl0 fl_RX0_26_0 rfl (by decide) rfl rfl dX0_newInstruction_64 rfl ?_
      refine w_iload hX dX0_newInstruction_67 rfl rfl ?_
      refine w_iald hX rfl (by omega) (by omega) dX0_newInstruction_69 rfl ?_
      try simp +decide only [upD_rd, ↓reduceIte]
      refine w_iconst hX dX0_newInstruction_70 rfl (by decide) ?_
      refine w_isub hX dX0_newInstruction_71 rfl (by omega) ?_
      exact e_i hX hF dX0_newInstruction_72 (Or.inr ⟨by omega, by rw [show D 5 (D 1 7 - 1).toNat + 1 - 1 = D 5 (D 1 7 - 1).toNat by omega], by rw [hk]; rfl⟩)
    · refine w_iconst hX dX0_newInstruction_23 rfl (by decide) ?_
      exact e_i hX hF dX0_newInstruction_24 (Or.inl ⟨by omega, rfl, rfl⟩)

noncomputable def fdD (D : Dd) (f u i : Int) : Dd := upD (upD (upD D 264 6 f) 264 7 u) 264 8 i
noncomputable def fgD (D : Dd) : Dd := fdD (upD D 264 5 0) 0 (-1) (-1)

set_option maxRecDepth 100000 in
set_option maxHeartbeats 4000000 in
theorem m_found (D : Dd) (f u i : Int) : MC 1 yX5_found cX5_found 4 (some .boolean) [vR 264, vI f, vI u, vI i] D (Is (some (vI (b2 (f ≠ 0)))) (fdD D f u i)) := by
  refine MC.mk [vR 264, vI f, vI u, vI i] (by decide) (Nat.le_of_ble_eq_true rfl) rfl (fun X Q hX hF hok hol => ?_)
  refine w_aload_n (i := 0) hX dX5_found_0 rfl rfl rfl ?_
  refine w_iload_n (i := 1) hX dX5_found_1 rfl rfl rfl ?_
  refine w_putI (j := 6) hX cl4 fl_RX5_75_4 rfl (by decide) rfl rfl (Or.inl rfl) dX5_found_2 rfl ?_
  refine w_aload_n (i := 0) hX dX5_found_5 rfl rfl rfl ?_
  refine w_iload_n (i := 2) hX dX5_found_6 rfl rfl rfl ?_
  refine w_putI (j := 7) hX cl4 fl_RX5_9_4 rfl (by decide) rfl rfl (Or.inl rfl) dX5_found_7 rfl ?_
  refine w_aload_n (i := 0) hX dX5_found_10 rfl rfl rfl ?_
  refine w_iload_n (i := 3) hX dX5_found_11 rfl rfl rfl ?_
  refine w_putI (j := 8) hX cl4 fl_RX5_15_4 rfl (by decide) rfl rfl (Or.inl rfl) dX5_found_12 rfl ?_
  refine w_iload_n (i := 1) hX dX5_found_15 rfl rfl rfl ?_
  refine w_if_eq (tgt := 23) hX dX5_found_16 rfl (by decide) (fun h16 => ?_) (fun h16 => ?_)
  · refine w_iconst hX dX5_found_23 rfl (by decide) ?_
    exact e_z hX hF dX5_found_24 (by decide) ⟨by first | rw [b2_t (by omega)] | rw [b2_f (by omega)], rfl⟩
  · refine w_iconst hX dX5_found_19 rfl (by decide) ?_
    refine w_goto (tgt := 24) hX dX5_found_20 (by decide) ?_
    exact e_z hX hF dX5_found_24 (by decide) ⟨by first | rw [b2_t (by omega)] | rw [b2_f (by omega)], rfl⟩

set_option maxRecDepth 100000 in
set_option maxHeartbeats 4000000 in
theorem m_forget (D : Dd) : MC 2 yX5_forget cX5_forget 1 none [vR 264] D (Is none (fgD D)) := by
  refine MC.mk [vR 264] (by decide) (Nat.le_of_ble_eq_true rfl) rfl (fun X Q hX hF hok hol => ?_)
  refine w_aload_n (i := 0) hX dX5_forget_0 rfl rfl rfl ?_
  refine w_iconst hX dX5_forget_1 rfl (by decide) ?_
  refine w_putI (j := 5) hX cl4 fl_RX5_52_4 rfl (by decide) rfl rfl (Or.inr ⟨rfl, (by omega)⟩) dX5_forget_2 rfl ?_
  refine w_aload_n (i := 0) hX dX5_forget_5 rfl rfl rfl ?_
  refine w_iconst hX dX5_forget_6 rfl (by decide) ?_
  refine w_iconst hX dX5_forget_7 rfl (by decide) ?_
  refine w_iconst hX dX5_forget_8 rfl (by decide) ?_
  refine c_V hX ml_RX5_56 cl4 dX5_forget_9 rfl (m_found _ 0 (-1) (-1)) rfl rfl rfl (by decide) (Nat.le_of_ble_eq_true rfl) ?_
  rintro _ _ ⟨rfl, rfl⟩ -
  all_goals try dsimp only [Option.toList, List.cons_append, List.nil_append]
  refine w_pop hX dX5_forget_12 rfl rfl ?_
  exact e_v hX hF dX5_forget_13 ⟨rfl, rfl⟩

set_option maxRecDepth 100000 in
set_option maxHeartbeats 4000000 in
theorem m_accepts (D : Dd) (u : Int) : MC 2 yX5_accepts cX5_accepts 2 (some .boolean) [vR 264, vI u] D (Is (some (vI (b2 (D 264 5 ≠ 0 ∧ 0 ≤ u ∧ u < D 1 7)))) D) := by
  refine MC.mk [vR 264, vI u] (by decide) (Nat.le_of_ble_eq_true rfl) rfl (fun X Q hX hF hok hol => ?_)
  refine w_aload_n (i := 0) hX dX5_accepts_0 rfl rfl rfl ?_
  refine w_getI (j := 5) hX cl4 fl_RX5_52_4 rfl (by decide) rfl dX5_accepts_1 rfl ?_
  refine w_if_eq (tgt := 22) hX dX5_accepts_4 rfl (by decide) (fun h4 => ?_) (fun h4 => ?_)
  · refine w_iconst hX dX5_accepts_22 rfl (by decide) ?_
    exact e_z hX hF dX5_accepts_23 (by decide) ⟨by first | rw [b2_t (by omega)] | rw [b2_f (by omega)], rfl⟩
  · refine w_aload_n (i := 0) hX dX5_accepts_7 rfl rfl rfl ?_
    refine w_getR (j := 0) hX cl4 fl_RX5_18_4 rfl (by decide) rfl rfl dX5_accepts_8 rfl ?_
    refine w_iload_n (i := 1) hX dX5_accepts_11 rfl rfl rfl ?_
    refine c_V hX ml_RX5_60 cl0 dX5_accepts_12 rfl (m_has D u) rfl rfl rfl (by decide) (Nat.le_of_ble_eq_true rfl) ?_
    rintro _ _ ⟨rfl, rfl⟩ -
    all_goals try dsimp only [Option.toList, List.cons_append, List.nil_append]
    refine w_if_eq (tgt := 22) hX dX5_accepts_15 rfl (by decide) (fun h15 => ?_) (fun h15 => ?_)
    · rw [b2_0] at h15
      refine w_iconst hX dX5_accepts_22 rfl (by decide) ?_
      exact e_z hX hF dX5_accepts_23 (by decide) ⟨by first | rw [b2_t (by omega)] | rw [b2_f (by omega)], rfl⟩
    · rw [b2_n] at h15
      refine w_iconst hX dX5_accepts_18 rfl (by decide) ?_
      refine w_goto (tgt := 23) hX dX5_accepts_19 (by decide) ?_
      exact e_z hX hF dX5_accepts_23 (by decide) ⟨by first | rw [b2_t (by omega)] | rw [b2_f (by omega)], rfl⟩

def gtF (D : Dd) (l : Nat) (u : Int) : Int := if 0 ≤ u ∧ u < 16 then D l u.toNat else 0

set_option maxRecDepth 100000 in
set_option maxHeartbeats 4000000 in
theorem m_stepsOf (D : Dd) (u : Int) : MC 1 yX8_stepsOf cX8_stepsOf 2 (some .int) [vR 271, vI u] D (Is (some (vI (gtF D 274 u))) D) := by
  refine MC.mk [vR 271, vI u] (by decide) (Nat.le_of_ble_eq_true rfl) rfl (fun X Q hX hF hok hol => ?_)
  refine w_iload_n (i := 1) hX dX8_stepsOf_0 rfl rfl rfl ?_
  refine w_if_lt (tgt := 19) hX dX8_stepsOf_1 rfl (by decide) (fun h1 => ?_) (fun h1 => ?_)
  · refine w_iconst hX dX8_stepsOf_19 rfl (by decide) ?_
    exact e_i hX hF dX8_stepsOf_20 ⟨by simp only [gtF]; first | rw [if_pos (by omega)] | rw [if_neg (by omega)], rfl⟩
  · refine w_iload_n (i := 1) hX dX8_stepsOf_4 rfl rfl rfl ?_
    refine w_bipush hX dX8_stepsOf_5 rfl (by decide) ?_
    refine w_icmp_ge (tgt := 19) hX dX8_stepsOf_7 rfl (by decide) (fun h7 => ?_) (fun h7 => ?_)
    · refine w_iconst hX dX8_stepsOf_19 rfl (by decide) ?_
      exact e_i hX hF dX8_stepsOf_20 ⟨by simp only [gtF]; first | rw [if_pos (by omega)] | rw [if_neg (by omega)], rfl⟩
    · refine w_aload_n (i := 0) hX dX8_stepsOf_10 rfl rfl rfl ?_
      refine w_getR (j := 3) hX cl7 fl_RX8_18_7 rfl (by decide) rfl rfl dX8_stepsOf_11 rfl ?_
      refine w_iload_n (i := 1) hX dX8_stepsOf_14 rfl rfl rfl ?_
      refine w_iald hX rfl (by omega) (by omega) dX8_stepsOf_15 rfl ?_
      refine w_goto (tgt := 20) hX dX8_stepsOf_16 (by decide) ?_
      exact e_i hX hF dX8_stepsOf_20 ⟨by simp only [gtF]; first | rw [if_pos (by omega)] | rw [if_neg (by omega)], rfl⟩

set_option maxRecDepth 100000 in
set_option maxHeartbeats 4000000 in
theorem m_deepestOf (D : Dd) (u : Int) : MC 1 yX6_deepestOf cX6_deepestOf 2 (some .int) [vR 268, vI u] D (Is (some (vI (gtF D 270 u))) D) := by
  refine MC.mk [vR 268, vI u] (by decide) (Nat.le_of_ble_eq_true rfl) rfl (fun X Q hX hF hok hol => ?_)
  refine w_iload_n (i := 1) hX dX6_deepestOf_0 rfl rfl rfl ?_
  refine w_if_lt (tgt := 19) hX dX6_deepestOf_1 rfl (by decide) (fun h1 => ?_) (fun h1 => ?_)
  · refine w_iconst hX dX6_deepestOf_19 rfl (by decide) ?_
    exact e_i hX hF dX6_deepestOf_20 ⟨by simp only [gtF]; first | rw [if_pos (by omega)] | rw [if_neg (by omega)], rfl⟩
  · refine w_iload_n (i := 1) hX dX6_deepestOf_4 rfl rfl rfl ?_
    refine w_bipush hX dX6_deepestOf_5 rfl (by decide) ?_
    refine w_icmp_ge (tgt := 19) hX dX6_deepestOf_7 rfl (by decide) (fun h7 => ?_) (fun h7 => ?_)
    · refine w_iconst hX dX6_deepestOf_19 rfl (by decide) ?_
      exact e_i hX hF dX6_deepestOf_20 ⟨by simp only [gtF]; first | rw [if_pos (by omega)] | rw [if_neg (by omega)], rfl⟩
    · refine w_aload_n (i := 0) hX dX6_deepestOf_10 rfl rfl rfl ?_
      refine w_getR (j := 2) hX cl5 fl_RX6_15_5 rfl (by decide) rfl rfl dX6_deepestOf_11 rfl ?_
      refine w_iload_n (i := 1) hX dX6_deepestOf_14 rfl rfl rfl ?_
      refine w_iald hX rfl (by omega) (by omega) dX6_deepestOf_15 rfl ?_
      refine w_goto (tgt := 20) hX dX6_deepestOf_16 (by decide) ?_
      exact e_i hX hF dX6_deepestOf_20 ⟨by simp only [gtF]; first | rw [if_pos (by omega)] | rw [if_neg (by omega)], rfl⟩

set_option maxRecDepth 100000 in
set_option maxHeartbeats 4000000 in
theorem f_begin (D : Dd) (t : Int) : MC 3 yX9_begin cX9_begin 2 (some .int) [vR 0, vI t] D (fun r D2 => ((t < 1 ∨ 4096 < t) ∧ some (vI (-1)) = r ∧ D = D2) ∨ ((1 ≤ t ∧ t ≤ 4096) ∧ some (vI t) = r ∧ fgD (upD (upD (upD D 1 6 t) 1 7 0) 1 8 0) = D2)) := by
  refine MC.mk [vR 0, vI t] (by decide) (Nat.le_of_ble_eq_true rfl) rfl (fun X Q hX hF hok hol => ?_)
  refine w_iload_n (i := 1) hX dX9_begin_0 rfl rfl rfl ?_
  refine w_iconst hX dX9_begin_1 rfl (by decide) ?_
  refine w_icmp_lt (tgt := 12) hX dX9_begin_2 rfl (by decide) (fun h2 => ?_) (fun h2 => ?_)
  · refine w_iconst hX dX9_begin_12 rfl (by decide) ?_
    exact e_i hX hF dX9_begin_13 (Or.inl ⟨by omega, rfl, rfl⟩)
  · refine w_iload_n (i := 1) hX dX9_begin_5 rfl rfl rfl ?_
    refine w_sipush hX dX9_begin_6 rfl (by decide) ?_
    refine w_icmp_le (tgt := 14) hX dX9_begin_9 rfl (by decide) (fun h9 => ?_) (fun h9 => ?_)
    · refine w_aload_n (i := 0) hX dX9_begin_14 rfl rfl rfl ?_
      refine w_getR (j := 0) hX cl8 fl_RX9_10_8 rfl (by decide) rfl rfl dX9_begin_15 rfl ?_
      refine w_iload_n (i := 1) hX dX9_begin_18 rfl rfl rfl ?_
      refine c_V hX ml_RX9_32 cl0 dX9_begin_19 rfl (m_clear D t) rfl rfl rfl (by decide) (Nat.le_of_ble_eq_true rfl) ?_
      rintro _ _ ⟨rfl, rfl⟩ -
      all_goals try dsimp only [Option.toList, List.cons_append, List.nil_append]
      refine w_aload_n (i := 0) hX dX9_begin_22 rfl rfl rfl ?_
      refine w_getR (j := 1) hX cl8 fl_RX9_21_8 rfl (by decide) rfl rfl dX9_begin_23 rfl ?_
      refine c_V hX ml_RX9_36 cl4 dX9_begin_26 rfl (m_forget _) rfl rfl rfl (by decide) (Nat.le_of_ble_eq_true rfl) ?_
      rintro _ _ ⟨rfl, rfl⟩ -
      all_goals try dsimp only [Option.toList, List.cons_append, List.nil_append]
      refine w_iload_n (i := 1) hX dX9_begin_29 rfl rfl rfl ?_
      exact e_i hX hF dX9_begin_30 (Or.inr ⟨by omega, rfl, rfl⟩)
    · refine w_iconst hX dX9_begin_12 rfl (by decide) ?_
      exact e_i hX hF dX9_begin_13 (Or.inl ⟨by omega, rfl, rfl⟩)

set_option maxRecDepth 100000 in
set_option maxHeartbeats 4000000 in
theorem f_count (D : Dd) (w : Int) : MC 3 yX9_count cX9_count 2 (some .int) [vR 0, vI w] D (Is (some (vI (if w = 0 then D 264 6 else if w = 1 then D 264 7 else if w = 2 then D 264 8 else if w = 3 then D 1 7 else if w = 4 then D 1 8 else -1))) D) := by
  refine MC.mk [vR 0, vI w] (by decide) (Nat.le_of_ble_eq_true rfl) rfl (fun X Q hX hF hok hol => ?_)
  refine w_iload_n (i := 1) hX dX9_count_0 rfl rfl rfl ?_
  refine w_nameI (fun sw1 hsw1 => ?_)
  by_cases g1_0 : sw1 = 0
  · refine w_tsw (tgt := 36) hX dX9_count_1 rfl (by rw [g1_0]; decide) ?_
    refine w_aload_n (i := 0) hX dX9_count_36 rfl rfl rfl ?_
    refine w_getR (j := 1) hX cl8 fl_RX9_21_8 rfl (by decide) rfl rfl dX9_count_37 rfl ?_
    refine w_getI (j := 6) hX cl4 fl_RX9_65_4 rfl (by decide) rfl dX9_count_40 rfl ?_
    exact e_i hX hF dX9_count_43 ⟨by subst hsw1; first | (subst g1_0; rfl) | (subst g1_1; rfl) | (subst g1_2; rfl) | (subst g1_3; rfl) | (subst g1_4; rfl) | (rw [if_neg g1_0, if_neg g1_1, if_neg g1_2, if_neg g1_3, if_neg g1_4]), rfl⟩
  by_cases g1_1 : sw1 = 1
  · refine w_tsw (tgt := 44) hX dX9_count_1 rfl (by rw [g1_1]; decide) ?_
    refine w_aload_n (i := 0) hX dX9_count_44 rfl rfl rfl ?_
    refine w_getR (j := 1) hX cl8 fl_RX9_21_8 rfl (by decide) rfl rfl dX9_count_45 rfl ?_
    refine w_getI (j := 7) hX cl4 fl_RX9_69_4 rfl (by decide) rfl dX9_count_48 rfl ?_
    exact e_i hX hF dX9_count_51 ⟨by subst hsw1; first | (subst g1_0; rfl) | (subst g1_1; rfl) | (subst g1_2; rfl) | (subst g1_3; rfl) | (subst g1_4; rfl) | (rw [if_neg g1_0, if_neg g1_1, if_neg g1_2, if_neg g1_3, if_neg g1_4]), rfl⟩
  by_cases g1_2 : sw1 = 2
  · refine w_tsw (tgt := 52) hX dX9_count_1 rfl (by rw [g1_2]; decide) ?_
    refine w_aload_n (i := 0) hX dX9_count_52 rfl rfl rfl ?_
    refine w_getR (j := 1) hX cl8 fl_RX9_21_8 rfl (by decide) rfl rfl dX9_count_53 rfl ?_
    refine w_getI (j := 8) hX cl4 fl_RX9_72_4 rfl (by decide) rfl dX9_count_56 rfl ?_
    exact e_i hX hF dX9_count_59 ⟨by subst hsw1; first | (subst g1_0; rfl) | (subst g1_1; rfl) | (subst g1_2; rfl) | (subst g1_3; rfl) | (subst g1_4; rfl) | (rw [if_neg g1_0, if_neg g1_1, if_neg g1_2, if_neg g1_3, if_neg g1_4]), rfl⟩
  by_cases g1_3 : sw1 = 3
  · refine w_tsw (tgt := 60) hX dX9_count_1 rfl (by rw [g1_3]; decide) ?_
    refine w_aload_n (i := 0) hX dX9_count_60 rfl rfl rfl ?_
    refine w_getR (j := 0) hX cl8 fl_RX9_10_8 rfl (by decide) rfl rfl dX9_count_61 rfl ?_
    refine w_getI (j := 7) hX cl0 fl_RX9_75_0 rfl (by decide) rfl dX9_count_64 rfl ?_
    exact e_i hX hF dX9_count_67 ⟨by subst hsw1; first | (subst g1_0; rfl) | (subst g1_1; rfl) | (subst g1_2; rfl) | (subst g1_3; rfl) | (subst g1_4; rfl) | (rw [if_neg g1_0, if_neg g1_1, if_neg g1_2, if_neg g1_3, if_neg g1_4]), rfl⟩
  by_cases g1_4 : sw1 = 4
  · refine w_tsw (tgt := 68) hX dX9_count_1 rfl (by rw [g1_4]; decide) ?_
    refine w_aload_n (i := 0) hX dX9_count_68 rfl rfl rfl ?_
    refine w_getR (j := 0) hX cl8 fl_RX9_10_8 rfl (by decide) rfl rfl dX9_count_69 rfl ?_
    refine w_getI (j := 8) hX cl0 fl_RX9_78_0 rfl (by decide) rfl dX9_count_72 rfl ?_
    exact e_i hX hF dX9_count_75 ⟨by subst hsw1; first | (subst g1_0; rfl) | (subst g1_1; rfl) | (subst g1_2; rfl) | (subst g1_3; rfl) | (subst g1_4; rfl) | (rw [if_neg g1_0, if_neg g1_1, if_neg g1_2, if_neg g1_3, if_neg g1_4]), rfl⟩
  refine w_tsw (tgt := 76) hX dX9_count_1 rfl (by rw [sw_dflt [0, 1, 2, 3, 4] (by decide) (by simp only [List.mem_cons, List.not_mem_nil, or_false]; omega)]; decide) ?_
  refine w_iconst hX dX9_count_76 rfl (by decide) ?_
  exact e_i hX hF dX9_count_77 ⟨by subst hsw1; first | (subst g1_0; rfl) | (subst g1_1; rfl) | (subst g1_2; rfl) | (subst g1_3; rfl) | (subst g1_4; rfl) | (rw [if_neg g1_0, if_neg g1_1, if_neg g1_2, if_neg g1_3, if_neg g1_4]), rfl⟩

set_option maxRecDepth 100000 in
set_option maxHeartbeats 4000000 in
theorem f_steps (D : Dd) (hI : InC D) (u : Int) : MC 3 yX9_steps cX9_steps 2 (some .int) [vR 0, vI u] D (Is (some (vI (itP (D 264 5 ≠ 0 ∧ 0 ≤ u ∧ u < D 1 7) (D 274 u.toNat) (-1)))) D) := by
  refine MC.mk [vR 0, vI u] (by decide) (Nat.le_of_ble_eq_true rfl) rfl (fun X Q hX hF hok hol => ?_)
  have h7 := hI.1
  refine w_aload_n (i := 0) hX dX9_steps_0 rfl rfl rfl ?_
  refine w_getR (j := 1) hX cl8 fl_RX9_21_8 rfl (by decide) rfl rfl dX9_steps_1 rfl ?_
  refine w_iload_n (i := 1) hX dX9_steps_4 rfl rfl rfl ?_
  refine c_V hX ml_RX9_81 cl4 dX9_steps_5 rfl (m_accepts D u) rfl rfl rfl (by decide) (Nat.le_of_ble_eq_true rfl) ?_
  rintro _ _ ⟨rfl, rfl⟩ -
  all_goals try dsimp only [Option.toList, List.cons_append, List.nil_append]
  refine w_if_eq (tgt := 25) hX dX9_steps_8 rfl (by decide) (fun h8 => ?_) (fun h8 => ?_)
  · rw [b2_0] at h8
    refine w_iconst hX dX9_steps_25 rfl (by decide) ?_
    exact e_i hX hF dX9_steps_26 ⟨by first | (rw [it_f h8]) | (rw [it_t h8, gtF, if_pos (by omega)]), rfl⟩
  · rw [b2_n] at h8
    refine w_aload_n (i := 0) hX dX9_steps_11 rfl rfl rfl ?_
    refine w_getR (j := 1) hX cl8 fl_RX9_21_8 rfl (by decide) rfl rfl dX9_steps_12 rfl ?_
    refine w_getR (j := 4) hX cl4 fl_RX9_85_4 rfl (by decide) rfl rfl dX9_steps_15 rfl ?_
    refine w_iload_n (i := 1) hX dX9_steps_18 rfl rfl rfl ?_
    refine c_V hX ml_RX9_89 cl7 dX9_steps_19 rfl (m_stepsOf D u) rfl rfl rfl (by decide) (Nat.le_of_ble_eq_true rfl) ?_
    rintro _ _ ⟨rfl, rfl⟩ -
    all_goals try dsimp only [Option.toList, List.cons_append, List.nil_append]
    refine w_goto (tgt := 26) hX dX9_steps_22 (by decide) ?_
    exact e_i hX hF dX9_steps_26 ⟨by first | (rw [it_f h8]) | (rw [it_t h8, gtF, if_pos (by omega)]), rfl⟩

set_option maxRecDepth 100000 in
set_option maxHeartbeats 4000000 in
theorem f_depth (D : Dd) (hI : InC D) (u : Int) : MC 3 yX9_depth cX9_depth 2 (some .int) [vR 0, vI u] D (Is (some (vI (itP (D 264 5 ≠ 0 ∧ 0 ≤ u ∧ u < D 1 7) (D 270 u.toNat) (-1)))) D) := by
  refine MC.mk [vR 0, vI u] (by decide) (Nat.le_of_ble_eq_true rfl) rfl (fun X Q hX hF hok hol => ?_)
  have h7 := hI.1
  refine w_aload_n (i := 0) hX dX9_depth_0 rfl rfl rfl ?_
  refine w_getR (j := 1) hX cl8 fl_RX9_21_8 rfl (by decide) rfl rfl dX9_depth_1 rfl ?_
  refine w_iload_n (i := 1) hX dX9_depth_4 rfl rfl rfl ?_
  refine c_V hX ml_RX9_81 cl4 dX9_depth_5 rfl (m_accepts D u) rfl rfl rfl (by decide) (Nat.le_of_ble_eq_true rfl) ?_
  rintro _ _ ⟨rfl, rfl⟩ -
  all_goals try dsimp only [Option.toList, List.cons_append, List.nil_append]
  refine w_if_eq (tgt := 25) hX dX9_depth_8 rfl (by decide) (fun h8 => ?_) (fun h8 => ?_)
  · rw [b2_0] at h8
    refine w_iconst hX dX9_depth_25 rfl (by decide) ?_
    exact e_i hX hF dX9_depth_26 ⟨by first | (rw [it_f h8]) | (rw [it_t h8, gtF, if_pos (by omega)]), rfl⟩
  · rw [b2_n] at h8
    refine w_aload_n (i := 0) hX dX9_depth_11 rfl rfl rfl ?_
    refine w_getR (j := 1) hX cl8 fl_RX9_21_8 rfl (by decide) rfl rfl dX9_depth_12 rfl ?_
    refine w_getR (j := 3) hX cl4 fl_RX9_94_4 rfl (by decide) rfl rfl dX9_depth_15 rfl ?_
    refine w_iload_n (i := 1) hX dX9_depth_18 rfl rfl rfl ?_
    refine c_V hX ml_RX9_98 cl5 dX9_depth_19 rfl (m_deepestOf D u) rfl rfl rfl (by decide) (Nat.le_of_ble_eq_true rfl) ?_
    rintro _ _ ⟨rfl, rfl⟩ -
    all_goals try dsimp only [Option.toList, List.cons_append, List.nil_append]
    refine w_goto (tgt := 26) hX dX9_depth_22 (by decide) ?_
    exact e_i hX hF dX9_depth_26 ⟨by first | (rw [it_f h8]) | (rw [it_t h8, gtF, if_pos (by omega)]), rfl⟩

set_option maxRecDepth 100000 in
set_option maxHeartbeats 4000000 in
theorem f_unit (D : Dd) (hI : InC D) (f p : Int) : MC 3 yX9_unit cX9_unit 5 (some .int) [vR 0, vI f, vI p] D (fun r D2 => ((f < 0 ∨ 4096 < f ∨ p < -1 ∨ 4096 ≤ p ∨ 16 ≤ D 1 7) ∧ some (vI (-1)) = r ∧ D = D2) ∨ ((0 ≤ f ∧ f ≤ 4096 ∧ -1 ≤ p ∧ p < 4096 ∧ D 1 7 < 16) ∧ some (vI (D 1 7)) = r ∧ fgD (nuD D f p) = D2)) := by
  refine MC.mk [vR 0, vI f, vI p, vN, vN] (by decide) (Nat.le_of_ble_eq_true rfl) rfl (fun X Q hX hF hok hol => ?_)
  have h7 := hI.1
  refine w_iload_n (i := 1) hX dX9_unit_0 rfl rfl rfl ?_
  refine w_if_lt (tgt := 27) hX dX9_unit_1 rfl (by decide) (fun h1 => ?_) (fun h1 => ?_)
  · refine w_iconst hX dX9_unit_27 rfl (by decide) ?_
    refine w_istore_n (i := 3) hX dX9_unit_28 rfl rfl (by decide) ?_
    dsimp only [st1X, st2X, klX_I, klX_L, klX_R, klX_S, klX_N]
    refine w_iload_n (i := 3) hX dX9_unit_29 rfl rfl rfl ?_
    refine w_if_eq (tgt := 45) hX dX9_unit_30 rfl (by decide) (fun _ => ?_) (fun h30 => absurd (by decide) h30)
    refine w_iconst hX dX9_unit_45 rfl (by decide) ?_
    refine w_istore hX dX9_unit_46 rfl (by decide) ?_
    dsimp only [st1X, st2X, klX_I, klX_L, klX_R, klX_S, klX_N]
    refine w_iload hX dX9_unit_48 rfl rfl ?_
    refine w_iconst hX dX9_unit_50 rfl (by decide) ?_
    refine w_icmp_eq (tgt := 61) hX dX9_unit_51 rfl (by decide) (fun _ => ?_) (fun h51 => absurd (by decide) h51)
    refine w_iload hX dX9_unit_61 rfl rfl ?_
    exact e_i hX hF dX9_unit_63 (by first | exact Or.inl ⟨by omega, rfl, rfl⟩ | exact Or.inr ⟨by omega, rfl, rfl⟩ | (exfalso; omega))
  · refine w_iload_n (i := 1) hX dX9_unit_4 rfl rfl rfl ?_
    refine w_sipush hX dX9_unit_5 rfl (by decide) ?_
    refine w_icmp_gt (tgt := 27) hX dX9_unit_8 rfl (by decide) (fun h8 => ?_) (fun h8 => ?_)
    · refine w_iconst hX dX9_unit_27 rfl (by decide) ?_
      refine w_istore_n (i := 3) hX dX9_unit_28 rfl rfl (by decide) ?_
      dsimp only [st1X, st2X, klX_I, klX_L, klX_R, klX_S, klX_N]
      refine w_iload_n (i := 3) hX dX9_unit_29 rfl rfl rfl ?_
      refine w_if_eq (tgt := 45) hX dX9_unit_30 rfl (by decide) (fun _ => ?_) (fun h30 => absurd (by decide) h30)
      refine w_iconst hX dX9_unit_45 rfl (by decide) ?_
      refine w_istore hX dX9_unit_46 rfl (by decide) ?_
      dsimp only [st1X, st2X, klX_I, klX_L, klX_R, klX_S, klX_N]
      refine w_iload hX dX9_unit_48 rfl rfl ?_
      refine w_iconst hX dX9_unit_50 rfl (by decide) ?_
      refine w_icmp_eq (tgt := 61) hX dX9_unit_51 rfl (by decide) (fun _ => ?_) (fun h51 => absurd (by decide) h51)
      refine w_iload hX dX9_unit_61 rfl rfl ?_
      exact e_i hX hF dX9_unit_63 (by first | exact Or.inl ⟨by omega, rfl, rfl⟩ | exact Or.inr ⟨by omega, rfl, rfl⟩ | (exfalso; omega))
    · refine w_iload_n (i := 2) hX dX9_unit_11 rfl rfl rfl ?_
      refine w_iconst hX dX9_unit_12 rfl (by decide) ?_
      refine w_icmp_lt (tgt := 27) hX dX9_unit_13 rfl (by decide) (fun h13 => ?_) (fun h13 => ?_)
      · refine w_iconst hX dX9_unit_27 rfl (by decide) ?_
        refine w_istore_n (i := 3) hX dX9_unit_28 rfl rfl (by decide) ?_
        dsimp only [st1X, st2X, klX_I, klX_L, klX_R, klX_S, klX_N]
        refine w_iload_n (i := 3) hX dX9_unit_29 rfl rfl rfl ?_
        refine w_if_eq (tgt := 45) hX dX9_unit_30 rfl (by decide) (fun _ => ?_) (fun h30 => absurd (by decide) h30)
        refine w_iconst hX dX9_unit_45 rfl (by decide) ?_
        refine w_istore hX dX9_unit_46 rfl (by decide) ?_
        dsimp only [st1X, st2X, klX_I, klX_L, klX_R, klX_S, klX_N]
        refine w_iload hX dX9_unit_48 rfl rfl ?_
        refine w_iconst hX dX9_unit_50 rfl (by decide) ?_
        refine w_icmp_eq (tgt := 61) hX dX9_unit_51 rfl (by decide) (fun _ => ?_) (fun h51 => absurd (by decide) h51)
        refine w_iload hX dX9_unit_61 rfl rfl ?_
        exact e_i hX hF dX9_unit_63 (by first | exact Or.inl ⟨by omega, rfl, rfl⟩ | exact Or.inr ⟨by omega, rfl, rfl⟩ | (exfalso; omega))
      · refine w_iload_n (i := 2) hX dX9_unit_16 rfl rfl rfl ?_
        refine w_sipush hX dX9_unit_17 rfl (by decide) ?_
        refine w_icmp_ge (tgt := 27) hX dX9_unit_20 rfl (by decide) (fun h20 => ?_) (fun h20 => ?_)
        · refine w_iconst hX dX9_unit_27 rfl (by decide) ?_
          refine w_istore_n (i := 3) hX dX9_unit_28 rfl rfl (by decide) ?_
          dsimp only [st1X, st2X, klX_I, klX_L, klX_R, klX_S, klX_N]
          refine w_iload_n (i := 3) hX dX9_unit_29 rfl rfl rfl ?_
          refine w_if_eq (tgt := 45) hX dX9_unit_30 rfl (by decide) (fun _ => ?_) (fun h30 => absurd (by decide) h30)
          refine w_iconst hX dX9_unit_45 rfl (by decide) ?_
          refine w_istore hX dX9_unit_46 rfl (by decide) ?_
          dsimp only [st1X, st2X, klX_I, klX_L, klX_R, klX_S, klX_N]
          refine w_iload hX dX9_unit_48 rfl rfl ?_
          refine w_iconst hX dX9_unit_50 rfl (by decide) ?_
          refine w_icmp_eq (tgt := 61) hX dX9_unit_51 rfl (by decide) (fun _ => ?_) (fun h51 => absurd (by decide) h51)
          refine w_iload hX dX9_unit_61 rfl rfl ?_
          exact e_i hX hF dX9_unit_63 (by first | exact Or.inl ⟨by omega, rfl, rfl⟩ | exact Or.inr ⟨by omega, rfl, rfl⟩ | (exfalso; omega))
        · refine w_iconst hX dX9_unit_23 rfl (by decide) ?_
          refine w_goto (tgt := 28) hX dX9_unit_24 (by decide) ?_
          refine w_istore_n (i := 3) hX dX9_unit_28 rfl rfl (by decide) ?_
          dsimp only [st1X, st2X, klX_I, klX_L, klX_R, klX_S, klX_N]
          refine w_iload_n (i := 3) hX dX9_unit_29 rfl rfl rfl ?_
          refine w_if_eq (tgt := 45) hX dX9_unit_30 rfl (by decide) (fun h30 => absurd h30 (by decide)) (fun _ => ?_)
          refine w_aload_n (i := 0) hX dX9_unit_33 rfl rfl rfl ?_
          refine w_getR (j := 0) hX cl8 fl_RX9_10_8 rfl (by decide) rfl rfl dX9_unit_34 rfl ?_
          refine w_iload_n (i := 1) hX dX9_unit_37 rfl rfl rfl ?_
          refine w_iload_n (i := 2) hX dX9_unit_38 rfl rfl rfl ?_
          refine c_V hX ml_RX9_39 cl0 dX9_unit_39 rfl (m_newUnit D hI f p) rfl rfl rfl (by decide) (Nat.le_of_ble_eq_true rfl) ?_
          rintro r D2 hr -
          rcases hr with ⟨ha, rfl, rfl⟩ | ⟨ha, rfl, rfl⟩
          all_goals try dsimp only [Option.toList, List.cons_append, List.nil_append]
          · refine w_goto (tgt := 46) hX dX9_unit_42 (by decide) ?_
            refine w_istore hX dX9_unit_46 rfl (by decide) ?_
            dsimp only [st1X, st2X, klX_I, klX_L, klX_R, klX_S, klX_N]
            refine w_iload hX dX9_unit_48 rfl rfl ?_
            refine w_iconst hX dX9_unit_50 rfl (by decide) ?_
            refine w_icmp_eq (tgt := 61) hX dX9_unit_51 rfl (by decide) (fun h51 => ?_) (fun h51 => ?_)
            · refine w_iload hX dX9_unit_61 rfl rfl ?_
              exact e_i hX hF dX9_unit_63 (by first | exact Or.inl ⟨by omega, rfl, rfl⟩ | exact Or.inr ⟨by omega, rfl, rfl⟩ | (exfalso; omega))
            · refine w_aload_n (i := 0) hX dX9_unit_54 rfl rfl rfl ?_
              refine w_getR (j := 1) hX cl8 fl_RX9_21_8 rfl (by decide) rfl rfl dX9_unit_55 rfl ?_
              refine c_V hX ml_RX9_36 cl4 dX9_unit_58 rfl (m_forget _) rfl rfl rfl (by decide) (Nat.le_of_ble_eq_true rfl) ?_
              rintro _ _ ⟨rfl, rfl⟩ -
              all_goals try dsimp only [Option.toList, List.cons_append, List.nil_append]
              refine w_iload hX dX9_unit_61 rfl rfl ?_
              exact e_i hX hF dX9_unit_63 (by first | exact Or.inl ⟨by omega, rfl, rfl⟩ | exact Or.inr ⟨by omega, rfl, rfl⟩ | (exfalso; omega))
          · refine w_goto (tgt := 46) hX dX9_unit_42 (by decide) ?_
            refine w_istore hX dX9_unit_46 rfl (by decide) ?_
            dsimp only [st1X, st2X, klX_I, klX_L, klX_R, klX_S, klX_N]
            refine w_iload hX dX9_unit_48 rfl rfl ?_
            refine w_iconst hX dX9_unit_50 rfl (by decide) ?_
            refine w_icmp_eq (tgt := 61) hX dX9_unit_51 rfl (by decide) (fun h51 => ?_) (fun h51 => ?_)
            · refine w_iload hX dX9_unit_61 rfl rfl ?_
              exact e_i hX hF dX9_unit_63 (by first | exact Or.inl ⟨by omega, rfl, rfl⟩ | exact Or.inr ⟨by omega, rfl, rfl⟩ | (exfalso; omega))
            · refine w_aload_n (i := 0) hX dX9_unit_54 rfl rfl rfl ?_
              refine w_getR (j := 1) hX cl8 fl_RX9_21_8 rfl (by decide) rfl rfl dX9_unit_55 rfl ?_
              refine c_V hX ml_RX9_36 cl4 dX9_unit_58 rfl (m_forget _) rfl rfl rfl (by decide) (Nat.le_of_ble_eq_true rfl) ?_
              rintro _ _ ⟨rfl, rfl⟩ -
              all_goals try dsimp only [Option.toList, List.cons_append, List.nil_append]
              refine w_iload hX dX9_unit_61 rfl rfl ?_
              exact e_i hX hF dX9_unit_63 (by first | exact Or.inl ⟨by omega, rfl, rfl⟩ | exact Or.inr ⟨by omega, rfl, rfl⟩ | (exfalso; omega))

set_option maxRecDepth 100000 in
set_option maxHeartbeats 4000000 in
theorem f_add (D : Dd) (hI : InC D) (x a b c : Int) : MC 3 yX9_add cX9_add 6 (some .int) [vR 0, vI x, vI a, vI b, vI c] D (fun r D2 => ((D 1 7 < 1 ∨ 256 ≤ D 1 8) ∧ some (vI (-1)) = r ∧ D = D2) ∨ ((1 ≤ D 1 7 ∧ D 1 8 < 256) ∧ some (vI (D 5 (D 1 7 - 1).toNat)) = r ∧ fgD (niD D x a b c) = D2)) := by
  refine MC.mk [vR 0, vI x, vI a, vI b, vI c, vN] (by decide) (Nat.le_of_ble_eq_true rfl) rfl (fun X Q hX hF hok hol => ?_)
  have h7 := hI.1
  have h8 := hI.2.1
  refine w_aload_n (i := 0) hX dX9_add_0 rfl rfl rfl ?_
  refine w_getR (j := 0) hX cl8 fl_RX9_10_8 rfl (by decide) rfl rfl dX9_add_1 rfl ?_
  refine w_iload_n (i := 1) hX dX9_add_4 rfl rfl rfl ?_
  refine w_iload_n (i := 2) hX dX9_add_5 rfl rfl rfl ?_
  refine w_iload_n (i := 3) hX dX9_add_6 rfl rfl rfl ?_
  refine w_iload hX dX9_add_7 rfl rfl ?_
  refine c_V hX ml_RX9_43 cl0 dX9_add_9 rfl (m_newInstruction D hI x a b c) rfl rfl rfl (by decide) (Nat.le_of_ble_eq_true rfl) ?_
  rintro r D2 hr -
  rcases hr with ⟨ha, rfl, rfl⟩ | ⟨ha, rfl, rfl⟩
  all_goals try dsimp only [Option.toList, List.cons_append, List.nil_append]
  · refine w_istore hX dX9_add_12 rfl (by decide) ?_
    dsimp only [st1X, st2X, klX_I, klX_L, klX_R, klX_S, klX_N]
    refine w_iload hX dX9_add_14 rfl rfl ?_
    refine w_iconst hX dX9_add_16 rfl (by decide) ?_
    refine w_icmp_eq (tgt := 27) hX dX9_add_17 rfl (by decide) (fun h17 => ?_) (fun h17 => ?_)
    · refine w_iload hX dX9_add_27 rfl rfl ?_
      exact e_i hX hF dX9_add_29 (by first | exact Or.inl ⟨by omega, rfl, rfl⟩ | exact Or.inr ⟨by omega, rfl, rfl⟩ | (exfalso; omega))
    · refine w_aload_n (i := 0) hX dX9_add_20 rfl rfl rfl ?_
      refine w_getR (j := 1) hX cl8 fl_RX9_21_8 rfl (by decide) rfl rfl dX9_add_21 rfl ?_
      refine c_V hX ml_RX9_36 cl4 dX9_add_24 rfl (m_forget _) rfl rfl rfl (by decide) (Nat.le_of_ble_eq_true rfl) ?_
      rintro _ _ ⟨rfl, rfl⟩ -
      all_goals try dsimp only [Option.toList, List.cons_append, List.nil_append]
      refine w_iload hX dX9_add_27 rfl rfl ?_
      exact e_i hX hF dX9_add_29 (by first | exact Or.inl ⟨by omega, rfl, rfl⟩ | exact Or.inr ⟨by omega, rfl, rfl⟩ | (exfalso; omega))
  · have hu := hI.u (u := D 1 7 - 1) (by omega) (by omega)
    refine w_istore hX dX9_add_12 rfl (by decide) ?_
    dsimp only [st1X, st2X, klX_I, klX_L, klX_R, klX_S, klX_N]
    refine w_iload hX dX9_add_14 rfl rfl ?_
    refine w_iconst hX dX9_add_16 rfl (by decide) ?_
    refine w_icmp_eq (tgt := 27) hX dX9_add_17 rfl (by decide) (fun h17 => ?_) (fun h17 => ?_)
    · refine w_iload hX dX9_add_27 rfl rfl ?_
      exact e_i hX hF dX9_add_29 (by first | exact Or.inl ⟨by omega, rfl, rfl⟩ | exact Or.inr ⟨by omega, rfl, rfl⟩ | (exfalso; omega))
    · refine w_aload_n (i := 0) hX dX9_add_20 rfl rfl rfl ?_
      refine w_getR (j := 1) hX cl8 fl_RX9_21_8 rfl (by decide) rfl rfl dX9_add_21 rfl ?_
      refine c_V hX ml_RX9_36 cl4 dX9_add_24 rfl (m_forget _) rfl rfl rfl (by decide) (Nat.le_of_ble_eq_true rfl) ?_
      rintro _ _ ⟨rfl, rfl⟩ -
      all_goals try dsimp only [Option.toList, List.cons_append, List.nil_append]
      refine w_iload hX dX9_add_27 rfl rfl ?_
      exact e_i hX hF dX9_add_29 (by first | exact Or.inl ⟨by omega, rfl, rfl⟩ | exact Or.inr ⟨by omega, rfl, rfl⟩ | (exfalso; omega))

/-- the rows that only the proof's own numbers changed in -/
theorem at_fg (D : Dd) (u i : Int) : atF (fgD D) u i = atF D u i := by
  unfold atF fgD fdD
  simp +decide only [upD_rd, ↓reduceIte]
theorem in_fg {D : Dd} (h : InC D) : InC (fgD D) := by
  unfold InC fgD fdD at *
  simp +decide only [upD_rd, ↓reduceIte]
  exact h

set_option maxRecDepth 100000 in
set_option maxHeartbeats 4000000 in
theorem f_change (D : Dd) (hI : InC D) (u i x a b c : Int) : MC 3 yX9_change cX9_change 7 (some .int) [vR 0, vI u, vI i, vI x, vI a, vI b, vI c] D (fun r D2 => ((i < 0 ∨ szF D u ≤ i) ∧ some (vI (-1)) = r ∧ D = D2) ∨ ((0 ≤ i ∧ i < szF D u) ∧ some (vI 0) = r ∧ upD (upD (upD (upD (fgD D) (atF D u i) 0 x) (atF D u i) 1 a) (atF D u i) 2 b) (atF D u i) 3 c = D2)) := by
  refine MC.mk [vR 0, vI u, vI i, vI x, vI a, vI b, vI c] (by decide) (Nat.le_of_ble_eq_true rfl) rfl (fun X Q hX hF hok hol => ?_)
  refine w_iload_n (i := 2) hX dX9_change_0 rfl rfl rfl ?_
  refine w_if_lt (tgt := 16) hX dX9_change_1 rfl (by decide) (fun h1 => ?_) (fun h1 => ?_)
  · refine w_iconst hX dX9_change_16 rfl (by decide) ?_
    exact e_i hX hF dX9_change_17 (Or.inl ⟨by omega, rfl, rfl⟩)
  · refine w_iload_n (i := 2) hX dX9_change_4 rfl rfl rfl ?_
    refine w_aload_n (i := 0) hX dX9_change_5 rfl rfl rfl ?_
    refine w_getR (j := 0) hX cl8 fl_RX9_10_8 rfl (by decide) rfl rfl dX9_change_6 rfl ?_
    refine w_iload_n (i := 1) hX dX9_change_9 rfl rfl rfl ?_
    refine c_V hX ml_RX9_47 cl0 dX9_change_10 rfl (m_sizeOf D hI u) rfl rfl rfl (by decide) (Nat.le_of_ble_eq_true rfl) ?_
    rintro _ _ ⟨rfl, rfl⟩ -
    all_goals try dsimp only [Option.toList, List.cons_append, List.nil_append]
    refine w_icmp_lt (tgt := 18) hX dX9_change_13 rfl (by decide) (fun h13 => ?_) (fun h13 => ?_)
    · refine w_aload_n (i := 0) hX dX9_change_18 rfl rfl rfl ?_
      refine w_getR (j := 1) hX cl8 fl_RX9_21_8 rfl (by decide) rfl rfl dX9_change_19 rfl ?_
      refine c_V hX ml_RX9_36 cl4 dX9_change_22 rfl (m_forget D) rfl rfl rfl (by decide) (Nat.le_of_ble_eq_true rfl) ?_
      rintro _ _ ⟨rfl, rfl⟩ -
      all_goals try dsimp only [Option.toList, List.cons_append, List.nil_append]
      refine w_aload_n (i := 0) hX dX9_change_25 rfl rfl rfl ?_
      refine w_getR (j := 0) hX cl8 fl_RX9_10_8 rfl (by decide) rfl rfl dX9_change_26 rfl ?_
      refine w_iload_n (i := 1) hX dX9_change_29 rfl rfl rfl ?_
      refine w_iload_n (i := 2) hX dX9_change_30 rfl rfl rfl ?_
      refine c_V hX ml_RX9_51 cl0 dX9_change_31 rfl (m_at (fgD D) (in_fg hI) u i) rfl rfl rfl (by decide) (Nat.le_of_ble_eq_true rfl) ?_
      rintro _ _ ⟨rfl, rfl⟩ -
      rw [at_fg]
      all_goals try dsimp only [Option.toList, List.cons_append, List.nil_append]
      refine w_iload_n (i := 3) hX dX9_change_34 rfl rfl rfl ?_
      refine w_iload hX dX9_change_35 rfl rfl ?_
      refine w_iload hX dX9_change_37 rfl rfl ?_
      refine w_iload hX dX9_change_39 rfl rfl ?_
      refine c_V hX ml_RX9_55 cl2 dX9_change_41 rfl (m_become (fgD D) (atF D u i) (at_ins hI u i) x a b c) rfl (K0_ins (at_ins hI u i)) rfl (by decide) (Nat.le_of_ble_eq_true rfl) ?_
      rintro _ _ ⟨rfl, rfl⟩ -
      all_goals try dsimp only [Option.toList, List.cons_append, List.nil_append]
      refine w_iconst hX dX9_change_44 rfl (by decide) ?_
      exact e_i hX hF dX9_change_45 (Or.inr ⟨by omega, rfl, rfl⟩)
    · refine w_iconst hX dX9_change_16 rfl (by decide) ?_
      exact e_i hX hF dX9_change_17 (Or.inl ⟨by omega, rfl, rfl⟩)
