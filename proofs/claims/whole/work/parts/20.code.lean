/-! CONTRACTS of Code and Instruction -/
/-- the ranges of the class's own numbers -/
def InC (D : Dd) : Prop := (0 ≤ D 1 7 ∧ D 1 7 ≤ 16) ∧ (0 ≤ D 1 8 ∧ D 1 8 ≤ 256) ∧ ∀ u : Nat, (u : Int) < D 1 7 → 0 ≤ D 4 u ∧ 0 ≤ D 5 u ∧ D 4 u + D 5 u ≤ D 1 8
theorem InC.u {D : Dd} (h : InC D) {u : Int} (h0 : 0 ≤ u) (h1 : u < D 1 7) : 0 ≤ D 4 u.toNat ∧ 0 ≤ D 5 u.toNat ∧ D 4 u.toNat + D 5 u.toNat ≤ D 1 8 := h.2.2 u.toNat (by omega)
def szF (D : Dd) (u : Int) : Int := if 0 ≤ u ∧ u < D 1 7 then D 5 u.toNat else 0
def frF (D : Dd) (u : Int) : Int := if 0 ≤ u ∧ u < D 1 7 then D 6 u.toNat else 0
def plF (D : Dd) (u : Int) : Int := if 0 ≤ u ∧ u < D 1 7 then D 7 u.toNat else -1
def rowF (D : Dd) (u i : Int) : Int := if 0 ≤ u ∧ u < D 1 7 ∧ 0 ≤ i ∧ i < D 5 u.toNat then D 4 u.toNat + i else -1
def atF (D : Dd) (u i : Int) : Nat := if 0 ≤ u ∧ u < D 1 7 ∧ 0 ≤ i ∧ i < D 5 u.toNat then 8 + (D 4 u.toNat + i).toNat else 3
theorem at_ins {D : Dd} (hI : InC D) (u i : Int) : isIns (atF D u i) := by
  unfold atF
  split
  · rename_i h
    have := hI.u h.1 h.2.1
    have := hI.2.1
    exact Or.inr (by omega)
  · exact Or.inl rfl
theorem R0_row {j : Nat} (h : j < 256) : R0 2 j = some (8 + j) := by
  show (if j < 256 then some (8 + j) else none) = _
  rw [if_pos h]

set_option maxRecDepth 100000 in
set_option maxHeartbeats 4000000 in
theorem m_sizeOf (D : Dd) (hI : InC D) (u : Int) : MC 1 yX0_sizeOf cX0_sizeOf 2 (some .int) [vR 1, vI u] D (Is (some (vI (szF D u))) D) := by
  refine MC.mk [vR 1, vI u] (by decide) (Nat.le_of_ble_eq_true rfl) rfl (fun X Q hX hF hok hol => ?_)
  have h7 := hI.1
  refine w_iload_n (i := 1) hX dX0_sizeOf_0 rfl rfl rfl ?_
  refine w_if_lt (tgt := 21) hX dX0_sizeOf_1 rfl (by decide) (fun h1 => ?_) (fun h1 => ?_)
  · refine w_iconst hX dX0_sizeOf_21 rfl (by decide) ?_
    exact e_i hX hF dX0_sizeOf_22 ⟨by simp only [szF]; first | rw [if_pos (by omega)] | rw [if_neg (by omega)], rfl⟩
  · refine w_iload_n (i := 1) hX dX0_sizeOf_4 rfl rfl rfl ?_
    refine w_aload_n (i := 0) hX dX0_sizeOf_5 rfl rfl rfl ?_
    refine w_getI (j := 7) hX cl0 fl_RX0_39_0 rfl (by decide) rfl dX0_sizeOf_6 rfl ?_
    refine w_icmp_ge (tgt := 21) hX dX0_sizeOf_9 rfl (by decide) (fun h9 => ?_) (fun h9 => ?_)
    · refine w_iconst hX dX0_sizeOf_21 rfl (by decide) ?_
      exact e_i hX hF dX0_sizeOf_22 ⟨by simp only [szF]; first | rw [if_pos (by omega)] | rw [if_neg (by omega)], rfl⟩
    · refine w_aload_n (i := 0) hX dX0_sizeOf_12 rfl rfl rfl ?_
      refine w_getR (j := 3) hX cl0 fl_RX0_26_0 rfl (by decide) rfl rfl dX0_sizeOf_13 rfl ?_
      refine w_iload_n (i := 1) hX dX0_sizeOf_16 rfl rfl rfl ?_
      refine w_iald hX rfl (by omega) (by omega) dX0_sizeOf_17 rfl ?_
      refine w_goto (tgt := 22) hX dX0_sizeOf_18 (by decide) ?_
      exact e_i hX hF dX0_sizeOf_22 ⟨by simp only [szF]; first | rw [if_pos (by omega)] | rw [if_neg (by omega)], rfl⟩

set_option maxRecDepth 100000 in
set_option maxHeartbeats 4000000 in
theorem m_frameOf (D : Dd) (hI : InC D) (u : Int) : MC 1 yX0_frameOf cX0_frameOf 2 (some .int) [vR 1, vI u] D (Is (some (vI (frF D u))) D) := by
  refine MC.mk [vR 1, vI u] (by decide) (Nat.le_of_ble_eq_true rfl) rfl (fun X Q hX hF hok hol => ?_)
  have h7 := hI.1
  refine w_iload_n (i := 1) hX dX0_frameOf_0 rfl rfl rfl ?_
  refine w_if_lt (tgt := 21) hX dX0_frameOf_1 rfl (by decide) (fun h1 => ?_) (fun h1 => ?_)
  · refine w_iconst hX dX0_frameOf_21 rfl (by decide) ?_
    exact e_i hX hF dX0_frameOf_22 ⟨by simp only [frF]; first | rw [if_pos (by omega)] | rw [if_neg (by omega)], rfl⟩
  · refine w_iload_n (i := 1) hX dX0_frameOf_4 rfl rfl rfl ?_
    refine w_aload_n (i := 0) hX dX0_frameOf_5 rfl rfl rfl ?_
    refine w_getI (j := 7) hX cl0 fl_RX0_39_0 rfl (by decide) rfl dX0_frameOf_6 rfl ?_
    refine w_icmp_ge (tgt := 21) hX dX0_frameOf_9 rfl (by decide) (fun h9 => ?_) (fun h9 => ?_)
    · refine w_iconst hX dX0_frameOf_21 rfl (by decide) ?_
      exact e_i hX hF dX0_frameOf_22 ⟨by simp only [frF]; first | rw [if_pos (by omega)] | rw [if_neg (by omega)], rfl⟩
    · refine w_aload_n (i := 0) hX dX0_frameOf_12 rfl rfl rfl ?_
      refine w_getR (j := 4) hX cl0 fl_RX0_29_0 rfl (by decide) rfl rfl dX0_frameOf_13 rfl ?_
      refine w_iload_n (i := 1) hX dX0_frameOf_16 rfl rfl rfl ?_
      refine w_iald hX rfl (by omega) (by omega) dX0_frameOf_17 rfl ?_
      refine w_goto (tgt := 22) hX dX0_frameOf_18 (by decide) ?_
      exact e_i hX hF dX0_frameOf_22 ⟨by simp only [frF]; first | rw [if_pos (by omega)] | rw [if_neg (by omega)], rfl⟩

set_option maxRecDepth 100000 in
set_option maxHeartbeats 4000000 in
theorem m_placeOf (D : Dd) (hI : InC D) (u : Int) : MC 1 yX0_placeOf cX0_placeOf 2 (some .int) [vR 1, vI u] D (Is (some (vI (plF D u))) D) := by
  refine MC.mk [vR 1, vI u] (by decide) (Nat.le_of_ble_eq_true rfl) rfl (fun X Q hX hF hok hol => ?_)
  have h7 := hI.1
  refine w_iload_n (i := 1) hX dX0_placeOf_0 rfl rfl rfl ?_
  refine w_if_lt (tgt := 21) hX dX0_placeOf_1 rfl (by decide) (fun h1 => ?_) (fun h1 => ?_)
  · refine w_iconst hX dX0_placeOf_21 rfl (by decide) ?_
    exact e_i hX hF dX0_placeOf_22 ⟨by simp only [plF]; first | rw [if_pos (by omega)] | rw [if_neg (by omega)], rfl⟩
  · refine w_iload_n (i := 1) hX dX0_placeOf_4 rfl rfl rfl ?_
    refine w_aload_n (i := 0) hX dX0_placeOf_5 rfl rfl rfl ?_
    refine w_getI (j := 7) hX cl0 fl_RX0_39_0 rfl (by decide) rfl dX0_placeOf_6 rfl ?_
    refine w_icmp_ge (tgt := 21) hX dX0_placeOf_9 rfl (by decide) (fun h9 => ?_) (fun h9 => ?_)
    · refine w_iconst hX dX0_placeOf_21 rfl (by decide) ?_
      exact e_i hX hF dX0_placeOf_22 ⟨by simp only [plF]; first | rw [if_pos (by omega)] | rw [if_neg (by omega)], rfl⟩
    · refine w_aload_n (i := 0) hX dX0_placeOf_12 rfl rfl rfl ?_
      refine w_getR (j := 5) hX cl0 fl_RX0_32_0 rfl (by decide) rfl rfl dX0_placeOf_13 rfl ?_
      refine w_iload_n (i := 1) hX dX0_placeOf_16 rfl rfl rfl ?_
      refine w_iald hX rfl (by omega) (by omega) dX0_placeOf_17 rfl ?_
      refine w_goto (tgt := 22) hX dX0_placeOf_18 (by decide) ?_
      exact e_i hX hF dX0_placeOf_22 ⟨by simp only [plF]; first | rw [if_pos (by omega)] | rw [if_neg (by omega)], rfl⟩

set_option maxRecDepth 100000 in
set_option maxHeartbeats 4000000 in
theorem m_has (D : Dd) (u : Int) : MC 1 yX0_has cX0_has 2 (some .boolean) [vR 1, vI u] D (Is (some (vI (b2 (0 ≤ u ∧ u < D 1 7)))) D) := by
  refine MC.mk [vR 1, vI u] (by decide) (Nat.le_of_ble_eq_true rfl) rfl (fun X Q hX hF hok hol => ?_)
  refine w_iload_n (i := 1) hX dX0_has_0 rfl rfl rfl ?_
  refine w_if_lt (tgt := 16) hX dX0_has_1 rfl (by decide) (fun h1 => ?_) (fun h1 => ?_)
  · refine w_iconst hX dX0_has_16 rfl (by decide) ?_
    exact e_z hX hF dX0_has_17 (by decide) ⟨by first | rw [b2_t (by omega)] | rw [b2_f (by omega)], rfl⟩
  · refine w_iload_n (i := 1) hX dX0_has_4 rfl rfl rfl ?_
    refine w_aload_n (i := 0) hX dX0_has_5 rfl rfl rfl ?_
    refine w_getI (j := 7) hX cl0 fl_RX0_39_0 rfl (by decide) rfl dX0_has_6 rfl ?_
    refine w_icmp_ge (tgt := 16) hX dX0_has_9 rfl (by decide) (fun h9 => ?_) (fun h9 => ?_)
    · refine w_iconst hX dX0_has_16 rfl (by decide) ?_
      exact e_z hX hF dX0_has_17 (by decide) ⟨by first | rw [b2_t (by omega)] | rw [b2_f (by omega)], rfl⟩
    · refine w_iconst hX dX0_has_12 rfl (by decide) ?_
      refine w_goto (tgt := 17) hX dX0_has_13 (by decide) ?_
      exact e_z hX hF dX0_has_17 (by decide) ⟨by first | rw [b2_t (by omega)] | rw [b2_f (by omega)], rfl⟩

set_option maxRecDepth 100000 in
set_option maxHeartbeats 4000000 in
theorem m_program (D : Dd) (hI : InC D) : MC 1 yX0_program cX0_program 1 (some .int) [vR 1] D (Is (some (vI (D 1 7 - 1))) D) := by
  refine MC.mk [vR 1] (by decide) (Nat.le_of_ble_eq_true rfl) rfl (fun X Q hX hF hok hol => ?_)
  have h7 := hI.1
  refine w_aload_n (i := 0) hX dX0_program_0 rfl rfl rfl ?_
  refine w_getI (j := 7) hX cl0 fl_RX0_39_0 rfl (by decide) rfl dX0_program_1 rfl ?_
  refine w_iconst hX dX0_program_4 rfl (by decide) ?_
  refine w_isub hX dX0_program_5 rfl (by omega) ?_
  exact e_i hX hF dX0_program_6 ⟨rfl, rfl⟩

set_option maxRecDepth 100000 in
set_option maxHeartbeats 4000000 in
theorem m_rowOf (D : Dd) (hI : InC D) (u i : Int) : MC 1 yX0_rowOf cX0_rowOf 3 (some .int) [vR 1, vI u, vI i] D (Is (some (vI (rowF D u i))) D) := by
  refine MC.mk [vR 1, vI u, vI i] (by decide) (Nat.le_of_ble_eq_true rfl) rfl (fun X Q hX hF hok hol => ?_)
  have h7 := hI.1
  have h8 := hI.2.1
  refine w_iload_n (i := 1) hX dX0_rowOf_0 rfl rfl rfl ?_
  refine w_if_lt (tgt := 26) hX dX0_rowOf_1 rfl (by decide) (fun h1 => ?_) (fun h1 => ?_)
  · refine w_iconst hX dX0_rowOf_26 rfl (by decide) ?_
    exact e_i hX hF dX0_rowOf_27 ⟨by simp only [rowF]; first | rw [if_pos (by omega)] | rw [if_neg (by omega)], rfl⟩
  · refine w_iload_n (i := 1) hX dX0_rowOf_4 rfl rfl rfl ?_
    refine w_aload_n (i := 0) hX dX0_rowOf_5 rfl rfl rfl ?_
    refine w_getI (j := 7) hX cl0 fl_RX0_39_0 rfl (by decide) rfl dX0_rowOf_6 rfl ?_
    refine w_icmp_ge (tgt := 26) hX dX0_rowOf_9 rfl (by decide) (fun h9 => ?_) (fun h9 => ?_)
    · refine w_iconst hX dX0_rowOf_26 rfl (by decide) ?_
      exact e_i hX hF dX0_rowOf_27 ⟨by simp only [rowF]; first | rw [if_pos (by omega)] | rw [if_neg (by omega)], rfl⟩
    · have hu := hI.u (by omega) (Int.not_le.mp h9)
      refine w_iload_n (i := 2) hX dX0_rowOf_12 rfl rfl rfl ?_
      refine w_if_lt (tgt := 26) hX dX0_rowOf_13 rfl (by decide) (fun h13 => ?_) (fun h13 => ?_)
      · refine w_iconst hX dX0_rowOf_26 rfl (by decide) ?_
        exact e_i hX hF dX0_rowOf_27 ⟨by simp only [rowF]; first | rw [if_pos (by omega)] | rw [if_neg (by omega)], rfl⟩
      · refine w_iload_n (i := 2) hX dX0_rowOf_16 rfl rfl rfl ?_
        refine w_aload_n (i := 0) hX dX0_rowOf_17 rfl rfl rfl ?_
        refine w_getR (j := 3) hX cl0 fl_RX0_26_0 rfl (by decide) rfl rfl dX0_rowOf_18 rfl ?_
        refine w_iload_n (i := 1) hX dX0_rowOf_21 rfl rfl rfl ?_
        refine w_iald hX rfl (by omega) (by omega) dX0_rowOf_22 rfl ?_
        refine w_icmp_lt (tgt := 28) hX dX0_rowOf_23 rfl (by decide) (fun h23 => ?_) (fun h23 => ?_)
        · refine w_aload_n (i := 0) hX dX0_rowOf_28 rfl rfl rfl ?_
          refine w_getR (j := 2) hX cl0 fl_RX0_22_0 rfl (by decide) rfl rfl dX0_rowOf_29 rfl ?_
          refine w_iload_n (i := 1) hX dX0_rowOf_32 rfl rfl rfl ?_
          refine w_iald hX rfl (by omega) (by omega) dX0_rowOf_33 rfl ?_
          refine w_iload_n (i := 2) hX dX0_rowOf_34 rfl rfl rfl ?_
          refine w_iadd hX dX0_rowOf_35 rfl (by omega) ?_
          exact e_i hX hF dX0_rowOf_36 ⟨by simp only [rowF]; first | rw [if_pos (by omega)] | rw [if_neg (by omega)], rfl⟩
        · refine w_iconst hX dX0_rowOf_26 rfl (by decide) ?_
          exact e_i hX hF dX0_rowOf_27 ⟨by simp only [rowF]; first | rw [if_pos (by omega)] | rw [if_neg (by omega)], rfl⟩

set_option maxRecDepth 100000 in
set_option maxHeartbeats 4000000 in
theorem m_at (D : Dd) (hI : InC D) (u i : Int) : MC 1 yX0_at cX0_at 3 (some (.object "CodeProof$Instruction")) [vR 1, vI u, vI i] D (Is (some (vR (atF D u i))) D) := by
  refine MC.mk [vR 1, vI u, vI i] (by decide) (Nat.le_of_ble_eq_true rfl) rfl (fun X Q hX hF hok hol => ?_)
  have h7 := hI.1
  have h8 := hI.2.1
  refine w_iload_n (i := 1) hX dX0_at_0 rfl rfl rfl ?_
  refine w_if_lt (tgt := 26) hX dX0_at_1 rfl (by decide) (fun h1 => ?_) (fun h1 => ?_)
  · refine w_aload_n (i := 0) hX dX0_at_26 rfl rfl rfl ?_
    refine w_getR (j := 1) hX cl0 fl_RX0_18_0 rfl (by decide) rfl rfl dX0_at_27 rfl ?_
    exact e_a hX hF dX0_at_30 ⟨by simp only [atF]; first | rw [if_pos (by omega)] | rw [if_neg (by omega)], rfl⟩
  · refine w_iload_n (i := 1) hX dX0_at_4 rfl rfl rfl ?_
    refine w_aload_n (i := 0) hX dX0_at_5 rfl rfl rfl ?_
    refine w_getI (j := 7) hX cl0 fl_RX0_39_0 rfl (by decide) rfl dX0_at_6 rfl ?_
    refine w_icmp_ge (tgt := 26) hX dX0_at_9 rfl (by decide) (fun h9 => ?_) (fun h9 => ?_)
    · refine w_aload_n (i := 0) hX dX0_at_26 rfl rfl rfl ?_
      refine w_getR (j := 1) hX cl0 fl_RX0_18_0 rfl (by decide) rfl rfl dX0_at_27 rfl ?_
      exact e_a hX hF dX0_at_30 ⟨by simp only [atF]; first | rw [if_pos (by omega)] | rw [if_neg (by omega)], rfl⟩
    · have hu := hI.u (by omega) (Int.not_le.mp h9)
      refine w_iload_n (i := 2) hX dX0_at_12 rfl rfl rfl ?_
      refine w_if_lt (tgt := 26) hX dX0_at_13 rfl (by decide) (fun h13 => ?_) (fun h13 => ?_)
      · refine w_aload_n (i := 0) hX dX0_at_26 rfl rfl rfl ?_
        refine w_getR (j := 1) hX cl0 fl_RX0_18_0 rfl (by decide) rfl rfl dX0_at_27 rfl ?_
        exact e_a hX hF dX0_at_30 ⟨by simp only [atF]; first | rw [if_pos (by omega)] | rw [if_neg (by omega)], rfl⟩
      · refine w_iload_n (i := 2) hX dX0_at_16 rfl rfl rfl ?_
        refine w_aload_n (i := 0) hX dX0_at_17 rfl rfl rfl ?_
        refine w_getR (j := 3) hX cl0 fl_RX0_26_0 rfl (by decide) rfl rfl dX0_at_18 rfl ?_
        refine w_iload_n (i := 1) hX dX0_at_21 rfl rfl rfl ?_
        refine w_iald hX rfl (by omega) (by omega) dX0_at_22 rfl ?_
        refine w_icmp_lt (tgt := 31) hX dX0_at_23 rfl (by decide) (fun h23 => ?_) (fun h23 => ?_)
        · refine w_aload_n (i := 0) hX dX0_at_31 rfl rfl rfl ?_
          refine w_getR (j := 0) hX cl0 fl_RX0_11_0 rfl (by decide) rfl rfl dX0_at_32 rfl ?_
          refine w_aload_n (i := 0) hX dX0_at_35 rfl rfl rfl ?_
          refine w_getR (j := 2) hX cl0 fl_RX0_22_0 rfl (by decide) rfl rfl dX0_at_36 rfl ?_
          refine w_iload_n (i := 1) hX dX0_at_39 rfl rfl rfl ?_
          refine w_iald hX rfl (by omega) (by omega) dX0_at_40 rfl ?_
          refine w_iload_n (i := 2) hX dX0_at_41 rfl rfl rfl ?_
          refine w_iadd hX dX0_at_42 rfl (by omega) ?_
          refine w_aald hX rfl (by omega) (by omega) (R0_row (by omega)) dX0_at_43 rfl ?_
          exact e_a hX hF dX0_at_44 ⟨by simp only [atF]; first | rw [if_pos (by omega)] | rw [if_neg (by omega)], rfl⟩
        · refine w_aload_n (i := 0) hX dX0_at_26 rfl rfl rfl ?_
          refine w_getR (j := 1) hX cl0 fl_RX0_18_0 rfl (by decide) rfl rfl dX0_at_27 rfl ?_
          exact e_a hX hF dX0_at_30 ⟨by simp only [atF]; first | rw [if_pos (by omega)] | rw [if_neg (by omega)], rfl⟩

set_option maxRecDepth 100000 in
set_option maxHeartbeats 4000000 in
theorem m_namesCounter (D : Dd) (k : Nat) (hk : isIns k) : MC 1 yX2_namesCounter cX2_namesCounter 1 (some .boolean) [vR k] D (Is (some (vI (b2 (D k 0 = 12 ∨ D k 0 = 13)))) D) := by
  refine MC.mk [vR k] (by decide) (Nat.le_of_ble_eq_true rfl) rfl (fun X Q hX hF hok hol => ?_)
  refine w_aload_n (i := 0) hX dX2_namesCounter_0 rfl rfl rfl ?_
  refine w_getI (j := 0) hX cl2 fl_RX2_9_2 (K0_ins (by assumption)) (by decide) rfl dX2_namesCounter_1 rfl ?_
  refine w_bipush hX dX2_namesCounter_4 rfl (by decide) ?_
  refine w_icmp_eq (tgt := 18) hX dX2_namesCounter_6 rfl (by decide) (fun h6 => ?_) (fun h6 => ?_)
  · refine w_iconst hX dX2_namesCounter_18 rfl (by decide) ?_
    refine w_goto (tgt := 23) hX dX2_namesCounter_19 (by decide) ?_
    exact e_z hX hF dX2_namesCounter_23 (by decide) ⟨by first | rw [b2_t (by omega)] | rw [b2_f (by omega)], rfl⟩
  · refine w_aload_n (i := 0) hX dX2_namesCounter_9 rfl rfl rfl ?_
    refine w_getI (j := 0) hX cl2 fl_RX2_9_2 (K0_ins (by assumption)) (by decide) rfl dX2_namesCounter_10 rfl ?_
    refine w_bipush hX dX2_namesCounter_13 rfl (by decide) ?_
    refine w_icmp_ne (tgt := 22) hX dX2_namesCounter_15 rfl (by decide) (fun h15 => ?_) (fun h15 => ?_)
    · refine w_iconst hX dX2_namesCounter_22 rfl (by decide) ?_
      exact e_z hX hF dX2_namesCounter_23 (by decide) ⟨by first | rw [b2_t (by omega)] | rw [b2_f (by omega)], rfl⟩
    · refine w_iconst hX dX2_namesCounter_18 rfl (by decide) ?_
      refine w_goto (tgt := 23) hX dX2_namesCounter_19 (by decide) ?_
      exact e_z hX hF dX2_namesCounter_23 (by decide) ⟨by first | rw [b2_t (by omega)] | rw [b2_f (by omega)], rfl⟩

set_option maxRecDepth 100000 in
set_option maxHeartbeats 4000000 in
theorem m_beginsUnit (D : Dd) (k : Nat) (hk : isIns k) : MC 1 yX2_beginsUnit cX2_beginsUnit 1 (some .boolean) [vR k] D (Is (some (vI (b2 (D k 0 = 15 ∨ D k 0 = 16)))) D) := by
  refine MC.mk [vR k] (by decide) (Nat.le_of_ble_eq_true rfl) rfl (fun X Q hX hF hok hol => ?_)
  refine w_aload_n (i := 0) hX dX2_beginsUnit_0 rfl rfl rfl ?_
  refine w_getI (j := 0) hX cl2 fl_RX2_9_2 (K0_ins (by assumption)) (by decide) rfl dX2_beginsUnit_1 rfl ?_
  refine w_bipush hX dX2_beginsUnit_4 rfl (by decide) ?_
  refine w_icmp_eq (tgt := 18) hX dX2_beginsUnit_6 rfl (by decide) (fun h6 => ?_) (fun h6 => ?_)
  · refine w_iconst hX dX2_beginsUnit_18 rfl (by decide) ?_
    refine w_goto (tgt := 23) hX dX2_beginsUnit_19 (by decide) ?_
    exact e_z hX hF dX2_beginsUnit_23 (by decide) ⟨by first | rw [b2_t (by omega)] | rw [b2_f (by omega)], rfl⟩
  · refine w_aload_n (i := 0) hX dX2_beginsUnit_9 rfl rfl rfl ?_
    refine w_getI (j := 0) hX cl2 fl_RX2_9_2 (K0_ins (by assumption)) (by decide) rfl dX2_beginsUnit_10 rfl ?_
    refine w_bipush hX dX2_beginsUnit_13 rfl (by decide) ?_
    refine w_icmp_ne (tgt := 22) hX dX2_beginsUnit_15 rfl (by decide) (fun h15 => ?_) (fun h15 => ?_)
    · refine w_iconst hX dX2_beginsUnit_22 rfl (by decide) ?_
      exact e_z hX hF dX2_beginsUnit_23 (by decide) ⟨by first | rw [b2_t (by omega)] | rw [b2_f (by omega)], rfl⟩
    · refine w_iconst hX dX2_beginsUnit_18 rfl (by decide) ?_
      refine w_goto (tgt := 23) hX dX2_beginsUnit_19 (by decide) ?_
      exact e_z hX hF dX2_beginsUnit_23 (by decide) ⟨by first | rw [b2_t (by omega)] | rw [b2_f (by omega)], rfl⟩

set_option maxRecDepth 100000 in
set_option maxHeartbeats 4000000 in
theorem m_become (D : Dd) (k : Nat) (hk : isIns k) (x a b c : Int) : MC 1 yX2_become cX2_become 5 none [vR k, vI x, vI a, vI b, vI c] D (Is none (upD (upD (upD (upD D k 0 x) k 1 a) k 2 b) k 3 c)) := by
  refine MC.mk [vR k, vI x, vI a, vI b, vI c] (by decide) (Nat.le_of_ble_eq_true rfl) rfl (fun X Q hX hF hok hol => ?_)
  refine w_aload_n (i := 0) hX dX2_become_0 rfl rfl rfl ?_
  refine w_iload_n (i := 1) hX dX2_become_1 rfl rfl rfl ?_
  refine w_putI (j := 0) hX cl2 fl_RX2_9_2 (K0_ins (by assumption)) (by decide) rfl rfl (Or.inl rfl) dX2_become_2 rfl ?_
  refine w_aload_n (i := 0) hX dX2_become_5 rfl rfl rfl ?_
  refine w_iload_n (i := 2) hX dX2_become_6 rfl rfl rfl ?_
  refine w_putI (j := 1) hX cl2 fl_RX2_15_2 (K0_ins (by assumption)) (by decide) rfl rfl (Or.inl rfl) dX2_become_7 rfl ?_
  refine w_aload_n (i := 0) hX dX2_become_10 rfl rfl rfl ?_
  refine w_iload_n (i := 3) hX dX2_become_11 rfl rfl rfl ?_
  refine w_putI (j := 2) hX cl2 fl_RX2_18_2 (K0_ins (by assumption)) (by decide) rfl rfl (Or.inl rfl) dX2_become_12 rfl ?_
  refine w_aload_n (i := 0) hX dX2_become_15 rfl rfl rfl ?_
  refine w_iload hX dX2_become_16 rfl rfl ?_
  refine w_putI (j := 3) hX cl2 fl_RX2_21_2 (K0_ins (by assumption)) (by decide) rfl rfl (Or.inl rfl) dX2_become_18 rfl ?_
  exact e_v hX hF dX2_become_21 ⟨rfl, rfl⟩

set_option maxRecDepth 100000 in
set_option maxHeartbeats 4000000 in
theorem m_clear (D : Dd) (x : Int) : MC 1 yX0_clear cX0_clear 2 none [vR 1, vI x] D (Is none (upD (upD (upD D 1 6 x) 1 7 0) 1 8 0)) := by
  refine MC.mk [vR 1, vI x] (by decide) (Nat.le_of_ble_eq_true rfl) rfl (fun X Q hX hF hok hol => ?_)
  refine w_aload_n (i := 0) hX dX0_clear_0 rfl rfl rfl ?_
  refine w_iload_n (i := 1) hX dX0_clear_1 rfl rfl rfl ?_
  refine w_putI (j := 6) hX cl0 fl_RX0_35_0 rfl (by decide) rfl rfl (Or.inl rfl) dX0_clear_2 rfl ?_
  refine w_aload_n (i := 0) hX dX0_clear_5 rfl rfl rfl ?_
  refine w_iconst hX dX0_clear_6 rfl (by decide) ?_
  refine w_putI (j := 7) hX cl0 fl_RX0_39_0 rfl (by decide) rfl rfl (Or.inl rfl) dX0_clear_7 rfl ?_
  refine w_aload_n (i := 0) hX dX0_clear_10 rfl rfl rfl ?_
  refine w_iconst hX dX0_clear_11 rfl (by decide) ?_
  refine w_putI (j := 8) hX cl0 fl_RX0_42_0 rfl (by decide) rfl rfl (Or.inl rfl) dX0_clear_12 rfl ?_
  exact e_v hX hF dX0_clear_15 ⟨rfl, rfl⟩
