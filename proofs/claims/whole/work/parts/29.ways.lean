/-! Ways: the greatest number of steps -/
def ctD (D : Dd) (i to s : Int) : Dd := if (0 ≤ i ∧ i ≤ to) ∧ D 272 i.toNat < s then upD D 272 i.toNat (if s < 1000000001 then s else 1000000001) else D
def srF (D : Dd) (i t : Int) : Int := if (0 ≤ i ∧ i < 256) ∧ D 273 i.toNat ≠ -1 then t * D 273 i.toNat else 0
theorem mulB {t r : Int} (ht : 0 ≤ t ∧ t ≤ 1000000) (hr : 0 ≤ r ∧ r ≤ 1000000002) : 0 ≤ t * r ∧ t * r ≤ 1000000002000000 := by
  refine ⟨Int.mul_nonneg ht.1 hr.1, ?_⟩
  have h1 : t * r ≤ 1000000 * r := Int.mul_le_mul_of_nonneg_right ht.2 hr.1
  omega
def bfB (D : Dd) : Prop := ∀ j : Nat, j < 257 → -1 ≤ D 272 j ∧ D 272 j ≤ 1000000001
def rdB (D : Dd) : Prop := ∀ j : Nat, j < 256 → -1 ≤ D 273 j ∧ D 273 j ≤ 1000000002
def grB (D : Dd) : Prop := ∀ j : Nat, j < 16 → -1 ≤ D 274 j ∧ D 274 j ≤ 1000000000
/-- all but before stays -/
def keepB (D D2 : Dd) : Prop := ∀ k j, k ≠ 272 → D2 k j = D k j
theorem keepB.rf (D : Dd) : keepB D D := fun _ _ _ => rfl
theorem keepB.tr {D D' D2 : Dd} (h : keepB D D') (h2 : keepB D' D2) : keepB D D2 := fun k j a => (h2 k j a).trans (h k j a)
theorem keepB.sm {D D2 : Dd} (h : keepB D D2) : smC D D2 := fun k j hk => h k j (by omega)
theorem keepB.ct {D : Dd} {i to s : Int} : keepB D (ctD D i to s) := fun k j h1 => by
  unfold ctD
  split
  · exact upD_k h1
  · rfl
theorem bfB.ct {D : Dd} (h : bfB D) {i to s : Int} (hs : 0 ≤ s) : bfB (ctD D i to s) := fun j hj => by
  unfold ctD
  split
  · rw [upD_rd, if_pos rfl]
    split
    · split <;> omega
    · exact h j hj
  · exact h j hj
theorem rdB.kp {D D2 : Dd} (h : rdB D) (k : keepB D D2) : rdB D2 := fun j hj => by rw [k _ _ (by decide)]; exact h j hj
theorem grB.kp {D D2 : Dd} (h : grB D) (k : keepB D D2) : grB D2 := fun j hj => by rw [k _ _ (by decide)]; exact h j hj
theorem gr_in {D : Dd} (h : grB D) (v : Int) : -1 ≤ gtF D 274 v ∧ gtF D 274 v ≤ 1000000000 := by
  unfold gtF
  split
  · exact h v.toNat (by omega)
  · omega

set_option maxRecDepth 100000 in
set_option maxHeartbeats 4000000 in
theorem m_comeTo (D : Dd) (i to s : Int) (hto : to ≤ 256) : MC 1 yX8_comeTo cX8_comeTo 5 none [vR 271, vI i, vI to, vL s] D (Is none (ctD D i to s)) := by
  refine MC.mk [vR 271, vI i, vI to, vL s, vN] (by decide) (Nat.le_of_ble_eq_true rfl) rfl (fun X Q hX hF hok hol => ?_)
  refine w_iload_n (i := 1) hX dX8_comeTo_0 rfl rfl rfl ?_
  refine w_if_lt (tgt := 41) hX dX8_comeTo_1 rfl (by decide) (fun h1 => ?_) (fun h1 => ?_)
  · exact e_v hX hF dX8_comeTo_41 ⟨rfl, by first | rw [ctD, if_neg (by omega)] | rw [ctD, if_pos (by omega), if_pos (by omega)] | rw [ctD, if_pos (by omega), if_neg (by omega)]⟩
  · refine w_iload_n (i := 1) hX dX8_comeTo_4 rfl rfl rfl ?_
    refine w_iload_n (i := 2) hX dX8_comeTo_5 rfl rfl rfl ?_
    refine w_icmp_gt (tgt := 41) hX dX8_comeTo_6 rfl (by decide) (fun h6 => ?_) (fun h6 => ?_)
    · exact e_v hX hF dX8_comeTo_41 ⟨rfl, by first | rw [ctD, if_neg (by omega)] | rw [ctD, if_pos (by omega), if_pos (by omega)] | rw [ctD, if_pos (by omega), if_neg (by omega)]⟩
    · refine w_lload_n (i := 3) hX dX8_comeTo_9 rfl rfl rfl ?_
      refine w_aload_n (i := 0) hX dX8_comeTo_10 rfl rfl rfl ?_
      refine w_getR (j := 1) hX cl7 fl_RX8_9_7 rfl (by decide) rfl rfl dX8_comeTo_11 rfl ?_
      refine w_iload_n (i := 1) hX dX8_comeTo_14 rfl rfl rfl ?_
      refine w_lald hX rfl (by omega) (by omega) dX8_comeTo_15 rfl ?_
      refine w_lcmp hX dX8_comeTo_16 rfl ?_
      refine w_if_le (tgt := 41) hX dX8_comeTo_17 rfl (by decide) (fun h17 => ?_) (fun h17 => ?_)
      · rw [lc_le] at h17
        exact e_v hX hF dX8_comeTo_41 ⟨rfl, by first | rw [ctD, if_neg (by omega)] | rw [ctD, if_pos (by omega), if_pos (by omega)] | rw [ctD, if_pos (by omega), if_neg (by omega)]⟩
      · rw [lc_le] at h17
        refine w_aload_n (i := 0) hX dX8_comeTo_20 rfl rfl rfl ?_
        refine w_getR (j := 1) hX cl7 fl_RX8_9_7 rfl (by decide) rfl rfl dX8_comeTo_21 rfl ?_
        refine w_iload_n (i := 1) hX dX8_comeTo_24 rfl rfl rfl ?_
        refine w_lload_n (i := 3) hX dX8_comeTo_25 rfl rfl rfl ?_
        refine w_ldc2 (x := 1000000001) hX kl_RX8_77 dX8_comeTo_26 rfl (by decide) (by decide) ?_
        refine w_lcmp hX dX8_comeTo_29 rfl ?_
        refine w_if_ge (tgt := 37) hX dX8_comeTo_30 rfl (by decide) (fun h30 => ?_) (fun h30 => ?_)
        · rw [lc_ge] at h30
          refine w_ldc2 (x := 1000000001) hX kl_RX8_77 dX8_comeTo_37 rfl (by decide) (by decide) ?_
          refine w_last hX rfl (by omega) (by omega) dX8_comeTo_40 rfl ?_
          exact e_v hX hF dX8_comeTo_41 ⟨rfl, by first | rw [ctD, if_neg (by omega)] | rw [ctD, if_pos (by omega), if_pos (by omega)] | rw [ctD, if_pos (by omega), if_neg (by omega)]⟩
        · rw [lc_ge] at h30
          refine w_lload_n (i := 3) hX dX8_comeTo_33 rfl rfl rfl ?_
          refine w_goto (tgt := 40) hX dX8_comeTo_34 (by decide) ?_
          refine w_last hX rfl (by omega) (by omega) dX8_comeTo_40 rfl ?_
          exact e_v hX hF dX8_comeTo_41 ⟨rfl, by first | rw [ctD, if_neg (by omega)] | rw [ctD, if_pos (by omega), if_pos (by omega)] | rw [ctD, if_pos (by omega), if_neg (by omega)]⟩

set_option maxRecDepth 100000 in
set_option maxHeartbeats 4000000 in
theorem m_stepsOfRounds (D : Dd) (hr : rdB D) (i t : Int) (ht : 0 ≤ t ∧ t ≤ 1000000) : MC 1 yX8_stepsOfRounds cX8_stepsOfRounds 3 (some .long) [vR 271, vI i, vI t] D (Is (some (vL (srF D i t))) D) := by
  refine MC.mk [vR 271, vI i, vI t] (by decide) (Nat.le_of_ble_eq_true rfl) rfl (fun X Q hX hF hok hol => ?_)
  refine w_iload_n (i := 1) hX dX8_stepsOfRounds_0 rfl rfl rfl ?_
  refine w_if_lt (tgt := 24) hX dX8_stepsOfRounds_1 rfl (by decide) (fun h1 => ?_) (fun h1 => ?_)
  · refine w_lconst0 hX dX8_stepsOfRounds_24 rfl ?_
    exact e_l hX hF dX8_stepsOfRounds_25 ⟨by rw [srF, if_neg (by omega)], rfl⟩
  · refine w_iload_n (i := 1) hX dX8_stepsOfRounds_4 rfl rfl rfl ?_
    refine w_sipush hX dX8_stepsOfRounds_5 rfl (by decide) ?_
    refine w_icmp_ge (tgt := 24) hX dX8_stepsOfRounds_8 rfl (by decide) (fun h8 => ?_) (fun h8 => ?_)
    · refine w_lconst0 hX dX8_stepsOfRounds_24 rfl ?_
      exact e_l hX hF dX8_stepsOfRounds_25 ⟨by rw [srF, if_neg (by omega)], rfl⟩
    · refine w_aload_n (i := 0) hX dX8_stepsOfRounds_11 rfl rfl rfl ?_
      refine w_getR (j := 2) hX cl7 fl_RX8_15_7 rfl (by decide) rfl rfl dX8_stepsOfRounds_12 rfl ?_
      refine w_iload_n (i := 1) hX dX8_stepsOfRounds_15 rfl rfl rfl ?_
      refine w_lald hX rfl (by omega) (by omega) dX8_stepsOfRounds_16 rfl ?_
      refine w_ldc2 (x := -1) hX kl_RX8_55 dX8_stepsOfRounds_17 rfl (by decide) (by decide) ?_
      refine w_lcmp hX dX8_stepsOfRounds_20 rfl ?_
      refine w_if_ne (tgt := 26) hX dX8_stepsOfRounds_21 rfl (by decide) (fun h21 => ?_) (fun h21 => ?_)
      · rw [lc_ne] at h21
        refine w_iload_n (i := 2) hX dX8_stepsOfRounds_26 rfl rfl rfl ?_
        refine w_i2l hX dX8_stepsOfRounds_27 rfl ?_
        refine w_aload_n (i := 0) hX dX8_stepsOfRounds_28 rfl rfl rfl ?_
        refine w_getR (j := 2) hX cl7 fl_RX8_15_7 rfl (by decide) rfl rfl dX8_stepsOfRounds_29 rfl ?_
        refine w_iload_n (i := 1) hX dX8_stepsOfRounds_32 rfl rfl rfl ?_
        refine w_lald hX rfl (by omega) (by omega) dX8_stepsOfRounds_33 rfl ?_
        have zq_m := mulB ht (show 0 ≤ D 273 i.toNat ∧ D 273 i.toNat ≤ 1000000002 by have := hr i.toNat (by omega); omega)
        refine w_lmul hX dX8_stepsOfRounds_34 rfl (by omega) ?_
        exact e_l hX hF dX8_stepsOfRounds_35 ⟨by rw [srF, if_pos (by omega)], rfl⟩
      · rw [lc_ne] at h21
        refine w_lconst0 hX dX8_stepsOfRounds_24 rfl ?_
        exact e_l hX hF dX8_stepsOfRounds_25 ⟨by rw [srF, if_neg (by omega)], rfl⟩

/-- where an instruction goes in one round, and with how many steps -/
def edF (D : Dd) (u i : Int) : List (Int × Int) :=
  if (D (atF D u i) 0) = 10 then [((D (atF D u i) 1), 1)] else if (D (atF D u i) 0) = 11 then [((D (atF D u i) 1), 1), (i + 1, 1)]
  else if (D (atF D u i) 0) = 13 then (if (D (atF D u (i - 1)) 2) = 0 then [((D (atF D u i) 2), 1)] else [(i + 1, 1 + srF D i ((D (atF D u (i - 1)) 2) - 1))])
  else if (D (atF D u i) 0) = 14 then [(i + 1, 2)] else if (D (atF D u i) 0) = 15 ∨ (D (atF D u i) 0) = 16 then [(i + 1, 1 + gtF D 274 ((D (atF D u i) 1)))]
  else if (D (atF D u i) 0) = 18 then [(szF D u, 1)] else [(i + 1, 1)]
def ceD (D : Dd) (to s : Int) : List (Int × Int) → Dd
  | [] => D
  | (t, w) :: r => ceD (ctD D t to (s + w)) to s r
/-- goOn -/
def goD (D : Dd) (u i to : Int) : Dd := ceD D to (D 272 i.toNat) (edF D u i)

set_option maxRecDepth 100000 in
set_option maxHeartbeats 4000000 in
theorem m_goOn (D : Dd) (hI : InC D) (u i to : Int) (hto : to ≤ 256) (hi : 0 ≤ i ∧ i < 257) (hb : 0 ≤ D 272 i.toNat ∧ D 272 i.toNat ≤ 1000000001) (hr : rdB D) (hg : grB D) (h13 : (D (atF D u i) 0) = 13 → 0 ≤ (D (atF D u (i - 1)) 2) ∧ (D (atF D u (i - 1)) 2) ≤ 1000000) : MC 2 yX8_goOn cX8_goOn 7 none [vR 271, vI u, vI i, vI to] D (Is none (goD D u i to)) := by
  refine MC.mk [vR 271, vI u, vI i, vI to, vN, vN, vN] (by decide) (Nat.le_of_ble_eq_true rfl) rfl (fun X Q hX hF hok hol => ?_)
  refine w_aload_n (i := 0) hX dX8_goOn_0 rfl rfl rfl ?_
  refine w_getR (j := 0) hX cl7 fl_RX8_22_7 rfl (by decide) rfl rfl dX8_goOn_1 rfl ?_
  refine w_iload_n (i := 1) hX dX8_goOn_4 rfl rfl rfl ?_
  refine w_iload_n (i := 2) hX dX8_goOn_5 rfl rfl rfl ?_
  refine c_V hX ml_RX8_38 cl0 dX8_goOn_6 rfl (m_at D hI u i) rfl rfl rfl (by decide) (Nat.le_of_ble_eq_true rfl) ?_
  rintro _ _ ⟨rfl, rfl⟩ -
  all_goals try dsimp only [Option.toList, List.cons_append, List.nil_append]
  refine w_astore hX dX8_goOn_9 rfl (by decide) ?_
  dsimp only [st1X, st2X, klX_I, klX_L, klX_R, klX_S, klX_N]
  refine w_aload_n (i := 0) hX dX8_goOn_11 rfl rfl rfl ?_
  refine w_getR (j := 1) hX cl7 fl_RX8_9_7 rfl (by decide) rfl rfl dX8_goOn_12 rfl ?_
  refine w_iload_n (i := 2) hX dX8_goOn_15 rfl rfl rfl ?_
  refine w_lald hX rfl (by omega) (by omega) dX8_goOn_16 rfl ?_
  refine w_lconst1 hX dX8_goOn_17 rfl ?_
  refine w_ladd hX dX8_goOn_18 rfl (by omega) ?_
  refine w_lstore hX dX8_goOn_19 rfl (by decide) ?_
  dsimp only [st1X, st2X, klX_I, klX_L, klX_R, klX_S, klX_N]
  refine w_aload hX dX8_goOn_21 rfl rfl ?_
  refine w_getI (j := 0) hX cl2 fl_RX8_42_2 (K0_ins (at_ins hI u _)) (by decide) rfl dX8_goOn_23 rfl ?_
  refine w_nameI (fun sw26 hsw26 => ?_)
  by_cases g26_0 : sw26 = 10
  · refine w_tsw (tgt := 76) hX dX8_goOn_26 rfl (by rw [g26_0]; decide) ?_
    refine w_aload_n (i := 0) hX dX8_goOn_76 rfl rfl rfl ?_
    refine w_aload hX dX8_goOn_77 rfl rfl ?_
    refine w_getI (j := 1) hX cl2 fl_RX8_63_2 (K0_ins (at_ins hI u _)) (by decide) rfl dX8_goOn_79 rfl ?_
    refine w_iload_n (i := 3) hX dX8_goOn_82 rfl rfl rfl ?_
    refine w_lload hX dX8_goOn_83 rfl rfl ?_
    refine c_V hX ml_RX8_66 cl7 dX8_goOn_85 rfl (m_comeTo D _ to _ hto) rfl rfl rfl (by decide) (Nat.le_of_ble_eq_true rfl) ?_
    rintro _ _ ⟨rfl, rfl⟩ -
    all_goals try dsimp only [Option.toList, List.cons_append, List.nil_append]
    refine w_goto (tgt := 250) hX dX8_goOn_88 (by decide) ?_
    exact e_v hX hF dX8_goOn_250 (by first | exact ⟨rfl, by rw [goD, edF, if_pos (by omega)]; simp only [ceD, ← Int.add_assoc]; try (congr 1; omega)⟩ | exact ⟨rfl, by rw [goD, edF, if_neg (by omega), if_pos (by omega)]; simp only [ceD, ← Int.add_assoc]; try (congr 1; omega)⟩ | exact ⟨rfl, by rw [goD, edF, if_neg (by omega), if_neg (by omega), if_pos (by omega), if_pos (by omega)]; simp only [ceD, ← Int.add_assoc]; try (congr 1; omega)⟩ | exact ⟨rfl, by rw [goD, edF, if_neg (by omega), if_neg (by omega), if_pos (by omega), if_neg (by omega)]; simp only [ceD, ← Int.add_assoc]; try (congr 1; omega)⟩ | exact ⟨rfl, by rw [goD, edF, if_neg (by omega), if_neg (by omega), if_neg (by omega), if_pos (by omega)]; simp only [ceD, ← Int.add_assoc]; try (congr 1; omega)⟩ | exact ⟨rfl, by rw [goD, edF, if_neg (by omega), if_neg (by omega), if_neg (by omega), if_neg (by omega), if_pos (by omega)]; simp only [ceD, ← Int.add_assoc]; try (congr 1; omega)⟩ | exact ⟨rfl, by rw [goD, edF, if_neg (by omega), if_neg (by omega), if_neg (by omega), if_neg (by omega), if_neg (by omega), if_pos (by omega)]; simp only [ceD, ← Int.add_assoc]; try (congr 1; omega)⟩ | exact ⟨rfl, by rw [goD, edF, if_neg (by omega), if_neg (by omega), if_neg (by omega), if_neg (by omega), if_neg (by omega), if_neg (by omega)]; simp only [ceD, ← Int.add_assoc]; try (congr 1; omega)⟩)
  by_cases g26_1 : sw26 = 11
  · refine w_tsw (tgt := 91) hX dX8_goOn_26 rfl (by rw [g26_1]; decide) ?_
    refine w_aload_n (i := 0) hX dX8_goOn_91 rfl rfl rfl ?_
    refine w_aload hX dX8_goOn_92 rfl rfl ?_
    refine w_getI (j := 1) hX cl2 fl_RX8_63_2 (K0_ins (at_ins hI u _)) (by decide) rfl dX8_goOn_94 rfl ?_
    refine w_iload_n (i := 3) hX dX8_goOn_97 rfl rfl rfl ?_
    refine w_lload hX dX8_goOn_98 rfl rfl ?_
    refine c_V hX ml_RX8_66 cl7 dX8_goOn_100 rfl (m_comeTo D _ to _ hto) rfl rfl rfl (by decide) (Nat.le_of_ble_eq_true rfl) ?_
    rintro _ _ ⟨rfl, rfl⟩ -
    all_goals try dsimp only [Option.toList, List.cons_append, List.nil_append]
    refine w_aload_n (i := 0) hX dX8_goOn_103 rfl rfl rfl ?_
    refine w_iload_n (i := 2) hX dX8_goOn_104 rfl rfl rfl ?_
    refine w_iconst hX dX8_goOn_105 rfl (by decide) ?_
    refine w_iadd hX dX8_goOn_106 rfl (by omega) ?_
    refine w_iload_n (i := 3) hX dX8_goOn_107 rfl rfl rfl ?_
    refine w_lload hX dX8_goOn_108 rfl rfl ?_
    refine c_V hX ml_RX8_66 cl7 dX8_goOn_110 rfl (m_comeTo _ _ to _ hto) rfl rfl rfl (by decide) (Nat.le_of_ble_eq_true rfl) ?_
    rintro _ _ ⟨rfl, rfl⟩ -
    all_goals try dsimp only [Option.toList, List.cons_append, List.nil_append]
    refine w_goto (tgt := 250) hX dX8_goOn_113 (by decide) ?_
    exact e_v hX hF dX8_goOn_250 (by first | exact ⟨rfl, by rw [goD, edF, if_pos (by omega)]; simp only [ceD, ← Int.add_assoc]; try (congr 1; omega)⟩ | exact ⟨rfl, by rw [goD, edF, if_neg (by omega), if_pos (by omega)]; simp only [ceD, ← Int.add_assoc]; try (congr 1; omega)⟩ | exact ⟨rfl, by rw [goD, edF, if_neg (by omega), if_neg (by omega), if_pos (by omega), if_pos (by omega)]; simp only [ceD, ← Int.add_assoc]; try (congr 1; omega)⟩ | exact ⟨rfl, by rw [goD, edF, if_neg (by omega), if_neg (by omega), if_pos (by omega), if_neg (by omega)]; simp only [ceD, ← Int.add_assoc]; try (congr 1; omega)⟩ | exact ⟨rfl, by rw [goD, edF, if_neg (by omega), if_neg (by omega), if_neg (by omega), if_pos (by omega)]; simp only [ceD, ← Int.add_assoc]; try (congr 1; omega)⟩ | exact ⟨rfl, by rw [goD, edF, if_neg (by omega), if_neg (by omega), if_neg (by omega), if_neg (by omega), if_pos (by omega)]; simp only [ceD, ← Int.add_assoc]; try (congr 1; omega)⟩ | exact ⟨rfl, by rw [goD, edF, if_neg (by omega), if_neg (by omega), if_neg (by omega), if_neg (by omega), if_neg (by omega), if_pos (by omega)]; simp only [ceD, ← Int.add_assoc]; try (congr 1; omega)⟩ | exact ⟨rfl, by rw [goD, edF, if_neg (by omega), if_neg (by omega), if_neg (by omega), if_neg (by omega), if_neg (by omega), if_neg (by omega)]; simp only [ceD, ← Int.add_assoc]; try (congr 1; omega)⟩)
  by_cases g26_2 : sw26 = 13
  · refine w_tsw (tgt := 116) hX dX8_goOn_26 rfl (by rw [g26_2]; decide) ?_
    refine w_aload_n (i := 0) hX dX8_goOn_116 rfl rfl rfl ?_
    refine w_getR (j := 0) hX cl7 fl_RX8_22_7 rfl (by decide) rfl rfl dX8_goOn_117 rfl ?_
    refine w_iload_n (i := 1) hX dX8_goOn_120 rfl rfl rfl ?_
    refine w_iload_n (i := 2) hX dX8_goOn_121 rfl rfl rfl ?_
    refine w_iconst hX dX8_goOn_122 rfl (by decide) ?_
    refine w_isub hX dX8_goOn_123 rfl (by omega) ?_
    refine c_V hX ml_RX8_38 cl0 dX8_goOn_124 rfl (m_at D hI u (i - 1)) rfl rfl rfl (by decide) (Nat.le_of_ble_eq_true rfl) ?_
    rintro _ _ ⟨rfl, rfl⟩ -
    all_goals try dsimp only [Option.toList, List.cons_append, List.nil_append]
    refine w_getI (j := 2) hX cl2 fl_RX8_48_2 (K0_ins (at_ins hI u _)) (by decide) rfl dX8_goOn_127 rfl ?_
    refine w_if_ne (tgt := 148) hX dX8_goOn_130 rfl (by decide) (fun h130 => ?_) (fun h130 => ?_)
    · refine w_aload_n (i := 0) hX dX8_goOn_148 rfl rfl rfl ?_
      refine w_iload_n (i := 2) hX dX8_goOn_149 rfl rfl rfl ?_
      refine w_iconst hX dX8_goOn_150 rfl (by decide) ?_
      refine w_iadd hX dX8_goOn_151 rfl (by omega) ?_
      refine w_iload_n (i := 3) hX dX8_goOn_152 rfl rfl rfl ?_
      refine w_lload hX dX8_goOn_153 rfl rfl ?_
      refine w_aload_n (i := 0) hX dX8_goOn_155 rfl rfl rfl ?_
      refine w_iload_n (i := 2) hX dX8_goOn_156 rfl rfl rfl ?_
      refine w_aload_n (i := 0) hX dX8_goOn_157 rfl rfl rfl ?_
      refine w_getR (j := 0) hX cl7 fl_RX8_22_7 rfl (by decide) rfl rfl dX8_goOn_158 rfl ?_
      refine w_iload_n (i := 1) hX dX8_goOn_161 rfl rfl rfl ?_
      refine w_iload_n (i := 2) hX dX8_goOn_162 rfl rfl rfl ?_
      refine w_iconst hX dX8_goOn_163 rfl (by decide) ?_
      refine w_isub hX dX8_goOn_164 rfl (by omega) ?_
      refine c_V hX ml_RX8_38 cl0 dX8_goOn_165 rfl (m_at D hI u (i - 1)) rfl rfl rfl (by decide) (Nat.le_of_ble_eq_true rfl) ?_
      rintro _ _ ⟨rfl, rfl⟩ -
      all_goals try dsimp only [Option.toList, List.cons_append, List.nil_append]
      refine w_getI (j := 2) hX cl2 fl_RX8_48_2 (K0_ins (at_ins hI u _)) (by decide) rfl dX8_goOn_168 rfl ?_
      refine w_iconst hX dX8_goOn_171 rfl (by decide) ?_
      refine w_isub hX dX8_goOn_172 rfl (by omega) ?_
      refine c_V hX ml_RX8_70 cl7 dX8_goOn_173 rfl (m_stepsOfRounds D hr i _ (by omega)) rfl rfl rfl (by decide) (Nat.le_of_ble_eq_true rfl) ?_
      rintro _ _ ⟨rfl, rfl⟩ -
      all_goals try dsimp only [Option.toList, List.cons_append, List.nil_append]
      have zq_s : 0 ≤ srF D i ((D (atF D u (i - 1)) 2) - 1) ∧ srF D i ((D (atF D u (i - 1)) 2) - 1) ≤ 1000000002000000 := by
        unfold srF
        split
        · rename_i zq_c
          have := hr i.toNat (by omega)
          exact mulB (by omega) (by omega)
        · omega
      refine w_ladd hX dX8_goOn_176 rfl (by omega) ?_
      refine c_V hX ml_RX8_66 cl7 dX8_goOn_177 rfl (m_comeTo D _ to _ hto) rfl rfl rfl (by decide) (Nat.le_of_ble_eq_true rfl) ?_
      rintro _ _ ⟨rfl, rfl⟩ -
      all_goals try dsimp only [Option.toList, List.cons_append, List.nil_append]
      refine w_goto (tgt := 250) hX dX8_goOn_180 (by decide) ?_
      exact e_v hX hF dX8_goOn_250 (by first | exact ⟨rfl, by rw [goD, edF, if_pos (by omega)]; simp only [ceD, ← Int.add_assoc]; try (congr 1; omega)⟩ | exact ⟨rfl, by rw [goD, edF, if_neg (by omega), if_pos (by omega)]; simp only [ceD, ← Int.add_assoc]; try (congr 1; omega)⟩ | exact ⟨rfl, by rw [goD, edF, if_neg (by omega), if_neg (by omega), if_pos (by omega), if_pos (by omega)]; simp only [ceD, ← Int.add_assoc]; try (congr 1; omega)⟩ | exact ⟨rfl, by rw [goD, edF, if_neg (by omega), if_neg (by omega), if_pos (by omega), if_neg (by omega)]; simp only [ceD, ← Int.add_assoc]; try (congr 1; omega)⟩ | exact ⟨rfl, by rw [goD, edF, if_neg (by omega), if_neg (by omega), if_neg (by omega), if_pos (by omega)]; simp only [ceD, ← Int.add_assoc]; try (congr 1; omega)⟩ | exact ⟨rfl, by rw [goD, edF, if_neg (by omega), if_neg (by omega), if_neg (by omega), if_neg (by omega), if_pos (by omega)]; simp only [ceD, ← Int.add_assoc]; try (congr 1; omega)⟩ | exact ⟨rfl, by rw [goD, edF, if_neg (by omega), if_neg (by omega), if_neg (by omega), if_neg (by omega), if_neg (by omega), if_pos (by omega)]; simp only [ceD, ← Int.add_assoc]; try (congr 1; omega)⟩ | exact ⟨rfl, by rw [goD, edF, if_neg (by omega), if_neg (by omega), if_neg (by omega), if_neg (by omega), if_neg (by omega), if_neg (by omega)]; simp only [ceD, ← Int.add_assoc]; try (congr 1; omega)⟩)
    · refine w_aload_n (i := 0) hX dX8_goOn_133 rfl rfl rfl ?_
      refine w_aload hX dX8_goOn_134 rfl rfl ?_
      refine w_getI (j := 2) hX cl2 fl_RX8_48_2 (K0_ins (at_ins hI u _)) (by decide) rfl dX8_goOn_136 rfl ?_
      refine w_iload_n (i := 3) hX dX8_goOn_139 rfl rfl rfl ?_
      refine w_lload hX dX8_goOn_140 rfl rfl ?_
      refine c_V hX ml_RX8_66 cl7 dX8_goOn_142 rfl (m_comeTo D _ to _ hto) rfl rfl rfl (by decide) (Nat.le_of_ble_eq_true rfl) ?_
      rintro _ _ ⟨rfl, rfl⟩ -
      all_goals try dsimp only [Option.toList, List.cons_append, List.nil_append]
      refine w_goto (tgt := 250) hX dX8_goOn_145 (by decide) ?_
      exact e_v hX hF dX8_goOn_250 (by first | exact ⟨rfl, by rw [goD, edF, if_pos (by omega)]; simp only [ceD, ← Int.add_assoc]; try (congr 1; omega)⟩ | exact ⟨rfl, by rw [goD, edF, if_neg (by omega), if_pos (by omega)]; simp only [ceD, ← Int.add_assoc]; try (congr 1; omega)⟩ | exact ⟨rfl, by rw [goD, edF, if_neg (by omega), if_neg (by omega), if_pos (by omega), if_pos (by omega)]; simp only [ceD, ← Int.add_assoc]; try (congr 1; omega)⟩ | exact ⟨rfl, by rw [goD, edF, if_neg (by omega), if_neg (by omega), if_pos (by omega), if_neg (by omega)]; simp only [ceD, ← Int.add_assoc]; try (congr 1; omega)⟩ | exact ⟨rfl, by rw [goD, edF, if_neg (by omega), if_neg (by omega), if_neg (by omega), if_pos (by omega)]; simp only [ceD, ← Int.add_assoc]; try (congr 1; omega)⟩ | exact ⟨rfl, by rw [goD, edF, if_neg (by omega), if_neg (by omega), if_neg (by omega), if_neg (by omega), if_pos (by omega)]; simp only [ceD, ← Int.add_assoc]; try (congr 1; omega)⟩ | exact ⟨rfl, by rw [goD, edF, if_neg (by omega), if_neg (by omega), if_neg (by omega), if_neg (by omega), if_neg (by omega), if_pos (by omega)]; simp only [ceD, ← Int.add_assoc]; try (congr 1; omega)⟩ | exact ⟨rfl, by rw [goD, edF, if_neg (by omega), if_neg (by omega), if_neg (by omega), if_neg (by omega), if_neg (by omega), if_neg (by omega)]; simp only [ceD, ← Int.add_assoc]; try (congr 1; omega)⟩)
  by_cases g26_3 : sw26 = 14
  · refine w_tsw (tgt := 183) hX dX8_goOn_26 rfl (by rw [g26_3]; decide) ?_
    refine w_aload_n (i := 0) hX dX8_goOn_183 rfl rfl rfl ?_
    refine w_iload_n (i := 2) hX dX8_goOn_184 rfl rfl rfl ?_
    refine w_iconst hX dX8_goOn_185 rfl (by decide) ?_
    refine w_iadd hX dX8_goOn_186 rfl (by omega) ?_
    refine w_iload_n (i := 3) hX dX8_goOn_187 rfl rfl rfl ?_
    refine w_lload hX dX8_goOn_188 rfl rfl ?_
    refine w_lconst1 hX dX8_goOn_190 rfl ?_
    refine w_ladd hX dX8_goOn_191 rfl (by omega) ?_
    refine c_V hX ml_RX8_66 cl7 dX8_goOn_192 rfl (m_comeTo D _ to _ hto) rfl rfl rfl (by decide) (Nat.le_of_ble_eq_true rfl) ?_
    rintro _ _ ⟨rfl, rfl⟩ -
    all_goals try dsimp only [Option.toList, List.cons_append, List.nil_append]
    refine w_goto (tgt := 250) hX dX8_goOn_195 (by decide) ?_
    exact e_v hX hF dX8_goOn_250 (by first | exact ⟨rfl, by rw [goD, edF, if_pos (by omega)]; simp only [ceD, ← Int.add_assoc]; try (congr 1; omega)⟩ | exact ⟨rfl, by rw [goD, edF, if_neg (by omega), if_pos (by omega)]; simp only [ceD, ← Int.add_assoc]; try (congr 1; omega)⟩ | exact ⟨rfl, by rw [goD, edF, if_neg (by omega), if_neg (by omega), if_pos (by omega), if_pos (by omega)]; simp only [ceD, ← Int.add_assoc]; try (congr 1; omega)⟩ | exact ⟨rfl, by rw [goD, edF, if_neg (by omega), if_neg (by omega), if_pos (by omega), if_neg (by omega)]; simp only [ceD, ← Int.add_assoc]; try (congr 1; omega)⟩ | exact ⟨rfl, by rw [goD, edF, if_neg (by omega), if_neg (by omega), if_neg (by omega), if_pos (by omega)]; simp only [ceD, ← Int.add_assoc]; try (congr 1; omega)⟩ | exact ⟨rfl, by rw [goD, edF, if_neg (by omega), if_neg (by omega), if_neg (by omega), if_neg (by omega), if_pos (by omega)]; simp only [ceD, ← Int.add_assoc]; try (congr 1; omega)⟩ | exact ⟨rfl, by rw [goD, edF, if_neg (by omega), if_neg (by omega), if_neg (by omega), if_neg (by omega), if_neg (by omega), if_pos (by omega)]; simp only [ceD, ← Int.add_assoc]; try (congr 1; omega)⟩ | exact ⟨rfl, by rw [goD, edF, if_neg (by omega), if_neg (by omega), if_neg (by omega), if_neg (by omega), if_neg (by omega), if_neg (by omega)]; simp only [ceD, ← Int.add_assoc]; try (congr 1; omega)⟩)
  by_cases g26_4 : sw26 = 15 ∨ sw26 = 16
  · refine w_tsw (tgt := 198) hX dX8_goOn_26 rfl (by rcases g26_4 with w | w <;> rw [w] <;> decide) ?_
    refine w_aload_n (i := 0) hX dX8_goOn_198 rfl rfl rfl ?_
    refine w_iload_n (i := 2) hX dX8_goOn_199 rfl rfl rfl ?_
    refine w_iconst hX dX8_goOn_200 rfl (by decide) ?_
    refine w_iadd hX dX8_goOn_201 rfl (by omega) ?_
    refine w_iload_n (i := 3) hX dX8_goOn_202 rfl rfl rfl ?_
    refine w_lload hX dX8_goOn_203 rfl rfl ?_
    refine w_aload_n (i := 0) hX dX8_goOn_205 rfl rfl rfl ?_
    refine w_aload hX dX8_goOn_206 rfl rfl ?_
    refine w_getI (j := 1) hX cl2 fl_RX8_63_2 (K0_ins (at_ins hI u _)) (by decide) rfl dX8_goOn_208 rfl ?_
    refine c_V hX ml_RX8_74 cl7 dX8_goOn_211 rfl (m_stepsOf D ((D (atF D u i) 1))) rfl rfl rfl (by decide) (Nat.le_of_ble_eq_true rfl) ?_
    rintro _ _ ⟨rfl, rfl⟩ -
    have zq_g := gr_in hg ((D (atF D u i) 1))
    all_goals try dsimp only [Option.toList, List.cons_append, List.nil_append]
    refine w_i2l hX dX8_goOn_214 rfl ?_
    refine w_ladd hX dX8_goOn_215 rfl (by omega) ?_
    refine c_V hX ml_RX8_66 cl7 dX8_goOn_216 rfl (m_comeTo D _ to _ hto) rfl rfl rfl (by decide) (Nat.le_of_ble_eq_true rfl) ?_
    rintro _ _ ⟨rfl, rfl⟩ -
    all_goals try dsimp only [Option.toList, List.cons_append, List.nil_append]
    refine w_goto (tgt := 250) hX dX8_goOn_219 (by decide) ?_
    exact e_v hX hF dX8_goOn_250 (by first | exact ⟨rfl, by rw [goD, edF, if_pos (by omega)]; simp only [ceD, ← Int.add_assoc]; try (congr 1; omega)⟩ | exact ⟨rfl, by rw [goD, edF, if_neg (by omega), if_pos (by omega)]; simp only [ceD, ← Int.add_assoc]; try (congr 1; omega)⟩ | exact ⟨rfl, by rw [goD, edF, if_neg (by omega), if_neg (by omega), if_pos (by omega), if_pos (by omega)]; simp only [ceD, ← Int.add_assoc]; try (congr 1; omega)⟩ | exact ⟨rfl, by rw [goD, edF, if_neg (by omega), if_neg (by omega), if_pos (by omega), if_neg (by omega)]; simp only [ceD, ← Int.add_assoc]; try (congr 1; omega)⟩ | exact ⟨rfl, by rw [goD, edF, if_neg (by omega), if_neg (by omega), if_neg (by omega), if_pos (by omega)]; simp only [ceD, ← Int.add_assoc]; try (congr 1; omega)⟩ | exact ⟨rfl, by rw [goD, edF, if_neg (by omega), if_neg (by omega), if_neg (by omega), if_neg (by omega), if_pos (by omega)]; simp only [ceD, ← Int.add_assoc]; try (congr 1; omega)⟩ | exact ⟨rfl, by rw [goD, edF, if_neg (by omega), if_neg (by omega), if_neg (by omega), if_neg (by omega), if_neg (by omega), if_pos (by omega)]; simp only [ceD, ← Int.add_assoc]; try (congr 1; omega)⟩ | exact ⟨rfl, by rw [goD, edF, if_neg (by omega), if_neg (by omega), if_neg (by omega), if_neg (by omega), if_neg (by omega), if_neg (by omega)]; simp only [ceD, ← Int.add_assoc]; try (congr 1; omega)⟩)
  by_cases g26_5 : sw26 = 18
  · refine w_tsw (tgt := 222) hX dX8_goOn_26 rfl (by rw [g26_5]; decide) ?_
    refine w_aload_n (i := 0) hX dX8_goOn_222 rfl rfl rfl ?_
    refine w_aload_n (i := 0) hX dX8_goOn_223 rfl rfl rfl ?_
    refine w_getR (j := 0) hX cl7 fl_RX8_22_7 rfl (by decide) rfl rfl dX8_goOn_224 rfl ?_
    refine w_iload_n (i := 1) hX dX8_goOn_227 rfl rfl rfl ?_
    refine c_V hX ml_RX8_26 cl0 dX8_goOn_228 rfl (m_sizeOf D hI u) rfl rfl rfl (by decide) (Nat.le_of_ble_eq_true rfl) ?_
    rintro _ _ ⟨rfl, rfl⟩ -
    all_goals try dsimp only [Option.toList, List.cons_append, List.nil_append]
    refine w_iload_n (i := 3) hX dX8_goOn_231 rfl rfl rfl ?_
    refine w_lload hX dX8_goOn_232 rfl rfl ?_
    refine c_V hX ml_RX8_66 cl7 dX8_goOn_234 rfl (m_comeTo D _ to _ hto) rfl rfl rfl (by decide) (Nat.le_of_ble_eq_true rfl) ?_
    rintro _ _ ⟨rfl, rfl⟩ -
    all_goals try dsimp only [Option.toList, List.cons_append, List.nil_append]
    refine w_goto (tgt := 250) hX dX8_goOn_237 (by decide) ?_
    exact e_v hX hF dX8_goOn_250 (by first | exact ⟨rfl, by rw [goD, edF, if_pos (by omega)]; simp only [ceD, ← Int.add_assoc]; try (congr 1; omega)⟩ | exact ⟨rfl, by rw [goD, edF, if_neg (by omega), if_pos (by omega)]; simp only [ceD, ← Int.add_assoc]; try (congr 1; omega)⟩ | exact ⟨rfl, by rw [goD, edF, if_neg (by omega), if_neg (by omega), if_pos (by omega), if_pos (by omega)]; simp only [ceD, ← Int.add_assoc]; try (congr 1; omega)⟩ | exact ⟨rfl, by rw [goD, edF, if_neg (by omega), if_neg (by omega), if_pos (by omega), if_neg (by omega)]; simp only [ceD, ← Int.add_assoc]; try (congr 1; omega)⟩ | exact ⟨rfl, by rw [goD, edF, if_neg (by omega), if_neg (by omega), if_neg (by omega), if_pos (by omega)]; simp only [ceD, ← Int.add_assoc]; try (congr 1; omega)⟩ | exact ⟨rfl, by rw [goD, edF, if_neg (by omega), if_neg (by omega), if_neg (by omega), if_neg (by omega), if_pos (by omega)]; simp only [ceD, ← Int.add_assoc]; try (congr 1; omega)⟩ | exact ⟨rfl, by rw [goD, edF, if_neg (by omega), if_neg (by omega), if_neg (by omega), if_neg (by omega), if_neg (by omega), if_pos (by omega)]; simp only [ceD, ← Int.add_assoc]; try (congr 1; omega)⟩ | exact ⟨rfl, by rw [goD, edF, if_neg (by omega), if_neg (by omega), if_neg (by omega), if_neg (by omega), if_neg (by omega), if_neg (by omega)]; simp only [ceD, ← Int.add_assoc]; try (congr 1; omega)⟩)
  refine w_tsw (tgt := 240) hX dX8_goOn_26 rfl (by rw [sw_dflt [10, 11, 13, 14, 15, 16, 18] (by decide) (by simp only [List.mem_cons, List.not_mem_nil, or_false]; omega)]; decide) ?_
  refine w_aload_n (i := 0) hX dX8_goOn_240 rfl rfl rfl ?_
  refine w_iload_n (i := 2) hX dX8_goOn_241 rfl rfl rfl ?_
  refine w_iconst hX dX8_goOn_242 rfl (by decide) ?_
  refine w_iadd hX dX8_goOn_243 rfl (by omega) ?_
  refine w_iload_n (i := 3) hX dX8_goOn_244 rfl rfl rfl ?_
  refine w_lload hX dX8_goOn_245 rfl rfl ?_
  refine c_V hX ml_RX8_66 cl7 dX8_goOn_247 rfl (m_comeTo D _ to _ hto) rfl rfl rfl (by decide) (Nat.le_of_ble_eq_true rfl) ?_
  rintro _ _ ⟨rfl, rfl⟩ -
  all_goals try dsimp only [Option.toList, List.cons_append, List.nil_append]
  exact e_v hX hF dX8_goOn_250 (by first | exact ⟨rfl, by rw [goD, edF, if_pos (by omega)]; simp only [ceD, ← Int.add_assoc]; try (congr 1; omega)⟩ | exact ⟨rfl, by rw [goD, edF, if_neg (by omega), if_pos (by omega)]; simp only [ceD, ← Int.add_assoc]; try (congr 1; omega)⟩ | exact ⟨rfl, by rw [goD, edF, if_neg (by omega), if_neg (by omega), if_pos (by omega), if_pos (by omega)]; simp only [ceD, ← Int.add_assoc]; try (congr 1; omega)⟩ | exact ⟨rfl, by rw [goD, edF, if_neg (by omega), if_neg (by omega), if_pos (by omega), if_neg (by omega)]; simp only [ceD, ← Int.add_assoc]; try (congr 1; omega)⟩ | exact ⟨rfl, by rw [goD, edF, if_neg (by omega), if_neg (by omega), if_neg (by omega), if_pos (by omega)]; simp only [ceD, ← Int.add_assoc]; try (congr 1; omega)⟩ | exact ⟨rfl, by rw [goD, edF, if_neg (by omega), if_neg (by omega), if_neg (by omega), if_neg (by omega), if_pos (by omega)]; simp only [ceD, ← Int.add_assoc]; try (congr 1; omega)⟩ | exact ⟨rfl, by rw [goD, edF, if_neg (by omega), if_neg (by omega), if_neg (by omega), if_neg (by omega), if_neg (by omega), if_pos (by omega)]; simp only [ceD, ← Int.add_assoc]; try (congr 1; omega)⟩ | exact ⟨rfl, by rw [goD, edF, if_neg (by omega), if_neg (by omega), if_neg (by omega), if_neg (by omega), if_neg (by omega), if_neg (by omega)]; simp only [ceD, ← Int.add_assoc]; try (congr 1; omega)⟩)
