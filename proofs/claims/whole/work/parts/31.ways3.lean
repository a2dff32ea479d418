/-! Ways.measure -/
/-- what the walks need of a unit's loops -/
def VLP (D : Dd) (u : Int) : Prop := V13 D u ∧ ∀ i : Int, 0 ≤ i → i < szF D u → (D (atF D u i) 0) = 13 → i + 2 ≤ (D (atF D u i) 2) ∧ (D (atF D u i) 2) ≤ szF D u
theorem VLP.sm {D D2 : Dd} {u : Int} (h : VLP D u) (k : smC D D2) (hI : InC D) : VLP D2 u := ⟨h.1.sm k hI, fun i h0 h1 h2 => by
  rw [sz_sm k] at h1 ⊢
  rw [f_sm k hI] at h2 ⊢
  exact h.2 i h0 h1 h2⟩
/-- one loop's round -/
noncomputable def rdS (D : Dd) (u i : Int) : Dd := upD (lgD D u (i + 1) ((D (atF D u i) 2) - 1) 1) 273 i.toNat (if lgD D u (i + 1) ((D (atF D u i) 2) - 1) 1 272 ((D (atF D u i) 2) - 1).toNat = -1 then -1 else lgD D u (i + 1) ((D (atF D u i) 2) - 1) 1 272 ((D (atF D u i) 2) - 1).toNat + 1)
noncomputable def rdW (u : Int) : Nat → Dd → Dd
  | 0, D => D
  | m + 1, D => rdW u m (itP ((D (atF D u m) 0) = 13) (rdS D u m) D)
def keepW (D D2 : Dd) : Prop := ∀ k j, k ≠ 272 → k ≠ 273 → k ≠ 274 → D2 k j = D k j
theorem keepW.rf (D : Dd) : keepW D D := fun _ _ _ _ _ => rfl
theorem keepW.tr {D D' D2 : Dd} (h : keepW D D') (h2 : keepW D' D2) : keepW D D2 := fun k j a b c => (h2 k j a b c).trans (h k j a b c)
theorem keepW.sm {D D2 : Dd} (h : keepW D D2) : smC D D2 := fun k j hk => h k j (by omega) (by omega) (by omega)
theorem keepB.W {D D2 : Dd} (h : keepB D D2) : keepW D D2 := fun k j a _ _ => h k j a
theorem keepW.rd1 {D : Dd} {u i : Int} : keepW D (rdS D u i) := fun k j a b c => by
  unfold rdS
  rw [upD_k b]
  exact keepB.lg k j a
theorem keepW.rd {u : Int} : ∀ {m : Nat} {D : Dd}, keepW D (rdW u m D)
  | 0, D => keepW.rf D
  | m + 1, D => by
    show keepW D (rdW u m (itP ((D (atF D u m) 0) = 13) (rdS D u m) D))
    by_cases h : (D (atF D u m) 0) = 13
    · rw [it_t h]; exact keepW.rd1.tr keepW.rd
    · rw [it_f h]; exact keepW.rd
theorem bfB.it {u to : Int} : ∀ {m : Nat} {i : Int} {D : Dd}, InC D → bfB D → rdB D → grB D → V13 D u → (0 ≤ i ∧ i + m ≤ 257) → bfB (itW u to m i D)
  | 0, _, _, _, h, _, _, _, _ => h
  | m + 1, i, D, hI, h, hr, hg, hv, hi => by
    show bfB (itW u to m (i + 1) (itP (D 272 i.toNat ≠ -1) (goD D u i to) D))
    by_cases hq : D 272 i.toNat ≠ -1
    · rw [it_t hq]
      have := h i.toNat (by omega)
      exact bfB.it (in_sm keepB.go.sm hI) (bfB.go h hr hg hv (by omega)) (hr.kp keepB.go) (hg.kp keepB.go) (hv.sm keepB.go.sm hI) (by omega)
    · rw [it_f hq]; exact bfB.it hI h hr hg hv (by omega)
theorem bfB.lg {D : Dd} {u a b s : Int} (hI : InC D) (h : bfB D) (hr : rdB D) (hg : grB D) (hv : V13 D u) (ha : 0 ≤ a ∧ b ≤ 256) (hs : 0 ≤ s ∧ s ≤ 1) : bfB (lgD D u a b s) := by
  unfold lgD
  by_cases hab : a ≤ b
  · exact bfB.it (in_sm keepB.in.sm hI) (h.in (by omega)) (hr.kp keepB.in) (hg.kp keepB.in) (hv.sm keepB.in.sm hI) (by omega)
  · rw [show (b - a).toNat = 0 by omega]
    exact h.in (by omega)
/-- the numbers that measure keeps in their ranges -/
def wyB (D : Dd) : Prop := bfB D ∧ rdB D ∧ grB D
theorem wyB.rd1 {D : Dd} {u i : Int} (hI : InC D) (h : wyB D) (hv : V13 D u) (hi : 0 ≤ i ∧ i < 256) (hb : (D (atF D u i) 2) ≤ 257) (hb2 : 1 ≤ (D (atF D u i) 2)) : wyB (rdS D u i) := by
  have hl := bfB.lg (u := u) (a := i + 1) (b := (D (atF D u i) 2) - 1) (s := 1) hI h.1 h.2.1 h.2.2 hv (by omega) (by omega)
  have hx := hl ((D (atF D u i) 2) - 1).toNat (by omega)
  refine ⟨fun j hj => ?_, fun j hj => ?_, fun j hj => ?_⟩
  · unfold rdS; rw [upD_k (by decide)]; exact hl j hj
  · unfold rdS
    rw [upD_rd, if_pos rfl]
    split
    · split <;> omega
    · rw [keepB.lg _ _ (by decide)]; exact h.2.1 j hj
  · unfold rdS; rw [upD_k (by decide), keepB.lg _ _ (by decide)]; exact h.2.2 j hj
theorem wyB.rd {u : Int} : ∀ {m : Nat} {D : Dd}, InC D → wyB D → VLP D u → (m : Int) ≤ szF D u → wyB (rdW u m D)
  | 0, _, _, h, _, _ => h
  | m + 1, D, hI, h, hv, hm => by
    have hz := sz_256 hI u
    show wyB (rdW u m (itP ((D (atF D u m) 0) = 13) (rdS D u m) D))
    by_cases hq : (D (atF D u m) 0) = 13
    · rw [it_t hq]
      have h2 := hv.2 m (by omega) (by omega) hq
      exact wyB.rd (in_sm keepW.rd1.sm hI) (h.rd1 hI hv.1 (by omega) (by omega) (by omega)) (hv.sm keepW.rd1.sm hI) (by rw [sz_sm keepW.rd1.sm]; omega)
    · rw [it_f hq]; exact wyB.rd hI h hv (by omega)

set_option maxRecDepth 100000 in
set_option maxHeartbeats 4000000 in
theorem l_measure {X : Cx} {Q : State → Prop} {P : Option AV → Dd → Prop} (hX : GX X yX8_measure cX8_measure 7 (some .boolean) 4 0 0) (hF : FX X Q P) (u sz : Int) (hu : 0 ≤ u ∧ u < 16) : ∀ (m : Nat) (i : Int) (D : Dd) (w1 w2 w3 : AV), (i + 1).toNat < m → -1 ≤ i → i < sz → InC D → szF D u = sz → wyB D → VLP D u → (∀ D2 r, (1000000000 < lgD (rdW u (i + 1).toNat D) u 0 sz 0 272 sz.toNat ∧ some (vI 0) = r ∧ lgD (rdW u (i + 1).toNat D) u 0 sz 0 = D2) ∨ (lgD (rdW u (i + 1).toNat D) u 0 sz 0 272 sz.toNat ≤ 1000000000 ∧ some (vI 1) = r ∧ upD (lgD (rdW u (i + 1).toNat D) u 0 sz 0) 274 u.toNat (lgD (rdW u (i + 1).toNat D) u 0 sz 0 272 sz.toNat) = D2) → P r D2) → W0 X Q 19 [vR 271, vI u, vI sz, vI i, w1, w2, w3] [] D := by
  intro m
  induction m with
  | zero =>
    intro i D w1 w2 w3 hm h0 h1 hI hsz hw hv hP
    exact absurd hm (Nat.not_lt_zero _)
  | succ m ih =>
    intro i D w1 w2 w3 hm h0 h1 hI hsz hw hv hP
    have zq_z := sz_256 hI u
    refine w_iload_n (i := 3) hX dX8_measure_19 rfl rfl rfl ?_
    refine w_if_lt (tgt := 93) hX dX8_measure_20 rfl (by decide) (fun h20 => ?_) (fun h20 => ?_)
    · have zq_e : (i + 1).toNat = 0 := by omega
      rw [zq_e] at hP
      simp only [rdW] at hP
      refine w_aload_n (i := 0) hX dX8_measure_93 rfl rfl rfl ?_
      refine w_iload_n (i := 1) hX dX8_measure_94 rfl rfl rfl ?_
      refine w_iconst hX dX8_measure_95 rfl (by decide) ?_
      refine w_iload_n (i := 2) hX dX8_measure_96 rfl rfl rfl ?_
      refine w_lconst0 hX dX8_measure_97 rfl ?_
      refine c_V hX ml_RX8_51 cl7 dX8_measure_98 rfl (m_longest D hI u 0 sz 0 (by omega) (by omega) (by omega) hw.1 hw.2.1 hw.2.2 hv.1) rfl rfl rfl (by decide) (Nat.le_of_ble_eq_true rfl) ?_
      rintro _ _ ⟨rfl, rfl⟩ -
      have zq_x := bfB.lg (u := u) (a := 0) (b := sz) (s := 0) hI hw.1 hw.2.1 hw.2.2 hv.1 (by omega) (by omega) sz.toNat (by omega)
      all_goals try dsimp only [Option.toList, List.cons_append, List.nil_append]
      refine w_lstore_n (i := 3) hX dX8_measure_101 rfl rfl (by decide) ?_
      dsimp only [st1X, st2X, klX_I, klX_L, klX_R, klX_S, klX_N]
      refine w_lload_n (i := 3) hX dX8_measure_102 rfl rfl rfl ?_
      refine w_ldc2 (x := 1000000000) hX kl_RX8_57 dX8_measure_103 rfl (by decide) (by decide) ?_
      refine w_lcmp hX dX8_measure_106 rfl ?_
      refine w_if_gt (tgt := 120) hX dX8_measure_107 rfl (by decide) (fun h107 => ?_) (fun h107 => ?_)
      · rw [lc_gt] at h107
        refine w_iconst hX dX8_measure_120 rfl (by decide) ?_
        exact e_z hX hF dX8_measure_121 (by decide) (hP _ _ (Or.inl ⟨by omega, rfl, rfl⟩))
      · rw [lc_gt] at h107
        refine w_iload_n (i := 1) hX dX8_measure_110 rfl rfl rfl ?_
        refine w_if_lt (tgt := 120) hX dX8_measure_111 rfl (by decide) (fun h111 => ?_) (fun h111 => ?_)
        · exfalso; omega
        · refine w_iload_n (i := 1) hX dX8_measure_114 rfl rfl rfl ?_
          refine w_bipush hX dX8_measure_115 rfl (by decide) ?_
          refine w_icmp_lt (tgt := 122) hX dX8_measure_117 rfl (by decide) (fun h117 => ?_) (fun h117 => ?_)
          · refine w_aload_n (i := 0) hX dX8_measure_122 rfl rfl rfl ?_
            refine w_getR (j := 3) hX cl7 fl_RX8_18_7 rfl (by decide) rfl rfl dX8_measure_123 rfl ?_
            refine w_iload_n (i := 1) hX dX8_measure_126 rfl rfl rfl ?_
            refine w_lload_n (i := 3) hX dX8_measure_127 rfl rfl rfl ?_
            refine w_l2i hX dX8_measure_128 rfl (by omega) ?_
            refine w_iast hX rfl (by omega) (by omega) dX8_measure_129 rfl ?_
            refine w_iconst hX dX8_measure_130 rfl (by decide) ?_
            exact e_z hX hF dX8_measure_131 (by decide) (hP _ _ (Or.inr ⟨by omega, rfl, rfl⟩))
          · exfalso; omega
    · rw [show (i + 1).toNat = i.toNat + 1 by omega] at hP
      have zq_c : ((i.toNat : Nat) : Int) = i := by omega
      simp only [rdW, zq_c] at hP
      refine w_aload_n (i := 0) hX dX8_measure_23 rfl rfl rfl ?_
      refine w_getR (j := 0) hX cl7 fl_RX8_22_7 rfl (by decide) rfl rfl dX8_measure_24 rfl ?_
      refine w_iload_n (i := 1) hX dX8_measure_27 rfl rfl rfl ?_
      refine w_iload_n (i := 3) hX dX8_measure_28 rfl rfl rfl ?_
      refine c_V hX ml_RX8_38 cl0 dX8_measure_29 rfl (m_at D hI u i) rfl rfl rfl (by decide) (Nat.le_of_ble_eq_true rfl) ?_
      rintro _ _ ⟨rfl, rfl⟩ -
      all_goals try dsimp only [Option.toList, List.cons_append, List.nil_append]
      refine w_astore hX dX8_measure_32 rfl (by decide) ?_
      dsimp only [st1X, st2X, klX_I, klX_L, klX_R, klX_S, klX_N]
      refine w_aload hX dX8_measure_34 rfl rfl ?_
      refine w_getI (j := 0) hX cl2 fl_RX8_42_2 (K0_ins (at_ins hI u _)) (by decide) rfl dX8_measure_36 rfl ?_
      refine w_bipush hX dX8_measure_39 rfl (by decide) ?_
      refine w_icmp_ne (tgt := 87) hX dX8_measure_41 rfl (by decide) (fun h41 => ?_) (fun h41 => ?_)
      · rw [it_f h41] at hP
        refine w_iinc hX dX8_measure_87 rfl rfl (by decide) (by omega) ?_
        dsimp only [st1X, st2X, klX_I, klX_L, klX_R, klX_S, klX_N]
        refine w_goto (tgt := 19) hX dX8_measure_90 (by decide) ?_
        exact ih (i + -1) D _ _ _ (by omega) (by omega) (by omega) hI hsz hw hv (by rw [show (i + -1 + 1).toNat = i.toNat by omega]; exact hP)
      · have zq_v := hv.2 i (by omega) (by omega) (Classical.not_not.mp h41)
        rw [it_t (Classical.not_not.mp h41)] at hP
        refine w_aload_n (i := 0) hX dX8_measure_44 rfl rfl rfl ?_
        refine w_iload_n (i := 1) hX dX8_measure_45 rfl rfl rfl ?_
        refine w_iload_n (i := 3) hX dX8_measure_46 rfl rfl rfl ?_
        refine w_iconst hX dX8_measure_47 rfl (by decide) ?_
        refine w_iadd hX dX8_measure_48 rfl (by omega) ?_
        refine w_aload hX dX8_measure_49 rfl rfl ?_
        refine w_getI (j := 2) hX cl2 fl_RX8_48_2 (K0_ins (at_ins hI u _)) (by decide) rfl dX8_measure_51 rfl ?_
        refine w_iconst hX dX8_measure_54 rfl (by decide) ?_
        refine w_isub hX dX8_measure_55 rfl (by omega) ?_
        refine w_lconst1 hX dX8_measure_56 rfl ?_
        refine c_V hX ml_RX8_51 cl7 dX8_measure_57 rfl (m_longest D hI u (i + 1) ((D (atF D u i) 2) - 1) 1 (by omega) (by omega) (by omega) hw.1 hw.2.1 hw.2.2 hv.1) rfl rfl rfl (by decide) (Nat.le_of_ble_eq_true rfl) ?_
        rintro _ _ ⟨rfl, rfl⟩ -
        have zq_x := bfB.lg (u := u) (a := i + 1) (b := (D (atF D u i) 2) - 1) (s := 1) hI hw.1 hw.2.1 hw.2.2 hv.1 (by omega) (by omega) ((D (atF D u i) 2) - 1).toNat (by omega)
        all_goals try dsimp only [Option.toList, List.cons_append, List.nil_append]
        refine w_lstore hX dX8_measure_60 rfl (by decide) ?_
        dsimp only [st1X, st2X, klX_I, klX_L, klX_R, klX_S, klX_N]
        refine w_aload_n (i := 0) hX dX8_measure_62 rfl rfl rfl ?_
        refine w_getR (j := 2) hX cl7 fl_RX8_15_7 rfl (by decide) rfl rfl dX8_measure_63 rfl ?_
        refine w_iload_n (i := 3) hX dX8_measure_66 rfl rfl rfl ?_
        refine w_lload hX dX8_measure_67 rfl rfl ?_
        refine w_ldc2 (x := -1) hX kl_RX8_55 dX8_measure_69 rfl (by decide) (by decide) ?_
        refine w_lcmp hX dX8_measure_72 rfl ?_
        refine w_if_ne (tgt := 82) hX dX8_measure_73 rfl (by decide) (fun h73 => ?_) (fun h73 => ?_)
        · rw [lc_ne] at h73
          refine w_lload hX dX8_measure_82 rfl rfl ?_
          refine w_lconst1 hX dX8_measure_84 rfl ?_
          refine w_ladd hX dX8_measure_85 rfl (by omega) ?_
          refine w_last hX rfl (by omega) (by omega) dX8_measure_86 rfl ?_
          refine w_iinc hX dX8_measure_87 rfl rfl (by decide) (by omega) ?_
          dsimp only [st1X, st2X, klX_I, klX_L, klX_R, klX_S, klX_N]
          refine w_goto (tgt := 19) hX dX8_measure_90 (by decide) ?_
          rw [show upD (lgD D u (i + 1) ((D (atF D u i) 2) - 1) 1) 273 i.toNat _ = rdS D u i by unfold rdS; rw [if_neg (by omega)]]
          exact ih (i + -1) _ _ _ _ (by omega) (by omega) (by omega) (in_sm keepW.rd1.sm hI) (by rw [sz_sm keepW.rd1.sm]; exact hsz) (hw.rd1 hI hv.1 (by omega) (by omega) (by omega)) (hv.sm keepW.rd1.sm hI) (by rw [show (i + -1 + 1).toNat = i.toNat by omega]; exact hP)
        · rw [lc_ne] at h73
          refine w_ldc2 (x := -1) hX kl_RX8_55 dX8_measure_76 rfl (by decide) (by decide) ?_
          refine w_goto (tgt := 86) hX dX8_measure_79 (by decide) ?_
          refine w_last hX rfl (by omega) (by omega) dX8_measure_86 rfl ?_
          refine w_iinc hX dX8_measure_87 rfl rfl (by decide) (by omega) ?_
          dsimp only [st1X, st2X, klX_I, klX_L, klX_R, klX_S, klX_N]
          refine w_goto (tgt := 19) hX dX8_measure_90 (by decide) ?_
          rw [show upD (lgD D u (i + 1) ((D (atF D u i) 2) - 1) 1) 273 i.toNat _ = rdS D u i by unfold rdS; rw [if_pos (by omega)]]
          exact ih (i + -1) _ _ _ _ (by omega) (by omega) (by omega) (in_sm keepW.rd1.sm hI) (by rw [sz_sm keepW.rd1.sm]; exact hsz) (hw.rd1 hI hv.1 (by omega) (by omega) (by omega)) (hv.sm keepW.rd1.sm hI) (by rw [show (i + -1 + 1).toNat = i.toNat by omega]; exact hP)

set_option maxRecDepth 100000 in
set_option maxHeartbeats 4000000 in
theorem m_measure (D : Dd) (hI : InC D) (u : Int) (hu : 0 ≤ u ∧ u < 16) (hw : wyB D) (hv : VLP D u) : MC 4 yX8_measure cX8_measure 7 (some .boolean) [vR 271, vI u] D (fun r D2 => (1000000000 < lgD (rdW u (szF D u).toNat D) u 0 (szF D u) 0 272 (szF D u).toNat ∧ some (vI 0) = r ∧ lgD (rdW u (szF D u).toNat D) u 0 (szF D u) 0 = D2) ∨ (lgD (rdW u (szF D u).toNat D) u 0 (szF D u) 0 272 (szF D u).toNat ≤ 1000000000 ∧ some (vI 1) = r ∧ upD (lgD (rdW u (szF D u).toNat D) u 0 (szF D u) 0) 274 u.toNat (lgD (rdW u (szF D u).toNat D) u 0 (szF D u) 0 272 (szF D u).toNat) = D2)) := by
  refine MC.mk [vR 271, vI u, vN, vN, vN, vN, vN] (by decide) (Nat.le_of_ble_eq_true rfl) rfl (fun X Q hX hF hok hol => ?_)
  have zq_z := sz_256 hI u
  refine w_aload_n (i := 0) hX dX8_measure_0 rfl rfl rfl ?_
  refine w_getR (j := 0) hX cl7 fl_RX8_22_7 rfl (by decide) rfl rfl dX8_measure_1 rfl ?_
  refine w_iload_n (i := 1) hX dX8_measure_4 rfl rfl rfl ?_
  refine c_V hX ml_RX8_26 cl0 dX8_measure_5 rfl (m_sizeOf D hI u) rfl rfl rfl (by decide) (Nat.le_of_ble_eq_true rfl) ?_
  rintro _ _ ⟨rfl, rfl⟩ -
  all_goals try dsimp only [Option.toList, List.cons_append, List.nil_append]
  refine w_sipush hX dX8_measure_8 rfl (by decide) ?_
  refine w_min hX ml_RX8_32 (by decide) (Nat.le_of_ble_eq_true rfl) ⟨by decide, by decide⟩ dX8_measure_11 rfl ?_
  rw [if_neg (by omega)]
  refine w_istore_n (i := 2) hX dX8_measure_14 rfl rfl (by decide) ?_
  dsimp only [st1X, st2X, klX_I, klX_L, klX_R, klX_S, klX_N]
  refine w_iload_n (i := 2) hX dX8_measure_15 rfl rfl rfl ?_
  refine w_iconst hX dX8_measure_16 rfl (by decide) ?_
  refine w_isub hX dX8_measure_17 rfl (by omega) ?_
  refine w_istore_n (i := 3) hX dX8_measure_18 rfl rfl (by decide) ?_
  dsimp only [st1X, st2X, klX_I, klX_L, klX_R, klX_S, klX_N]
  exact l_measure hX hF u (szF D u) hu _ (szF D u - 1) D _ _ _ (Nat.lt_succ_self _) (by omega) (by omega) hI rfl hw hv (fun D2 r zq_h => by rw [show (szF D u - 1 + 1).toNat = (szF D u).toNat by omega] at zq_h; exact zq_h)
