/-! The reference: unitFault, prove -/
theorem hs_of {D : Dd} {k : Int} (h : ¬ lpM D k) (h13 : (D 283 (D 279 10 + k).toNat) = 13) : HS D k (k - 1) 12 ∧ (D 283 (D 279 10 + ((D 285 (D 279 10 + k).toNat) - 1)).toNat) = 14 ∧ (D 284 (D 279 10 + ((D 285 (D 279 10 + k).toNat) - 1)).toNat) = k := by
  have q := fun z => h ((lq_13 h13).mpr (Or.inl z))
  refine ⟨Classical.byContradiction fun z => q (Or.inl z), Classical.byContradiction fun z => q (Or.inr (Or.inl z)), Classical.byContradiction fun z => q (Or.inr (Or.inr z))⟩
theorem WV.of {D : Dd} {u : Int} (hu : u < 16) (h1 : mkLn D u) (h2 : mkLp D) : WV D := fun k h0 hm => by
  have q := lnM_0 (h1 k h0 hm)
  refine ⟨fun z => ?_, fun z => ?_, fun z => ?_⟩
  · have q5 := q.2.2.2.2
    clear q
    unfold gwM at q5
    omega
  · have q5 := q.2.2.2.2
    clear q
    unfold gwM at q5
    obtain ⟨a1, a2, a3⟩ := hs_of (h2 k h0 hm) z
    unfold HS at a1
    have q1 := (lnM_0 (h1 (k - 1) (by omega) (by omega))).1
    unfold wfP at q1
    refine ⟨by omega, by omega, ?_, by omega⟩
    by_cases e : (D 285 (D 279 10 + k).toNat) - 1 = k
    · rw [e] at a2; omega
    · omega
  · have q2 := q.2.1
    clear q
    unfold wuM at q2
    omega
theorem WV.kp {D D2 : Dd} (h : WV D) (k : keepR D D2) : WV D2 := by
  unfold WV
  simp only [k 283 _ (by decide) (by decide), k 284 _ (by decide) (by decide), k 285 _ (by decide) (by decide), k 279 _ (by decide) (by decide)]
  exact h
theorem wyR.kp {D D2 : Dd} (h : wyR D) (k : keepR D D2) : wyR D2 := by
  unfold wyR
  simp only [k 288 _ (by decide) (by decide), k 289 _ (by decide) (by decide), k 290 _ (by decide) (by decide)]
  exact h
noncomputable abbrev m3 (D : Dd) (u : Int) : Dd := stM u (D 279 11).toNat (moD D u)
theorem keepR.m3 (D : Dd) (u : Int) : keepR D (m3 D u) := (keepR.mo D u).tr keepR.st
/-- what the last passes do, when lines and loops are good -/
def UF3 (D : Dd) (u : Int) (r : Option AV) (D2 : Dd) : Prop :=
  (∃ i : Nat, (i : Int) < D 279 11 ∧ 0 < sfM (stM u i (moD D u)) u i ∧ (∀ j : Nat, j < i → sfM (stM u j (moD D u)) u j = 0) ∧ some (vI (sfM (stM u i (moD D u)) u i)) = r ∧ ∃ D1, keepR D D1 ∧ waD D1 u i = D2) ∨
  ((∀ j : Nat, (j : Int) < D 279 11 → sfM (stM u j (moD D u)) u j = 0) ∧
   ((1000000000 < syF (m3 D u) ∧ some (vI 11) = r ∧ waD (upD (syD (m3 D u)) 290 u.toNat (syF (m3 D u))) u (-1) = D2) ∨
    (syF (m3 D u) ≤ 1000000000 ∧ some (vI 0) = r ∧ upD (syD (m3 D u)) 290 u.toNat (syF (m3 D u)) = D2)))
def UF2 (D : Dd) (u : Int) (r : Option AV) (D2 : Dd) : Prop :=
  (∃ i : Int, 0 ≤ i ∧ i < D 279 11 ∧ lpM D i ∧ (∀ j : Int, 0 ≤ j → j < i → ¬ lpM D j) ∧ some (vI 7) = r ∧ waD D u i = D2) ∨
  (mkLp D ∧ UF3 D u r D2)
def UF1 (D : Dd) (u : Int) (r : Option AV) (D2 : Dd) : Prop :=
  (∃ i : Int, 0 ≤ i ∧ i < D 279 11 ∧ 0 < lnM D i u ∧ (∀ j : Int, 0 ≤ j → j < i → lnM D j u = 0) ∧ some (vI (lnM D i u)) = r ∧ waD D u i = D2) ∨
  (mkLn D u ∧ UF2 D u r D2)
def UFo (D : Dd) (u : Int) (r : Option AV) (D2 : Dd) : Prop :=
  (mpM D u ∧ some (vI 1) = r ∧ waD D u (-1) = D2) ∨ (¬ mpM D u ∧ UF1 (frD D u) u r D2)

set_option maxRecDepth 100000 in
set_option maxHeartbeats 4000000 in
theorem t_uf4 {X : Cx} {Q : State → Prop} {P : Option AV → Dd → Prop} (hX : GX X yX10_unitFault cX10_unitFault 4 (some .int) 6 0 0) (hF : FX X Q P) (D : Dd) (hF0 : FM D) (u : Int) (hu : 0 ≤ u ∧ u < 16) (hL : ∀ k : Int, 0 ≤ k → k < D 279 11 → LOK D u k) (hp : dqM D u) (hw : wyR D) (hv : WV D) (w1 w2 : AV) (hyes : ∀ r D2, UF3 D u r D2 → P r D2) : W0 X Q 142 [vR 279, vI u, w1, w2] [] (fiD D (D 279 11 + 1)) := by
  refine w_aload_n (i := 0) hX dX10_unitFault_142 rfl rfl rfl ?_
  refine w_getR (j := 16) hX cl9 fl_RX10_44_9 rfl (by decide) rfl rfl dX10_unitFault_143 rfl ?_
  refine w_iload_n (i := 1) hX dX10_unitFault_146 rfl rfl rfl ?_
  refine w_iconst hX dX10_unitFault_147 rfl (by decide) ?_
  refine w_iast hX rfl (by omega) (by omega) dX10_unitFault_148 rfl ?_
  refine w_iconst hX dX10_unitFault_149 rfl (by decide) ?_
  refine w_istore_n (i := 2) hX dX10_unitFault_150 rfl rfl (by decide) ?_
  dsimp only [st1X, st2X, klX_I, klX_L, klX_R, klX_S, klX_N]
  refine l_uf4 hX hF D hF0 u hu hL (fun r D2 zq_r => hyes r D2 (Or.inl zq_r)) (fun zq_0 w1 w2 => ?_) _ 0 _ (Nat.lt_succ_self _) (by unfold FM at hF0; omega) (fun j zq_j => absurd zq_j (Nat.not_lt_zero _)) (mo_dz D u) (mo_dp hp)
  exact t_uf5 hX hF (m3 D u) u hu ⟨hF0.kp (keepR.m3 D u), hw.kp (keepR.m3 D u), hv.kp (keepR.m3 D u)⟩ w1 w2 (fun r D2 zq_r => hyes r D2 (Or.inr ⟨zq_0, zq_r⟩))

set_option maxRecDepth 100000 in
set_option maxHeartbeats 4000000 in
theorem l_uf3 {X : Cx} {Q : State → Prop} {P : Option AV → Dd → Prop} (hX : GX X yX10_unitFault cX10_unitFault 4 (some .int) 6 0 0) (hF : FX X Q P) (D : Dd) (hF0 : FM D) (u : Int) (hgo : ∀ w1 w2, W0 X Q 142 [vR 279, vI u, w1, w2] [] (fiD D (D 279 11 + 1))) : ∀ (m : Nat) (k : Int) (w1 : AV), (D 279 11 + 1 - k).toNat < m → 0 ≤ k → k ≤ D 279 11 + 1 → W0 X Q 113 [vR 279, vI u, vI k, w1] [] (fiD D k) := by
  intro m
  induction m with
  | zero =>
    intro k w1 hm h0 h1
    exact absurd hm (Nat.not_lt_zero _)
  | succ m ih =>
    intro k w1 hm h0 h1
    have zq_F := hF0
    unfold FM at zq_F
    refine w_iload_n (i := 2) hX dX10_unitFault_113 rfl rfl rfl ?_
    refine w_aload_n (i := 0) hX dX10_unitFault_114 rfl rfl rfl ?_
    refine w_getI (j := 11) hX cl9 fl_RX10_131_9 rfl (by decide) rfl dX10_unitFault_115 rfl ?_
    rw [fi_k (by decide)]
    refine w_icmp_gt (tgt := 142) hX dX10_unitFault_118 rfl (by decide) (fun h118 => ?_) (fun h118 => ?_)
    · have zq_e : D 279 11 + 1 = k := by omega
      rw [zq_e] at hgo
      exact hgo _ _
    · refine w_aload_n (i := 0) hX dX10_unitFault_121 rfl rfl rfl ?_
      refine w_getR (j := 12) hX cl9 fl_RX10_31_9 rfl (by decide) rfl rfl dX10_unitFault_122 rfl ?_
      refine w_iload_n (i := 2) hX dX10_unitFault_125 rfl rfl rfl ?_
      refine w_iload_n (i := 2) hX dX10_unitFault_126 rfl rfl rfl ?_
      refine w_if_ne (tgt := 134) hX dX10_unitFault_127 rfl (by decide) (fun h127 => ?_) (fun h127 => ?_)
      · refine w_iconst hX dX10_unitFault_134 rfl (by decide) ?_
        refine w_iast hX rfl (by omega) (by omega) dX10_unitFault_135 rfl ?_
        refine w_iinc hX dX10_unitFault_136 rfl rfl (by decide) (by omega) ?_
        dsimp only [st1X, st2X, klX_I, klX_L, klX_R, klX_S, klX_N]
        refine w_goto (tgt := 113) hX dX10_unitFault_139 (by decide) ?_
        have zq_s := fi_s D k h0
        first | rw [if_pos (by omega)] at zq_s | rw [if_neg (by omega)] at zq_s
        rw [zq_s]
        exact ih (k + 1) _ (by omega) (by omega) (by omega)
      · refine w_iconst hX dX10_unitFault_130 rfl (by decide) ?_
        refine w_goto (tgt := 135) hX dX10_unitFault_131 (by decide) ?_
        refine w_iast hX rfl (by omega) (by omega) dX10_unitFault_135 rfl ?_
        refine w_iinc hX dX10_unitFault_136 rfl rfl (by decide) (by omega) ?_
        dsimp only [st1X, st2X, klX_I, klX_L, klX_R, klX_S, klX_N]
        refine w_goto (tgt := 113) hX dX10_unitFault_139 (by decide) ?_
        have zq_s := fi_s D k h0
        first | rw [if_pos (by omega)] at zq_s | rw [if_neg (by omega)] at zq_s
        rw [zq_s]
        exact ih (k + 1) _ (by omega) (by omega) (by omega)

set_option maxRecDepth 100000 in
set_option maxHeartbeats 4000000 in
theorem l_uf2 {X : Cx} {Q : State → Prop} {P : Option AV → Dd → Prop} (hX : GX X yX10_unitFault cX10_unitFault 4 (some .int) 6 0 0) (hF : FX X Q P) (D : Dd) (hF0 : FM D) (u : Int) (hln : mkLn D u) (hyes : ∀ r D2, (∃ i : Int, 0 ≤ i ∧ i < D 279 11 ∧ lpM D i ∧ (∀ j : Int, 0 ≤ j → j < i → ¬ lpM D j) ∧ some (vI 7) = r ∧ waD D u i = D2) → P r D2) (hgo : mkLp D → ∀ w1 w2, W0 X Q 111 [vR 279, vI u, w1, w2] [] D) : ∀ (m : Nat) (k : Int) (w1 : AV), (D 279 11 - k).toNat < m → 0 ≤ k → k ≤ D 279 11 → (∀ j : Int, 0 ≤ j → j < k → ¬ lpM D j) → W0 X Q 80 [vR 279, vI u, vI k, w1] [] D := by
  intro m
  induction m with
  | zero =>
    intro k w1 hm h0 h1 hn
    exact absurd hm (Nat.not_lt_zero _)
  | succ m ih =>
    intro k w1 hm h0 h1 hn
    have zq_F := hF0
    unfold FM at zq_F
    refine w_iload_n (i := 2) hX dX10_unitFault_80 rfl rfl rfl ?_
    refine w_aload_n (i := 0) hX dX10_unitFault_81 rfl rfl rfl ?_
    refine w_getI (j := 11) hX cl9 fl_RX10_131_9 rfl (by decide) rfl dX10_unitFault_82 rfl ?_
    refine w_icmp_ge (tgt := 111) hX dX10_unitFault_85 rfl (by decide) (fun h85 => ?_) (fun h85 => ?_)
    · exact hgo (fun j zq_1 zq_2 => hn j zq_1 (by omega)) _ _
    · refine w_aload_n (i := 0) hX dX10_unitFault_88 rfl rfl rfl ?_
      refine w_iload_n (i := 2) hX dX10_unitFault_89 rfl rfl rfl ?_
      refine c_V hX ml_RX10_206 cl9 dX10_unitFault_90 rfl (r_isWrongLoop D hF0 hln.V3 k (by omega) (lnM_0 (hln k (by omega) (by omega))).2.2.2.2) rfl rfl rfl (by decide) (Nat.le_of_ble_eq_true rfl) ?_
      rintro _ _ ⟨rfl, rfl⟩ -
      all_goals try dsimp only [Option.toList, List.cons_append, List.nil_append]
      refine w_if_eq (tgt := 105) hX dX10_unitFault_93 rfl (by decide) (fun h93 => ?_) (fun h93 => ?_)
      · rw [b2_0] at h93
        refine w_iinc hX dX10_unitFault_105 rfl rfl (by decide) (by omega) ?_
        dsimp only [st1X, st2X, klX_I, klX_L, klX_R, klX_S, klX_N]
        refine w_goto (tgt := 80) hX dX10_unitFault_108 (by decide) ?_
        exact ih (k + 1) _ (by omega) (by omega) (by omega) (fun j zq_1 zq_2 => by
          by_cases zq_e : j = k
          · subst zq_e; exact h93
          · exact hn j zq_1 (by omega))
      · rw [b2_n] at h93
        refine w_aload_n (i := 0) hX dX10_unitFault_96 rfl rfl rfl ?_
        refine w_bipush hX dX10_unitFault_97 rfl (by decide) ?_
        refine w_iload_n (i := 1) hX dX10_unitFault_99 rfl rfl rfl ?_
        refine w_iload_n (i := 2) hX dX10_unitFault_100 rfl rfl rfl ?_
        refine c_V hX ml_RX10_198 cl9 dX10_unitFault_101 rfl (r_wrongAt D 7 u k) rfl rfl rfl (by decide) (Nat.le_of_ble_eq_true rfl) ?_
        rintro _ _ ⟨rfl, rfl⟩ -
        all_goals try dsimp only [Option.toList, List.cons_append, List.nil_append]
        exact e_i hX hF dX10_unitFault_104 (hyes _ _ ⟨k, h0, by omega, h93, hn, rfl, rfl⟩)

set_option maxRecDepth 100000 in
set_option maxHeartbeats 4000000 in
theorem l_uf1 {X : Cx} {Q : State → Prop} {P : Option AV → Dd → Prop} (hX : GX X yX10_unitFault cX10_unitFault 4 (some .int) 6 0 0) (hF : FX X Q P) (D : Dd) (hF0 : FM D) (hM : MF D) (u : Int) (hu : 0 ≤ u ∧ u < D 279 1) (hyes : ∀ r D2, (∃ i : Int, 0 ≤ i ∧ i < D 279 11 ∧ 0 < lnM D i u ∧ (∀ j : Int, 0 ≤ j → j < i → lnM D j u = 0) ∧ some (vI (lnM D i u)) = r ∧ waD D u i = D2) → P r D2) (hgo : mkLn D u → ∀ w1 w2, W0 X Q 78 [vR 279, vI u, w1, w2] [] D) : ∀ (m : Nat) (k : Int) (w1 : AV), (D 279 11 - k).toNat < m → 0 ≤ k → k ≤ D 279 11 → (∀ j : Int, 0 ≤ j → j < k → lnM D j u = 0) → W0 X Q 45 [vR 279, vI u, vI k, w1] [] D := by
  intro m
  induction m with
  | zero =>
    intro k w1 hm h0 h1 hn
    exact absurd hm (Nat.not_lt_zero _)
  | succ m ih =>
    intro k w1 hm h0 h1 hn
    have zq_F := hF0
    unfold FM at zq_F
    have zq_l := lnM_in D k u
    refine w_iload_n (i := 2) hX dX10_unitFault_45 rfl rfl rfl ?_
    refine w_aload_n (i := 0) hX dX10_unitFault_46 rfl rfl rfl ?_
    refine w_getI (j := 11) hX cl9 fl_RX10_131_9 rfl (by decide) rfl dX10_unitFault_47 rfl ?_
    refine w_icmp_ge (tgt := 78) hX dX10_unitFault_50 rfl (by decide) (fun h50 => ?_) (fun h50 => ?_)
    · exact hgo (fun j zq_1 zq_2 => hn j zq_1 (by omega)) _ _
    · refine w_aload_n (i := 0) hX dX10_unitFault_53 rfl rfl rfl ?_
      refine w_iload_n (i := 2) hX dX10_unitFault_54 rfl rfl rfl ?_
      refine w_iload_n (i := 1) hX dX10_unitFault_55 rfl rfl rfl ?_
      refine c_V hX ml_RX10_202 cl9 dX10_unitFault_56 rfl (r_lineFault D hF0 hM k u (by omega) hu) rfl rfl rfl (by decide) (Nat.le_of_ble_eq_true rfl) ?_
      rintro _ _ ⟨rfl, rfl⟩ -
      all_goals try dsimp only [Option.toList, List.cons_append, List.nil_append]
      refine w_istore_n (i := 3) hX dX10_unitFault_59 rfl rfl (by decide) ?_
      dsimp only [st1X, st2X, klX_I, klX_L, klX_R, klX_S, klX_N]
      refine w_iload_n (i := 3) hX dX10_unitFault_60 rfl rfl rfl ?_
      refine w_if_le (tgt := 72) hX dX10_unitFault_61 rfl (by decide) (fun h61 => ?_) (fun h61 => ?_)
      · refine w_iinc hX dX10_unitFault_72 rfl rfl (by decide) (by omega) ?_
        dsimp only [st1X, st2X, klX_I, klX_L, klX_R, klX_S, klX_N]
        refine w_goto (tgt := 45) hX dX10_unitFault_75 (by decide) ?_
        exact ih (k + 1) _ (by omega) (by omega) (by omega) (fun j zq_1 zq_2 => by
          by_cases zq_e : j = k
          · subst zq_e; omega
          · exact hn j zq_1 (by omega))
      · refine w_aload_n (i := 0) hX dX10_unitFault_64 rfl rfl rfl ?_
        refine w_iload_n (i := 3) hX dX10_unitFault_65 rfl rfl rfl ?_
        refine w_iload_n (i := 1) hX dX10_unitFault_66 rfl rfl rfl ?_
        refine w_iload_n (i := 2) hX dX10_unitFault_67 rfl rfl rfl ?_
        refine c_V hX ml_RX10_198 cl9 dX10_unitFault_68 rfl (r_wrongAt D _ u k) rfl rfl rfl (by decide) (Nat.le_of_ble_eq_true rfl) ?_
        rintro _ _ ⟨rfl, rfl⟩ -
        all_goals try dsimp only [Option.toList, List.cons_append, List.nil_append]
        exact e_i hX hF dX10_unitFault_71 (hyes _ _ ⟨k, h0, by omega, by omega, hn, rfl, rfl⟩)

set_option maxRecDepth 100000 in
set_option maxHeartbeats 4000000 in
theorem t_uf3 {X : Cx} {Q : State → Prop} {P : Option AV → Dd → Prop} (hX : GX X yX10_unitFault cX10_unitFault 4 (some .int) 6 0 0) (hF : FX X Q P) (D : Dd) (hF0 : FM D) (u : Int) (hu : 0 ≤ u ∧ u < 16) (hL : ∀ k : Int, 0 ≤ k → k < D 279 11 → LOK D u k) (hp : dqM D u) (hw : wyR D) (hv : WV D) (w1 w2 : AV) (hyes : ∀ r D2, UF3 D u r D2 → P r D2) : W0 X Q 111 [vR 279, vI u, w1, w2] [] D := by
  refine w_iconst hX dX10_unitFault_111 rfl (by decide) ?_
  refine w_istore_n (i := 2) hX dX10_unitFault_112 rfl rfl (by decide) ?_
  dsimp only [st1X, st2X, klX_I, klX_L, klX_R, klX_S, klX_N]
  have zq_F := hF0
  unfold FM at zq_F
  have zq_l := l_uf3 hX hF D hF0 u (fun w1 w2 => t_uf4 hX hF D hF0 u hu hL hp hw hv w1 w2 hyes) _ 0 w2 (Nat.lt_succ_self _) (by omega) (by omega)
  rw [fi_0] at zq_l
  exact zq_l

set_option maxRecDepth 100000 in
set_option maxHeartbeats 4000000 in
theorem t_uf2 {X : Cx} {Q : State → Prop} {P : Option AV → Dd → Prop} (hX : GX X yX10_unitFault cX10_unitFault 4 (some .int) 6 0 0) (hF : FX X Q P) (D : Dd) (hF0 : FM D) (u : Int) (hu : 0 ≤ u ∧ u < 16) (hln : mkLn D u) (hp : dqM D u) (hw : wyR D) (w1 w2 : AV) (hyes : ∀ r D2, UF2 D u r D2 → P r D2) : W0 X Q 78 [vR 279, vI u, w1, w2] [] D := by
  refine w_iconst hX dX10_unitFault_78 rfl (by decide) ?_
  refine w_istore_n (i := 2) hX dX10_unitFault_79 rfl rfl (by decide) ?_
  dsimp only [st1X, st2X, klX_I, klX_L, klX_R, klX_S, klX_N]
  refine l_uf2 hX hF D hF0 u hln (fun r D2 zq_r => hyes r D2 (Or.inl zq_r)) (fun zq_p w1 w2 => ?_) _ 0 _ (Nat.lt_succ_self _) (by omega) (by unfold FM at hF0; omega) (fun j zq_1 zq_2 => by omega)
  exact t_uf3 hX hF D hF0 u hu (fun k zq_1 zq_2 => hln.L hF0 zq_1 zq_2) hp hw (WV.of hu.2 hln zq_p) w1 w2 (fun r D2 zq_r => hyes r D2 (Or.inr ⟨zq_p, zq_r⟩))

theorem fr_k {D : Dd} {u : Int} {a b : Nat} (h : a ≠ 279) : frD D u a b = D a b := by
  unfold frD
  rw [upD_k h, upD_k h]
theorem fr_j {D : Dd} {u : Int} {b : Nat} (h1 : b ≠ 10) (h2 : b ≠ 11) : frD D u 279 b = D 279 b := by
  unfold frD
  rw [upD_j h2, upD_j h1]
theorem fr_10 (D : Dd) (u : Int) : frD D u 279 10 = D 282 u.toNat := by
  unfold frD
  rw [upD_j (by decide), upD_eq]
theorem fr_11 (D : Dd) (u : Int) : frD D u 279 11 = D 282 (u + 1).toNat - D 282 u.toNat := by
  unfold frD
  rw [upD_eq]
theorem MF.fr {D : Dd} (h : MF D) (u : Int) : MF (frD D u) := by
  unfold MF InM
  rw [fr_j (by decide) (by decide), fr_j (by decide) (by decide)]
  simp only [fr_k (show 282 ≠ 279 by decide), fr_k (show 281 ≠ 279 by decide), fr_k (show 280 ≠ 279 by decide)]
  exact h
theorem FM.fr {D : Dd} (h : InM D) {u : Int} (hu : 0 ≤ u ∧ u < D 279 1) : FM (frD D u) := by
  have h1 := h.u hu.1 hu.2
  have h2 := h.2.1
  unfold FM
  rw [fr_10, fr_11]
  omega

set_option maxRecDepth 100000 in
set_option maxHeartbeats 4000000 in
theorem r_unitFault (D : Dd) (hM : MF D) (u : Int) (hu : 0 ≤ u ∧ u < D 279 1) (hp : dqM D u) (hw : wyR D) : MC 6 yX10_unitFault cX10_unitFault 4 (some .int) [vR 279, vI u] D (fun r D2 => UFo D u r D2) := by
  refine MC.mk [vR 279, vI u, vN, vN] (by decide) (Nat.le_of_ble_eq_true rfl) rfl (fun X Q hX hF hok hol => ?_)
  have zq_i := hM.1.u hu.1 hu.2
  have zq_j := hM.1.1
  have zq_k := hM.1.2.1
  refine w_aload_n (i := 0) hX dX10_unitFault_0 rfl rfl rfl ?_
  refine w_iload_n (i := 1) hX dX10_unitFault_1 rfl rfl rfl ?_
  refine c_V hX ml_RX10_195 cl9 dX10_unitFault_2 rfl (r_placeIsWrong D hM u (by omega)) rfl rfl rfl (by decide) (Nat.le_of_ble_eq_true rfl) ?_
  rintro _ _ ⟨rfl, rfl⟩ -
  all_goals try dsimp only [Option.toList, List.cons_append, List.nil_append]
  refine w_if_eq (tgt := 16) hX dX10_unitFault_5 rfl (by decide) (fun h5 => ?_) (fun h5 => ?_)
  · rw [b2_0] at h5
    refine w_aload_n (i := 0) hX dX10_unitFault_16 rfl rfl rfl ?_
    refine w_aload_n (i := 0) hX dX10_unitFault_17 rfl rfl rfl ?_
    refine w_getR (j := 4) hX cl9 fl_RX10_16_9 rfl (by decide) rfl rfl dX10_unitFault_18 rfl ?_
    refine w_iload_n (i := 1) hX dX10_unitFault_21 rfl rfl rfl ?_
    refine w_iald hX rfl (by omega) (by omega) dX10_unitFault_22 rfl ?_
    refine w_putI (j := 10) hX cl9 fl_RX10_125_9 rfl (by decide) rfl rfl (Or.inl rfl) dX10_unitFault_23 rfl ?_
    refine w_aload_n (i := 0) hX dX10_unitFault_26 rfl rfl rfl ?_
    refine w_aload_n (i := 0) hX dX10_unitFault_27 rfl rfl rfl ?_
    refine w_getR (j := 4) hX cl9 fl_RX10_16_9 rfl (by decide) rfl rfl dX10_unitFault_28 rfl ?_
    refine w_iload_n (i := 1) hX dX10_unitFault_31 rfl rfl rfl ?_
    refine w_iconst hX dX10_unitFault_32 rfl (by decide) ?_
    refine w_iadd hX dX10_unitFault_33 rfl (by omega) ?_
    refine w_iald hX rfl (by omega) (by omega) dX10_unitFault_34 rfl ?_
    rw [upD_k (by decide)]
    refine w_aload_n (i := 0) hX dX10_unitFault_35 rfl rfl rfl ?_
    refine w_getI (j := 10) hX cl9 fl_RX10_125_9 rfl (by decide) rfl dX10_unitFault_36 rfl ?_
    rw [upD_eq]
    refine w_isub hX dX10_unitFault_39 rfl (by omega) ?_
    refine w_putI (j := 11) hX cl9 fl_RX10_131_9 rfl (by decide) rfl rfl (Or.inl rfl) dX10_unitFault_40 rfl ?_
    refine w_iconst hX dX10_unitFault_43 rfl (by decide) ?_
    refine w_istore_n (i := 2) hX dX10_unitFault_44 rfl rfl (by decide) ?_
    dsimp only [st1X, st2X, klX_I, klX_L, klX_R, klX_S, klX_N]
    refine l_uf1 hX hF (frD D u) (FM.fr hM.1 hu) (hM.fr u) u (by rw [fr_j (by decide) (by decide)]; exact hu) (fun r D2 zq_r => Or.inr ⟨h5, Or.inl zq_r⟩) (fun zq_n w1 w2 => ?_) _ 0 _ (Nat.lt_succ_self _) (by omega) (by rw [fr_11]; omega) (fun j zq_1 zq_2 => by omega)
    exact t_uf2 hX hF (frD D u) (FM.fr hM.1 hu) u (by omega) zq_n (fun v zq_v => by rw [fr_k (by decide)]; exact hp v zq_v) (by unfold wyR; simp only [fr_k (show 288 ≠ 279 by decide), fr_k (show 289 ≠ 279 by decide), fr_k (show 290 ≠ 279 by decide)]; exact hw) w1 w2 (fun r D2 zq_r => Or.inr ⟨h5, Or.inr ⟨zq_n, zq_r⟩⟩)
  · rw [b2_n] at h5
    refine w_aload_n (i := 0) hX dX10_unitFault_8 rfl rfl rfl ?_
    refine w_iconst hX dX10_unitFault_9 rfl (by decide) ?_
    refine w_iload_n (i := 1) hX dX10_unitFault_10 rfl rfl rfl ?_
    refine w_iconst hX dX10_unitFault_11 rfl (by decide) ?_
    refine c_V hX ml_RX10_198 cl9 dX10_unitFault_12 rfl (r_wrongAt D 1 u (-1)) rfl rfl rfl (by decide) (Nat.le_of_ble_eq_true rfl) ?_
    rintro _ _ ⟨rfl, rfl⟩ -
    all_goals try dsimp only [Option.toList, List.cons_append, List.nil_append]
    exact e_i hX hF dX10_unitFault_15 (Or.inl ⟨h5, rfl, rfl⟩)
