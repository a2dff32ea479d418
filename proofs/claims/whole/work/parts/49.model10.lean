/-! The reference: stepsOf, stackFault, wrongAt -/
noncomputable def syD (D : Dd) : Dd := dn (stWy (-1)) (D 279 11).toNat (D 279 11 - 1) (dn rdM2 (D 279 11).toNat (D 279 11 - 1) D)
noncomputable def syF (D : Dd) : Int := if D 279 11 = 0 then 0 else syD D 288 0

set_option maxRecDepth 100000 in
set_option maxHeartbeats 4000000 in
theorem l_last {X : Cx} {Q : State → Prop} {P : Option AV → Dd → Prop} (hX : GX X yX10_stepsOf cX10_stepsOf 3 (some .long) 5 0 0) (hF : FX X Q P) (m0 : Int) (hm0 : 0 ≤ m0 ∧ m0 ≤ 256) : ∀ (m : Nat) (k : Int) (D : Dd) (w1 : AV), (k + 1).toNat < m → -1 ≤ k → k < m0 → WS D → D 279 11 = m0 → (∀ D2, D2 = dn (stWy (-1)) (k + 1).toNat k D → WS D2 → W0 X Q 103 [vR 279, vI (-1), w1] [] D2) → W0 X Q 81 [vR 279, vI k, w1] [] D := by
  intro m
  induction m with
  | zero =>
    intro k D w1 hm h0 h1 hS hmm hz
    exact absurd hm (Nat.not_lt_zero _)
  | succ m ih =>
    intro k D w1 hm h0 h1 hS hmm hz
    have zq_F := hS.1
    unfold FM at zq_F
    refine w_iload_n (i := 1) hX dX10_stepsOf_81 rfl rfl rfl ?_
    refine w_if_lt (tgt := 103) hX dX10_stepsOf_82 rfl (by decide) (fun h82 => ?_) (fun h82 => ?_)
    · have zq_e : k = -1 := by omega
      subst zq_e
      exact hz D rfl hS
    · refine w_aload_n (i := 0) hX dX10_stepsOf_85 rfl rfl rfl ?_
      refine w_getR (j := 13) hX cl9 fl_RX10_34_9 rfl (by decide) rfl rfl dX10_stepsOf_86 rfl ?_
      refine w_iload_n (i := 1) hX dX10_stepsOf_89 rfl rfl rfl ?_
      refine w_aload_n (i := 0) hX dX10_stepsOf_90 rfl rfl rfl ?_
      refine w_iload_n (i := 1) hX dX10_stepsOf_91 rfl rfl rfl ?_
      refine w_iconst hX dX10_stepsOf_92 rfl (by decide) ?_
      refine c_V hX ml_RX10_192 cl9 dX10_stepsOf_93 rfl (r_way D hS.1 hS.2.1 k (-1) (by omega) (fun zq_q => absurd zq_q (by decide)) (hS.2.2 k (by omega) (by omega)).1 (fun zq_q => by have zq_r := (hS.2.2 k (by omega) (by omega)).2.1 zq_q; omega) (hS.2.2 k (by omega) (by omega)).2.2) rfl rfl rfl (by decide) (Nat.le_of_ble_eq_true rfl) ?_
      rintro _ _ ⟨rfl, rfl⟩ -
      all_goals try dsimp only [Option.toList, List.cons_append, List.nil_append]
      refine w_last hX rfl (by omega) (by omega) dX10_stepsOf_96 rfl ?_
      refine w_iinc hX dX10_stepsOf_97 rfl rfl (by decide) (by omega) ?_
      dsimp only [st1X, st2X, klX_I, klX_L, klX_R, klX_S, klX_N]
      refine w_goto (tgt := 81) hX dX10_stepsOf_100 (by decide) ?_
      have zq_k := keepY.st (-1) k D
      refine ih (k + -1) (stWy (-1) k D) _ (by omega) (by omega) (by omega) (hS.st (-1) (by omega)) ((zq_k _ _ (by decide) (by decide)).trans hmm) (fun D2 zq_d => hz D2 (by rw [zq_d, show (k + 1).toNat = (k + -1 + 1).toNat + 1 by omega]; rfl))

set_option maxRecDepth 100000 in
set_option maxHeartbeats 4000000 in
theorem t_stepsEnd {X : Cx} {Q : State → Prop} {P : Option AV → Dd → Prop} (hX : GX X yX10_stepsOf cX10_stepsOf 3 (some .long) 5 0 0) (hF : FX X Q P) (D : Dd) (w1 : AV) (hyes : P (some (vL (if D 279 11 = 0 then 0 else D 288 0))) D) : W0 X Q 103 [vR 279, vI (-1), w1] [] D := by
  refine w_aload_n (i := 0) hX dX10_stepsOf_103 rfl rfl rfl ?_
  refine w_getI (j := 11) hX cl9 fl_RX10_131_9 rfl (by decide) rfl dX10_stepsOf_104 rfl ?_
  refine w_if_ne (tgt := 114) hX dX10_stepsOf_107 rfl (by decide) (fun h107 => ?_) (fun h107 => ?_)
  · refine w_aload_n (i := 0) hX dX10_stepsOf_114 rfl rfl rfl ?_
    refine w_getR (j := 13) hX cl9 fl_RX10_34_9 rfl (by decide) rfl rfl dX10_stepsOf_115 rfl ?_
    refine w_iconst hX dX10_stepsOf_118 rfl (by decide) ?_
    refine w_lald hX rfl (by omega) (by omega) dX10_stepsOf_119 rfl ?_
    exact e_l hX hF dX10_stepsOf_120 (by first | (rw [if_pos (by omega)] at hyes; exact hyes) | (rw [if_neg (by omega)] at hyes; exact hyes))
  · refine w_lconst0 hX dX10_stepsOf_110 rfl ?_
    refine w_goto (tgt := 120) hX dX10_stepsOf_111 (by decide) ?_
    exact e_l hX hF dX10_stepsOf_120 (by first | (rw [if_pos (by omega)] at hyes; exact hyes) | (rw [if_neg (by omega)] at hyes; exact hyes))

set_option maxRecDepth 100000 in
set_option maxHeartbeats 4000000 in
theorem t_steps3 {X : Cx} {Q : State → Prop} {P : Option AV → Dd → Prop} (hX : GX X yX10_stepsOf cX10_stepsOf 3 (some .long) 5 0 0) (hF : FX X Q P) (m0 : Int) (hm0 : 0 ≤ m0 ∧ m0 ≤ 256) (D : Dd) (w1 : AV) (hS : WS D) (hmm : D 279 11 = m0) (hyes : ∀ D2, D2 = dn (stWy (-1)) m0.toNat (m0 - 1) D → P (some (vL (if D2 279 11 = 0 then 0 else D2 288 0))) D2) : W0 X Q 74 [vR 279, vI (-1), w1] [] D := by
  refine w_aload_n (i := 0) hX dX10_stepsOf_74 rfl rfl rfl ?_
  refine w_getI (j := 11) hX cl9 fl_RX10_131_9 rfl (by decide) rfl dX10_stepsOf_75 rfl ?_
  rw [hmm]
  refine w_iconst hX dX10_stepsOf_78 rfl (by decide) ?_
  refine w_isub hX dX10_stepsOf_79 rfl (by omega) ?_
  refine w_istore_n (i := 1) hX dX10_stepsOf_80 rfl rfl (by decide) ?_
  dsimp only [st1X, st2X, klX_I, klX_L, klX_R, klX_S, klX_N]
  refine l_last hX hF m0 hm0 _ (m0 - 1) D _ (Nat.lt_succ_self _) (by omega) (by omega) hS hmm (fun D2 zq_d _ => ?_)
  exact t_stepsEnd hX hF D2 w1 (hyes D2 (by rw [zq_d, show m0 - 1 + 1 = m0 by omega]))

set_option maxRecDepth 100000 in
set_option maxHeartbeats 4000000 in
theorem r_stepsOf (D : Dd) (hS : WS D) : MC 5 yX10_stepsOf cX10_stepsOf 3 (some .long) [vR 279] D (Is (some (vL (syF D))) (syD D)) := by
  refine MC.mk [vR 279, vN, vN] (by decide) (Nat.le_of_ble_eq_true rfl) rfl (fun X Q hX hF hok hol => ?_)
  have zq_F := hS.1
  unfold FM at zq_F
  refine w_aload_n (i := 0) hX dX10_stepsOf_0 rfl rfl rfl ?_
  refine w_getI (j := 11) hX cl9 fl_RX10_131_9 rfl (by decide) rfl dX10_stepsOf_1 rfl ?_
  refine w_iconst hX dX10_stepsOf_4 rfl (by decide) ?_
  refine w_isub hX dX10_stepsOf_5 rfl (by omega) ?_
  refine w_istore_n (i := 1) hX dX10_stepsOf_6 rfl rfl (by decide) ?_
  dsimp only [st1X, st2X, klX_I, klX_L, klX_R, klX_S, klX_N]
  refine l_outer hX hF (D 279 11) (by omega) trivial _ (D 279 11 - 1) D _ (Nat.lt_succ_self _) (by omega) (by omega) hS rfl (fun D2 w2 zq_d zq_S => ?_)
  have zq_k : keepY D D2 := by rw [zq_d]; exact keepY.dn keepY.rd2
  have zq_m : D2 279 11 = D 279 11 := zq_k _ _ (by decide) (by decide)
  refine t_steps3 hX hF (D 279 11) (by omega) D2 w2 zq_S zq_m ?_
  intro D3 zq_d3
  have zq_e : D3 = syD D := by rw [zq_d3, zq_d, show D 279 11 - 1 + 1 = D 279 11 by omega]; rfl
  subst zq_e
  have zq_m3 : syD D 279 11 = D 279 11 := by rw [zq_d3]; exact (keepY.dn (keepY.st (-1)) _ _ (by decide) (by decide)).trans zq_m
  refine ⟨?_, rfl⟩
  rw [zq_m3]
  rfl

def waD (D : Dd) (u k : Int) : Dd := upD (upD D 279 18 u) 279 19 k

set_option maxRecDepth 100000 in
set_option maxHeartbeats 4000000 in
theorem r_wrongAt (D : Dd) (f u k : Int) : MC 1 yX10_wrongAt cX10_wrongAt 4 (some .int) [vR 279, vI f, vI u, vI k] D (Is (some (vI f)) (waD D u k)) := by
  refine MC.mk [vR 279, vI f, vI u, vI k] (by decide) (Nat.le_of_ble_eq_true rfl) rfl (fun X Q hX hF hok hol => ?_)
  refine w_aload_n (i := 0) hX dX10_wrongAt_0 rfl rfl rfl ?_
  refine w_iload_n (i := 2) hX dX10_wrongAt_1 rfl rfl rfl ?_
  refine w_putI (j := 18) hX cl9 fl_RX10_47_9 rfl (by decide) rfl rfl (Or.inl rfl) dX10_wrongAt_2 rfl ?_
  refine w_aload_n (i := 0) hX dX10_wrongAt_5 rfl rfl rfl ?_
  refine w_iload_n (i := 3) hX dX10_wrongAt_6 rfl rfl rfl ?_
  refine w_putI (j := 19) hX cl9 fl_RX10_51_9 rfl (by decide) rfl rfl (Or.inl rfl) dX10_wrongAt_7 rfl ?_
  refine w_iload_n (i := 1) hX dX10_wrongAt_10 rfl rfl rfl ?_
  exact e_i hX hF dX10_wrongAt_11 ⟨rfl, rfl⟩

/-- what stackFault needs of a line -/
def LOK (D : Dd) (u k : Int) : Prop := (0 ≤ (D 283 (D 279 10 + k).toNat) ∧ (D 283 (D 279 10 + k).toNat) ≤ 18) ∧ ((D 283 (D 279 10 + k).toNat) = 10 ∨ (D 283 (D 279 10 + k).toNat) = 11 ∨ (D 283 (D 279 10 + k).toNat) = 14 → 0 ≤ (D 284 (D 279 10 + k).toNat) ∧ (D 284 (D 279 10 + k).toNat) ≤ 256) ∧ ((D 283 (D 279 10 + k).toNat) = 13 → 0 ≤ (D 285 (D 279 10 + k).toNat) ∧ (D 285 (D 279 10 + k).toNat) ≤ 256) ∧ ((D 283 (D 279 10 + k).toNat) = 15 ∨ (D 283 (D 279 10 + k).toNat) = 16 → 0 ≤ (D 284 (D 279 10 + k).toNat) ∧ (D 284 (D 279 10 + k).toNat) < u)
theorem r_stackFault (D : Dd) (hF0 : FM D) (k u : Int) (hk : 0 ≤ k ∧ k < D 279 11) (hu : 0 ≤ u ∧ u < 16) (hL : LOK D u k) (hd : 0 ≤ D 287 k.toNat ∧ D 287 k.toNat ≤ 64) (hdp : ∀ v : Nat, (v : Int) ≤ u → 0 ≤ D 291 v ∧ D 291 v ≤ 10000) : MC 2 yX10_stackFault cX10_stackFault 7 (some .int) [vR 279, vI k, vI u] D (fun r D2 => some (vI (skM D k u ((D 283 (D 279 10 + k).toNat)) ((D 284 (D 279 10 + k).toNat)) ((D 285 (D 279 10 + k).toNat)))) = r ∧ keepR D D2 ∧ (skM D k u ((D 283 (D 279 10 + k).toNat)) ((D 284 (D 279 10 + k).toNat)) ((D 285 (D 279 10 + k).toNat)) = 0 → skMD D k u ((D 283 (D 279 10 + k).toNat)) ((D 284 (D 279 10 + k).toNat)) ((D 285 (D 279 10 + k).toNat)) = D2)) := by
  obtain ⟨h1, h2, h3, h4⟩ := hL
  by_cases e : (D 283 (D 279 10 + k).toNat) = 10
  · have zq := r_sf10 D hF0 k u hk hu e (h2 (by omega)) hd hdp
    rw [← e] at zq; exact zq
  by_cases e : (D 283 (D 279 10 + k).toNat) = 11
  · have zq := r_sf11 D hF0 k u hk hu e (h2 (by omega)) hd hdp
    rw [← e] at zq; exact zq
  by_cases e : (D 283 (D 279 10 + k).toNat) = 13
  · have zq := r_sf13 D hF0 k u hk hu e (h3 (by omega)) hd hdp
    rw [← e] at zq; exact zq
  by_cases e : (D 283 (D 279 10 + k).toNat) = 14
  · have zq := r_sf14 D hF0 k u hk hu e (h2 (by omega)) hd hdp
    rw [← e] at zq; exact zq
  by_cases e : (D 283 (D 279 10 + k).toNat) = 15
  · have zq := r_sf15 D hF0 k u hk hu e (h4 (by omega)) hd hdp
    rw [← e] at zq; exact zq
  by_cases e : (D 283 (D 279 10 + k).toNat) = 16
  · have zq := r_sf16 D hF0 k u hk hu e (h4 (by omega)) hd hdp
    rw [← e] at zq; exact zq
  by_cases e : (D 283 (D 279 10 + k).toNat) = 18
  · have zq := r_sf18 D hF0 k u hk hu e hd hdp
    rw [← e] at zq; exact zq
  exact r_sfO D hF0 k u hk hu _ rfl (by omega) h1 hd hdp
