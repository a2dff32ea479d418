/-! StackPass.open -/
def flD (D : Dd) (l : Nat) (a b : Int) : Dd := fun k j => if k = l ∧ a ≤ (j : Int) ∧ (j : Int) < b then -1 else D k j
theorem flD_0 (D : Dd) (l : Nat) (a : Int) : flD D l a a = D := by
  funext k j
  unfold flD
  rw [if_neg (by omega)]
theorem flD_s (D : Dd) (l : Nat) (a b : Int) (h0 : 0 ≤ b) (h : a ≤ b) : upD (flD D l a b) l b.toNat (-1) = flD D l a (b + 1) := by
  funext k j
  unfold flD
  rw [upD_rd]
  by_cases hk : k = l
  · subst hk
    rw [if_pos rfl]
    by_cases hj : j = b.toNat
    · rw [if_pos hj, if_pos ⟨rfl, by omega, by omega⟩]
    · rw [if_neg hj]
      by_cases h1 : a ≤ (j : Int) ∧ (j : Int) < b
      · rw [if_pos ⟨rfl, h1⟩, if_pos ⟨rfl, h1.1, by omega⟩]
      · rw [if_neg (fun q => h1 q.2), if_neg (by omega)]
  · rw [if_neg hk, if_neg (fun q => hk q.1), if_neg (fun q => hk q.1)]
theorem flD_ne {D : Dd} {l k j : Nat} {a b : Int} (h : k ≠ l) : flD D l a b k j = D k j := by
  unfold flD
  rw [if_neg (fun q => h q.1)]
def soD (D : Dd) (u : Int) : Dd := upD (upD (upD (flD (upD D 268 3 (szF D u)) 269 0 (szF D u)) 269 0 0) 269 (szF D u).toNat 0) 270 u.toNat 0

set_option maxRecDepth 100000 in
set_option maxHeartbeats 4000000 in
theorem l_stackOpen {X : Cx} {Q : State → Prop} {P : Option AV → Dd → Prop} (hX : GX X yX6_open cX6_open 3 none 2 0 0) (hF : FX X Q P) (D : Dd) (u sz : Int) (hu : 0 ≤ u ∧ u < 16) (hz : 0 ≤ sz ∧ sz ≤ 256) (hsz : D 268 3 = sz) (hyes : P none (upD (upD (upD (flD D 269 0 sz) 269 0 0) 269 sz.toNat 0) 270 u.toNat 0)) : ∀ (m : Nat) (i : Int), (sz - i).toNat < m → 0 ≤ i → i ≤ sz → W0 X Q 20 [vR 268, vI u, vI i] [] (flD D 269 0 i) := by
  intro m
  induction m with
  | zero =>
    intro i hm h0 h1
    exact absurd hm (Nat.not_lt_zero _)
  | succ m ih =>
    intro i hm h0 h1
    have zq_s : flD D 269 0 i 268 3 = sz := by rw [flD_ne (by decide)]; exact hsz
    refine w_iload_n (i := 2) hX dX6_open_20 rfl rfl rfl ?_
    refine w_aload_n (i := 0) hX dX6_open_21 rfl rfl rfl ?_
    refine w_getI (j := 3) hX cl5 fl_RX6_34_5 rfl (by decide) rfl dX6_open_22 rfl ?_
    rw [zq_s]
    refine w_icmp_ge (tgt := 41) hX dX6_open_25 rfl (by decide) (fun h25 => ?_) (fun h25 => ?_)
    · have zq_e : i = sz := by omega
      subst zq_e
      refine w_aload_n (i := 0) hX dX6_open_41 rfl rfl rfl ?_
      refine w_getR (j := 1) hX cl5 fl_RX6_9_5 rfl (by decide) rfl rfl dX6_open_42 rfl ?_
      refine w_iconst hX dX6_open_45 rfl (by decide) ?_
      refine w_iconst hX dX6_open_46 rfl (by decide) ?_
      refine w_iast hX rfl (by decide) (by decide) dX6_open_47 rfl ?_
      refine w_aload_n (i := 0) hX dX6_open_48 rfl rfl rfl ?_
      refine w_getR (j := 1) hX cl5 fl_RX6_9_5 rfl (by decide) rfl rfl dX6_open_49 rfl ?_
      refine w_aload_n (i := 0) hX dX6_open_52 rfl rfl rfl ?_
      refine w_getI (j := 3) hX cl5 fl_RX6_34_5 rfl (by decide) rfl dX6_open_53 rfl ?_
      try simp +decide only [upD_rd, ↓reduceIte]
      rw [zq_s]
      refine w_iconst hX dX6_open_56 rfl (by decide) ?_
      refine w_iast hX rfl (by omega) (by omega) dX6_open_57 rfl ?_
      refine w_iload_n (i := 1) hX dX6_open_58 rfl rfl rfl ?_
      refine w_if_lt (tgt := 75) hX dX6_open_59 rfl (by decide) (fun h59 => ?_) (fun h59 => ?_)
      · exfalso; omega
      · refine w_iload_n (i := 1) hX dX6_open_62 rfl rfl rfl ?_
        refine w_bipush hX dX6_open_63 rfl (by decide) ?_
        refine w_icmp_ge (tgt := 75) hX dX6_open_65 rfl (by decide) (fun h65 => ?_) (fun h65 => ?_)
        · exfalso; omega
        · refine w_aload_n (i := 0) hX dX6_open_68 rfl rfl rfl ?_
          refine w_getR (j := 2) hX cl5 fl_RX6_15_5 rfl (by decide) rfl rfl dX6_open_69 rfl ?_
          refine w_iload_n (i := 1) hX dX6_open_72 rfl rfl rfl ?_
          refine w_iconst hX dX6_open_73 rfl (by decide) ?_
          refine w_iast hX rfl (by omega) (by omega) dX6_open_74 rfl ?_
          exact e_v hX hF dX6_open_75 hyes
    · refine w_aload_n (i := 0) hX dX6_open_28 rfl rfl rfl ?_
      refine w_getR (j := 1) hX cl5 fl_RX6_9_5 rfl (by decide) rfl rfl dX6_open_29 rfl ?_
      refine w_iload_n (i := 2) hX dX6_open_32 rfl rfl rfl ?_
      refine w_iconst hX dX6_open_33 rfl (by decide) ?_
      refine w_iast hX rfl (by omega) (by omega) dX6_open_34 rfl ?_
      refine w_iinc hX dX6_open_35 rfl rfl (by decide) (by omega) ?_
      dsimp only [st1X, st2X, klX_I, klX_L, klX_R, klX_S, klX_N]
      refine w_goto (tgt := 20) hX dX6_open_38 (by decide) ?_
      rw [flD_s D 269 0 i h0 h0]
      exact ih (i + 1) (by omega) (by omega) (by omega)

set_option maxRecDepth 100000 in
set_option maxHeartbeats 4000000 in
theorem m_stackOpen (D : Dd) (hI : InC D) (u : Int) (hu : 0 ≤ u ∧ u < 16) : MC 2 yX6_open cX6_open 3 none [vR 268, vI u] D (Is none (soD D u)) := by
  refine MC.mk [vR 268, vI u, vN] (by decide) (Nat.le_of_ble_eq_true rfl) rfl (fun X Q hX hF hok hol => ?_)
  have hz := sz_256 hI u
  refine w_aload_n (i := 0) hX dX6_open_0 rfl rfl rfl ?_
  refine w_aload_n (i := 0) hX dX6_open_1 rfl rfl rfl ?_
  refine w_getR (j := 0) hX cl5 fl_RX6_18_5 rfl (by decide) rfl rfl dX6_open_2 rfl ?_
  refine w_iload_n (i := 1) hX dX6_open_5 rfl rfl rfl ?_
  refine c_V hX ml_RX6_22 cl0 dX6_open_6 rfl (m_sizeOf D hI u) rfl rfl rfl (by decide) (Nat.le_of_ble_eq_true rfl) ?_
  rintro _ _ ⟨rfl, rfl⟩ -
  all_goals try dsimp only [Option.toList, List.cons_append, List.nil_append]
  refine w_sipush hX dX6_open_9 rfl (by decide) ?_
  refine w_min hX ml_RX6_28 (by decide) (Nat.le_of_ble_eq_true rfl) ⟨by decide, by decide⟩ dX6_open_12 rfl ?_
  rw [if_neg (by omega)]
  refine w_putI (j := 3) hX cl5 fl_RX6_34_5 rfl (by decide) rfl rfl (Or.inl rfl) dX6_open_15 rfl ?_
  refine w_iconst hX dX6_open_18 rfl (by decide) ?_
  refine w_istore_n (i := 2) hX dX6_open_19 rfl rfl (by decide) ?_
  dsimp only [st1X, st2X, klX_I, klX_L, klX_R, klX_S, klX_N]
  have zq_l := l_stackOpen hX hF (upD D 268 3 (szF D u)) u (szF D u) hu hz (upD_eq _ _ _ _) ⟨rfl, rfl⟩ _ 0 (Nat.lt_succ_self _) (by omega) (by omega)
  rw [flD_0] at zq_l
  exact zq_l
