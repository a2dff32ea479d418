/-! LoopPass: the checks -/
abbrev giQ (D : Dd) (u f t j : Int) : Prop := (j ≤ t ∧ t < (D (atF D u j) 2)) ∧ ¬ (j < f ∧ f < (D (atF D u j) 2))
abbrev wcQ (D : Dd) (u i j : Int) : Prop := (D (atF D u j) 1) = (D (atF D u i) 1) ∧ j < i ∧ i < (D (atF D u j) 2)
abbrev wnQ (D : Dd) (u i j : Int) : Prop := j < i ∧ i < (D (atF D u j) 2) ∧ (D (atF D u j) 2) < (D (atF D u i) 2)
def ex13 (D : Dd) (u : Int) (p : Int → Prop) : Prop := ∃ j : Int, 0 ≤ j ∧ j < szF D u ∧ (D (atF D u j) 0) = 13 ∧ p j
theorem NXP.x13 {D : Dd} {u : Int} (h : NXP D u) (p : Int → Prop) : (∃ k : Nat, (k : Int) < D 266 2 ∧ p (D 267 k)) ↔ ex13 D u p := h.ex p
/-- fault 7, of the instruction i of the unit u -/
def lpP (D : Dd) (u i : Int) : Prop :=
  (((D (atF D u i) 0) = 10 ∨ (D (atF D u i) 0) = 11) ∧ ex13 D u (giQ D u i ((D (atF D u i) 1)))) ∨
  ((D (atF D u i) 0) = 12 ∧ ((D (atF D u (i + 1)) 0) ≠ 13 ∨ (D (atF D u (i + 1)) 1) ≠ (D (atF D u i) 1) ∨ ex13 D u (wcQ D u i))) ∨
  ((D (atF D u i) 0) = 13 ∧ ((D (atF D u (i - 1)) 0) ≠ 12 ∨ (D (atF D u (i - 1)) 1) ≠ (D (atF D u i) 1) ∨ (D (atF D u ((D (atF D u i) 2) - 1)) 0) ≠ 14 ∨ (D (atF D u ((D (atF D u i) 2) - 1)) 1) ≠ i ∨ ex13 D u (wnQ D u i))) ∨
  ((D (atF D u i) 0) = 14 ∧ ((D (atF D u ((D (atF D u i) 1))) 0) ≠ 13 ∨ (D (atF D u ((D (atF D u i) 1))) 2) ≠ i + 1))

set_option maxRecDepth 100000 in
set_option maxHeartbeats 4000000 in
theorem l_goesInto {X : Cx} {Q : State → Prop} {P : Option AV → Dd → Prop} (hX : GX X yX3_goesIntoLoop cX3_goesIntoLoop 9 (some .boolean) 2 0 0) (hF : FX X Q P) (D : Dd) (hI : InC D) (u : Int) (hN : NXP D u) (f t : Int) (hyes : (∃ k : Nat, (k : Int) < D 266 2 ∧ giQ D u f t (D 267 k)) → P (some (vI 1)) D) (hno : ¬ (∃ k : Nat, (k : Int) < D 266 2 ∧ giQ D u f t (D 267 k)) → P (some (vI 0)) D) : ∀ (m : Nat) (j : Int) (w1 w2 w3 w4 : AV), (D 266 2 - j).toNat < m → 0 ≤ j → (∀ k : Nat, (k : Int) < j → ¬ giQ D u f t (D 267 k)) → W0 X Q 3 [vR 266, vI u, vI f, vI t, vI j, w1, w2, w3, w4] [] D := by
  intro m
  induction m with
  | zero =>
    intro j w1 w2 w3 w4 hm h0 hn
    exact absurd hm (Nat.not_lt_zero _)
  | succ m ih =>
    intro j w1 w2 w3 w4 hm h0 hn
    have hc := hN.1
    refine w_iload hX dX3_goesIntoLoop_3 rfl rfl ?_
    refine w_aload_n (i := 0) hX dX3_goesIntoLoop_5 rfl rfl rfl ?_
    refine w_getI (j := 2) hX cl3 fl_RX3_15_3 rfl (by decide) rfl dX3_goesIntoLoop_6 rfl ?_
    refine w_icmp_ge (tgt := 92) hX dX3_goesIntoLoop_9 rfl (by decide) (fun h9 => ?_) (fun h9 => ?_)
    · refine w_iconst hX dX3_goesIntoLoop_92 rfl (by decide) ?_
      exact e_z hX hF dX3_goesIntoLoop_93 (by decide) (hno (fun ⟨k, k1, k2⟩ => hn k (by omega) k2))
    · refine w_aload_n (i := 0) hX dX3_goesIntoLoop_12 rfl rfl rfl ?_
      refine w_getR (j := 1) hX cl3 fl_RX3_9_3 rfl (by decide) rfl rfl dX3_goesIntoLoop_13 rfl ?_
      refine w_iload hX dX3_goesIntoLoop_16 rfl rfl ?_
      refine w_iald hX rfl (by omega) (by omega) dX3_goesIntoLoop_18 rfl ?_
      refine w_istore hX dX3_goesIntoLoop_19 rfl (by decide) ?_
      dsimp only [st1X, st2X, klX_I, klX_L, klX_R, klX_S, klX_N]
      refine w_aload_n (i := 0) hX dX3_goesIntoLoop_21 rfl rfl rfl ?_
      refine w_getR (j := 0) hX cl3 fl_RX3_19_3 rfl (by decide) rfl rfl dX3_goesIntoLoop_22 rfl ?_
      refine w_iload_n (i := 1) hX dX3_goesIntoLoop_25 rfl rfl rfl ?_
      refine w_iload hX dX3_goesIntoLoop_26 rfl rfl ?_
      refine c_V hX ml_RX3_29 cl0 dX3_goesIntoLoop_28 rfl (m_at D hI u (D 267 j.toNat)) rfl rfl rfl (by decide) (Nat.le_of_ble_eq_true rfl) ?_
      rintro _ _ ⟨rfl, rfl⟩ -
      all_goals try dsimp only [Option.toList, List.cons_append, List.nil_append]
      refine w_getI (j := 2) hX cl2 fl_RX3_55_2 (K0_ins (at_ins hI u _)) (by decide) rfl dX3_goesIntoLoop_31 rfl ?_
      refine w_istore hX dX3_goesIntoLoop_34 rfl (by decide) ?_
      dsimp only [st1X, st2X, klX_I, klX_L, klX_R, klX_S, klX_N]
      refine w_iload_n (i := 3) hX dX3_goesIntoLoop_36 rfl rfl rfl ?_
      refine w_iload hX dX3_goesIntoLoop_37 rfl rfl ?_
      refine w_icmp_lt (tgt := 52) hX dX3_goesIntoLoop_39 rfl (by decide) (fun h39 => ?_) (fun h39 => ?_)
      · refine w_iconst hX dX3_goesIntoLoop_52 rfl (by decide) ?_
        refine w_istore hX dX3_goesIntoLoop_53 rfl (by decide) ?_
        dsimp only [st1X, st2X, klX_I, klX_L, klX_R, klX_S, klX_N]
        refine w_iload_n (i := 2) hX dX3_goesIntoLoop_55 rfl rfl rfl ?_
        refine w_iload hX dX3_goesIntoLoop_56 rfl rfl ?_
        refine w_icmp_le (tgt := 71) hX dX3_goesIntoLoop_58 rfl (by decide) (fun h58 => ?_) (fun h58 => ?_)
        · refine w_iconst hX dX3_goesIntoLoop_71 rfl (by decide) ?_
          refine w_istore hX dX3_goesIntoLoop_72 rfl (by decide) ?_
          dsimp only [st1X, st2X, klX_I, klX_L, klX_R, klX_S, klX_N]
          refine w_iload hX dX3_goesIntoLoop_74 rfl rfl ?_
          refine w_if_eq (tgt := 86) hX dX3_goesIntoLoop_76 rfl (by decide) (fun _ => ?_) (fun h76 => absurd (by decide) h76)
          refine w_iinc hX dX3_goesIntoLoop_86 rfl rfl (by decide) (by omega) ?_
          dsimp only [st1X, st2X, klX_I, klX_L, klX_R, klX_S, klX_N]
          refine w_goto (tgt := 3) hX dX3_goesIntoLoop_89 (by decide) ?_
          exact ih (j + 1) _ _ _ _ (by omega) (by omega) (fun k hk => by
            by_cases e : k = j.toNat
            · rw [e]; omega
            · exact hn k (by omega))
        · refine w_iload_n (i := 2) hX dX3_goesIntoLoop_61 rfl rfl rfl ?_
          refine w_iload hX dX3_goesIntoLoop_62 rfl rfl ?_
          refine w_icmp_ge (tgt := 71) hX dX3_goesIntoLoop_64 rfl (by decide) (fun h64 => ?_) (fun h64 => ?_)
          · refine w_iconst hX dX3_goesIntoLoop_71 rfl (by decide) ?_
            refine w_istore hX dX3_goesIntoLoop_72 rfl (by decide) ?_
            dsimp only [st1X, st2X, klX_I, klX_L, klX_R, klX_S, klX_N]
            refine w_iload hX dX3_goesIntoLoop_74 rfl rfl ?_
            refine w_if_eq (tgt := 86) hX dX3_goesIntoLoop_76 rfl (by decide) (fun _ => ?_) (fun h76 => absurd (by decide) h76)
            refine w_iinc hX dX3_goesIntoLoop_86 rfl rfl (by decide) (by omega) ?_
            dsimp only [st1X, st2X, klX_I, klX_L, klX_R, klX_S, klX_N]
            refine w_goto (tgt := 3) hX dX3_goesIntoLoop_89 (by decide) ?_
            exact ih (j + 1) _ _ _ _ (by omega) (by omega) (fun k hk => by
              by_cases e : k = j.toNat
              · rw [e]; omega
              · exact hn k (by omega))
          · refine w_iconst hX dX3_goesIntoLoop_67 rfl (by decide) ?_
            refine w_goto (tgt := 72) hX dX3_goesIntoLoop_68 (by decide) ?_
            refine w_istore hX dX3_goesIntoLoop_72 rfl (by decide) ?_
            dsimp only [st1X, st2X, klX_I, klX_L, klX_R, klX_S, klX_N]
            refine w_iload hX dX3_goesIntoLoop_74 rfl rfl ?_
            refine w_if_eq (tgt := 86) hX dX3_goesIntoLoop_76 rfl (by decide) (fun _ => ?_) (fun h76 => absurd (by decide) h76)
            refine w_iinc hX dX3_goesIntoLoop_86 rfl rfl (by decide) (by omega) ?_
            dsimp only [st1X, st2X, klX_I, klX_L, klX_R, klX_S, klX_N]
            refine w_goto (tgt := 3) hX dX3_goesIntoLoop_89 (by decide) ?_
            exact ih (j + 1) _ _ _ _ (by omega) (by omega) (fun k hk => by
              by_cases e : k = j.toNat
              · rw [e]; omega
              · exact hn k (by omega))
      · refine w_iload_n (i := 3) hX dX3_goesIntoLoop_42 rfl rfl rfl ?_
        refine w_iload hX dX3_goesIntoLoop_43 rfl rfl ?_
        refine w_icmp_ge (tgt := 52) hX dX3_goesIntoLoop_45 rfl (by decide) (fun h45 => ?_) (fun h45 => ?_)
        · refine w_iconst hX dX3_goesIntoLoop_52 rfl (by decide) ?_
          refine w_istore hX dX3_goesIntoLoop_53 rfl (by decide) ?_
          dsimp only [st1X, st2X, klX_I, klX_L, klX_R, klX_S, klX_N]
          refine w_iload_n (i := 2) hX dX3_goesIntoLoop_55 rfl rfl rfl ?_
          refine w_iload hX dX3_goesIntoLoop_56 rfl rfl ?_
          refine w_icmp_le (tgt := 71) hX dX3_goesIntoLoop_58 rfl (by decide) (fun h58 => ?_) (fun h58 => ?_)
          · refine w_iconst hX dX3_goesIntoLoop_71 rfl (by decide) ?_
            refine w_istore hX dX3_goesIntoLoop_72 rfl (by decide) ?_
            dsimp only [st1X, st2X, klX_I, klX_L, klX_R, klX_S, klX_N]
            refine w_iload hX dX3_goesIntoLoop_74 rfl rfl ?_
            refine w_if_eq (tgt := 86) hX dX3_goesIntoLoop_76 rfl (by decide) (fun _ => ?_) (fun h76 => absurd (by decide) h76)
            refine w_iinc hX dX3_goesIntoLoop_86 rfl rfl (by decide) (by omega) ?_
            dsimp only [st1X, st2X, klX_I, klX_L, klX_R, klX_S, klX_N]
            refine w_goto (tgt := 3) hX dX3_goesIntoLoop_89 (by decide) ?_
            exact ih (j + 1) _ _ _ _ (by omega) (by omega) (fun k hk => by
              by_cases e : k = j.toNat
              · rw [e]; omega
              · exact hn k (by omega))
          · refine w_iload_n (i := 2) hX dX3_goesIntoLoop_61 rfl rfl rfl ?_
            refine w_iload hX dX3_goesIntoLoop_62 rfl rfl ?_
            refine w_icmp_ge (tgt := 71) hX dX3_goesIntoLoop_64 rfl (by decide) (fun h64 => ?_) (fun h64 => ?_)
            · refine w_iconst hX dX3_goesIntoLoop_71 rfl (by decide) ?_
              refine w_istore hX dX3_goesIntoLoop_72 rfl (by decide) ?_
              dsimp only [st1X, st2X, klX_I, klX_L, klX_R, klX_S, klX_N]
              refine w_iload hX dX3_goesIntoLoop_74 rfl rfl ?_
              refine w_if_eq (tgt := 86) hX dX3_goesIntoLoop_76 rfl (by decide) (fun _ => ?_) (fun h76 => absurd (by decide) h76)
              refine w_iinc hX dX3_goesIntoLoop_86 rfl rfl (by decide) (by omega) ?_
              dsimp only [st1X, st2X, klX_I, klX_L, klX_R, klX_S, klX_N]
              refine w_goto (tgt := 3) hX dX3_goesIntoLoop_89 (by decide) ?_
              exact ih (j + 1) _ _ _ _ (by omega) (by omega) (fun k hk => by
                by_cases e : k = j.toNat
                · rw [e]; omega
                · exact hn k (by omega))
            · refine w_iconst hX dX3_goesIntoLoop_67 rfl (by decide) ?_
              refine w_goto (tgt := 72) hX dX3_goesIntoLoop_68 (by decide) ?_
              refine w_istore hX dX3_goesIntoLoop_72 rfl (by decide) ?_
              dsimp only [st1X, st2X, klX_I, klX_L, klX_R, klX_S, klX_N]
              refine w_iload hX dX3_goesIntoLoop_74 rfl rfl ?_
              refine w_if_eq (tgt := 86) hX dX3_goesIntoLoop_76 rfl (by decide) (fun _ => ?_) (fun h76 => absurd (by decide) h76)
              refine w_iinc hX dX3_goesIntoLoop_86 rfl rfl (by decide) (by omega) ?_
              dsimp only [st1X, st2X, klX_I, klX_L, klX_R, klX_S, klX_N]
              refine w_goto (tgt := 3) hX dX3_goesIntoLoop_89 (by decide) ?_
              exact ih (j + 1) _ _ _ _ (by omega) (by omega) (fun k hk => by
                by_cases e : k = j.toNat
                · rw [e]; omega
                · exact hn k (by omega))
        · refine w_iconst hX dX3_goesIntoLoop_48 rfl (by decide) ?_
          refine w_goto (tgt := 53) hX dX3_goesIntoLoop_49 (by decide) ?_
          refine w_istore hX dX3_goesIntoLoop_53 rfl (by decide) ?_
          dsimp only [st1X, st2X, klX_I, klX_L, klX_R, klX_S, klX_N]
          refine w_iload_n (i := 2) hX dX3_goesIntoLoop_55 rfl rfl rfl ?_
          refine w_iload hX dX3_goesIntoLoop_56 rfl rfl ?_
          refine w_icmp_le (tgt := 71) hX dX3_goesIntoLoop_58 rfl (by decide) (fun h58 => ?_) (fun h58 => ?_)
          · refine w_iconst hX dX3_goesIntoLoop_71 rfl (by decide) ?_
            refine w_istore hX dX3_goesIntoLoop_72 rfl (by decide) ?_
            dsimp only [st1X, st2X, klX_I, klX_L, klX_R, klX_S, klX_N]
            refine w_iload hX dX3_goesIntoLoop_74 rfl rfl ?_
            refine w_if_eq (tgt := 86) hX dX3_goesIntoLoop_76 rfl (by decide) (fun h76 => absurd h76 (by decide)) (fun _ => ?_)
            refine w_iload hX dX3_goesIntoLoop_79 rfl rfl ?_
            refine w_if_ne (tgt := 86) hX dX3_goesIntoLoop_81 rfl (by decide) (fun h81 => absurd h81 (by decide)) (fun _ => ?_)
            refine w_iconst hX dX3_goesIntoLoop_84 rfl (by decide) ?_
            exact e_z hX hF dX3_goesIntoLoop_85 (by decide) (hyes ⟨j.toNat, by omega, by unfold giQ; omega⟩)
          · refine w_iload_n (i := 2) hX dX3_goesIntoLoop_61 rfl rfl rfl ?_
            refine w_iload hX dX3_goesIntoLoop_62 rfl rfl ?_
            refine w_icmp_ge (tgt := 71) hX dX3_goesIntoLoop_64 rfl (by decide) (fun h64 => ?_) (fun h64 => ?_)
            · refine w_iconst hX dX3_goesIntoLoop_71 rfl (by decide) ?_
              refine w_istore hX dX3_goesIntoLoop_72 rfl (by decide) ?_
              dsimp only [st1X, st2X, klX_I, klX_L, klX_R, klX_S, klX_N]
              refine w_iload hX dX3_goesIntoLoop_74 rfl rfl ?_
              refine w_if_eq (tgt := 86) hX dX3_goesIntoLoop_76 rfl (by decide) (fun h76 => absurd h76 (by decide)) (fun _ => ?_)
              refine w_iload hX dX3_goesIntoLoop_79 rfl rfl ?_
              refine w_if_ne (tgt := 86) hX dX3_goesIntoLoop_81 rfl (by decide) (fun h81 => absurd h81 (by decide)) (fun _ => ?_)
              refine w_iconst hX dX3_goesIntoLoop_84 rfl (by decide) ?_
              exact e_z hX hF dX3_goesIntoLoop_85 (by decide) (hyes ⟨j.toNat, by omega, by unfold giQ; omega⟩)
            · refine w_iconst hX dX3_goesIntoLoop_67 rfl (by decide) ?_
              refine w_goto (tgt := 72) hX dX3_goesIntoLoop_68 (by decide) ?_
              refine w_istore hX dX3_goesIntoLoop_72 rfl (by decide) ?_
              dsimp only [st1X, st2X, klX_I, klX_L, klX_R, klX_S, klX_N]
              refine w_iload hX dX3_goesIntoLoop_74 rfl rfl ?_
              refine w_if_eq (tgt := 86) hX dX3_goesIntoLoop_76 rfl (by decide) (fun h76 => absurd h76 (by decide)) (fun _ => ?_)
              refine w_iload hX dX3_goesIntoLoop_79 rfl rfl ?_
              refine w_if_ne (tgt := 86) hX dX3_goesIntoLoop_81 rfl (by decide) (fun _ => ?_) (fun h81 => absurd (by decide) h81)
              refine w_iinc hX dX3_goesIntoLoop_86 rfl rfl (by decide) (by omega) ?_
              dsimp only [st1X, st2X, klX_I, klX_L, klX_R, klX_S, klX_N]
              refine w_goto (tgt := 3) hX dX3_goesIntoLoop_89 (by decide) ?_
              exact ih (j + 1) _ _ _ _ (by omega) (by omega) (fun k hk => by
                by_cases e : k = j.toNat
                · rw [e]; omega
                · exact hn k (by omega))

set_option maxRecDepth 100000 in
set_option maxHeartbeats 4000000 in
theorem m_goesIntoLoop (D : Dd) (hI : InC D) (u : Int) (hN : NXP D u) (f t : Int) : MC 2 yX3_goesIntoLoop cX3_goesIntoLoop 9 (some .boolean) [vR 266, vI u, vI f, vI t] D (Is (some (vI (b2 (ex13 D u (giQ D u f t))))) D) := by
  refine MC.mk [vR 266, vI u, vI f, vI t, vN, vN, vN, vN, vN] (by decide) (Nat.le_of_ble_eq_true rfl) rfl (fun X Q hX hF hok hol => ?_)
  refine w_iconst hX dX3_goesIntoLoop_0 rfl (by decide) ?_
  refine w_istore hX dX3_goesIntoLoop_1 rfl (by decide) ?_
  dsimp only [st1X, st2X, klX_I, klX_L, klX_R, klX_S, klX_N]
  exact l_goesInto hX hF D hI u hN f t (fun h => ⟨by rw [b2_t ((hN.x13 _).mp h)], rfl⟩) (fun h => ⟨by rw [b2_f (fun q => h ((hN.x13 _).mpr q))], rfl⟩) _ 0 _ _ _ _ (Nat.lt_succ_self _) (by omega) (fun k hk => by omega)

set_option maxRecDepth 100000 in
set_option maxHeartbeats 4000000 in
theorem l_wrongCount {X : Cx} {Q : State → Prop} {P : Option AV → Dd → Prop} (hX : GX X yX3_isWrongCount cX3_isWrongCount 7 (some .boolean) 2 0 0) (hF : FX X Q P) (D : Dd) (hI : InC D) (u : Int) (hN : NXP D u) (i : Int) (r0 : Nat) (hyes : (∃ k : Nat, (k : Int) < D 266 2 ∧ wcQ D u i (D 267 k)) → P (some (vI 1)) D) (hno : ¬ (∃ k : Nat, (k : Int) < D 266 2 ∧ wcQ D u i (D 267 k)) → P (some (vI 0)) D) : ∀ (m : Nat) (j : Int) (w1 : AV), (D 266 2 - j).toNat < m → 0 ≤ j → (∀ k : Nat, (k : Int) < j → ¬ wcQ D u i (D 267 k)) → W0 X Q 40 [vR 266, vI u, vI i, vR (atF D u i), vR r0, vI j, w1] [] D := by
  intro m
  induction m with
  | zero =>
    intro j w1 hm h0 hn
    exact absurd hm (Nat.not_lt_zero _)
  | succ m ih =>
    intro j w1 hm h0 hn
    have hc := hN.1
    refine w_iload hX dX3_isWrongCount_40 rfl rfl ?_
    refine w_aload_n (i := 0) hX dX3_isWrongCount_42 rfl rfl rfl ?_
    refine w_getI (j := 2) hX cl3 fl_RX3_15_3 rfl (by decide) rfl dX3_isWrongCount_43 rfl ?_
    refine w_icmp_ge (tgt := 106) hX dX3_isWrongCount_46 rfl (by decide) (fun h46 => ?_) (fun h46 => ?_)
    · refine w_iconst hX dX3_isWrongCount_106 rfl (by decide) ?_
      exact e_z hX hF dX3_isWrongCount_107 (by decide) (hno (fun ⟨k, k1, k2⟩ => hn k (by omega) k2))
    · refine w_aload_n (i := 0) hX dX3_isWrongCount_49 rfl rfl rfl ?_
      refine w_getR (j := 0) hX cl3 fl_RX3_19_3 rfl (by decide) rfl rfl dX3_isWrongCount_50 rfl ?_
      refine w_iload_n (i := 1) hX dX3_isWrongCount_53 rfl rfl rfl ?_
      refine w_aload_n (i := 0) hX dX3_isWrongCount_54 rfl rfl rfl ?_
      refine w_getR (j := 1) hX cl3 fl_RX3_9_3 rfl (by decide) rfl rfl dX3_isWrongCount_55 rfl ?_
      refine w_iload hX dX3_isWrongCount_58 rfl rfl ?_
      refine w_iald hX rfl (by omega) (by omega) dX3_isWrongCount_60 rfl ?_
      refine c_V hX ml_RX3_29 cl0 dX3_isWrongCount_61 rfl (m_at D hI u (D 267 j.toNat)) rfl rfl rfl (by decide) (Nat.le_of_ble_eq_true rfl) ?_
      rintro _ _ ⟨rfl, rfl⟩ -
      all_goals try dsimp only [Option.toList, List.cons_append, List.nil_append]
      refine w_astore hX dX3_isWrongCount_64 rfl (by decide) ?_
      dsimp only [st1X, st2X, klX_I, klX_L, klX_R, klX_S, klX_N]
      refine w_aload hX dX3_isWrongCount_66 rfl rfl ?_
      refine w_getI (j := 1) hX cl2 fl_RX3_38_2 (K0_ins (at_ins hI u _)) (by decide) rfl dX3_isWrongCount_68 rfl ?_
      refine w_aload_n (i := 3) hX dX3_isWrongCount_71 rfl rfl rfl ?_
      refine w_getI (j := 1) hX cl2 fl_RX3_38_2 (K0_ins (at_ins hI u _)) (by decide) rfl dX3_isWrongCount_72 rfl ?_
      refine w_icmp_ne (tgt := 100) hX dX3_isWrongCount_75 rfl (by decide) (fun h75 => ?_) (fun h75 => ?_)
      · refine w_iinc hX dX3_isWrongCount_100 rfl rfl (by decide) (by omega) ?_
        dsimp only [st1X, st2X, klX_I, klX_L, klX_R, klX_S, klX_N]
        refine w_goto (tgt := 40) hX dX3_isWrongCount_103 (by decide) ?_
        exact ih (j + 1) _ (by omega) (by omega) (fun k hk => by
          by_cases e : k = j.toNat
          · rw [e]; omega
          · exact hn k (by omega))
      · refine w_iload_n (i := 2) hX dX3_isWrongCount_78 rfl rfl rfl ?_
        refine w_aload_n (i := 0) hX dX3_isWrongCount_79 rfl rfl rfl ?_
        refine w_getR (j := 1) hX cl3 fl_RX3_9_3 rfl (by decide) rfl rfl dX3_isWrongCount_80 rfl ?_
        refine w_iload hX dX3_isWrongCount_83 rfl rfl ?_
        refine w_iald hX rfl (by omega) (by omega) dX3_isWrongCount_85 rfl ?_
        refine w_icmp_le (tgt := 100) hX dX3_isWrongCount_86 rfl (by decide) (fun h86 => ?_) (fun h86 => ?_)
        · refine w_iinc hX dX3_isWrongCount_100 rfl rfl (by decide) (by omega) ?_
          dsimp only [st1X, st2X, klX_I, klX_L, klX_R, klX_S, klX_N]
          refine w_goto (tgt := 40) hX dX3_isWrongCount_103 (by decide) ?_
          exact ih (j + 1) _ (by omega) (by omega) (fun k hk => by
            by_cases e : k = j.toNat
            · rw [e]; omega
            · exact hn k (by omega))
        · refine w_iload_n (i := 2) hX dX3_isWrongCount_89 rfl rfl rfl ?_
          refine w_aload hX dX3_isWrongCount_90 rfl rfl ?_
          refine w_getI (j := 2) hX cl2 fl_RX3_55_2 (K0_ins (at_ins hI u _)) (by decide) rfl dX3_isWrongCount_92 rfl ?_
          refine w_icmp_ge (tgt := 100) hX dX3_isWrongCount_95 rfl (by decide) (fun h95 => ?_) (fun h95 => ?_)
          · refine w_iinc hX dX3_isWrongCount_100 rfl rfl (by decide) (by omega) ?_
            dsimp only [st1X, st2X, klX_I, klX_L, klX_R, klX_S, klX_N]
            refine w_goto (tgt := 40) hX dX3_isWrongCount_103 (by decide) ?_
            exact ih (j + 1) _ (by omega) (by omega) (fun k hk => by
              by_cases e : k = j.toNat
              · rw [e]; omega
              · exact hn k (by omega))
          · refine w_iconst hX dX3_isWrongCount_98 rfl (by decide) ?_
            exact e_z hX hF dX3_isWrongCount_99 (by decide) (hyes ⟨j.toNat, by omega, by unfold wcQ; omega⟩)

set_option maxRecDepth 100000 in
set_option maxHeartbeats 4000000 in
theorem m_isWrongCount (D : Dd) (hI : InC D) (u : Int) (hN : NXP D u) (i : Int) (hi : 0 ≤ i ∧ i < szF D u) : MC 2 yX3_isWrongCount cX3_isWrongCount 7 (some .boolean) [vR 266, vI u, vI i, vR (atF D u i)] D (Is (some (vI (b2 ((D (atF D u (i + 1)) 0) ≠ 13 ∨ (D (atF D u (i + 1)) 1) ≠ (D (atF D u i) 1) ∨ ex13 D u (wcQ D u i))))) D) := by
  refine MC.mk [vR 266, vI u, vI i, vR (atF D u i), vN, vN, vN] (by decide) (Nat.le_of_ble_eq_true rfl) rfl (fun X Q hX hF hok hol => ?_)
  have hz := sz_256 hI u
  refine w_aload_n (i := 0) hX dX3_isWrongCount_0 rfl rfl rfl ?_
  refine w_getR (j := 0) hX cl3 fl_RX3_19_3 rfl (by decide) rfl rfl dX3_isWrongCount_1 rfl ?_
  refine w_iload_n (i := 1) hX dX3_isWrongCount_4 rfl rfl rfl ?_
  refine w_iload_n (i := 2) hX dX3_isWrongCount_5 rfl rfl rfl ?_
  refine w_iconst hX dX3_isWrongCount_6 rfl (by decide) ?_
  refine w_iadd hX dX3_isWrongCount_7 rfl (by omega) ?_
  refine c_V hX ml_RX3_29 cl0 dX3_isWrongCount_8 rfl (m_at D hI u (i + 1)) rfl rfl rfl (by decide) (Nat.le_of_ble_eq_true rfl) ?_
  rintro _ _ ⟨rfl, rfl⟩ -
  all_goals try dsimp only [Option.toList, List.cons_append, List.nil_append]
  refine w_astore hX dX3_isWrongCount_11 rfl (by decide) ?_
  dsimp only [st1X, st2X, klX_I, klX_L, klX_R, klX_S, klX_N]
  refine w_aload hX dX3_isWrongCount_13 rfl rfl ?_
  refine w_getI (j := 0) hX cl2 fl_RX3_33_2 (K0_ins (at_ins hI u _)) (by decide) rfl dX3_isWrongCount_15 rfl ?_
  refine w_bipush hX dX3_isWrongCount_18 rfl (by decide) ?_
  refine w_icmp_ne (tgt := 35) hX dX3_isWrongCount_20 rfl (by decide) (fun h20 => ?_) (fun h20 => ?_)
  · refine w_iconst hX dX3_isWrongCount_35 rfl (by decide) ?_
    exact e_z hX hF dX3_isWrongCount_36 (by decide) ⟨by first | rw [b2_t (Or.inl h20)] | rw [b2_t (Or.inr (Or.inl h32))], rfl⟩
  · refine w_aload hX dX3_isWrongCount_23 rfl rfl ?_
    refine w_getI (j := 1) hX cl2 fl_RX3_38_2 (K0_ins (at_ins hI u _)) (by decide) rfl dX3_isWrongCount_25 rfl ?_
    refine w_aload_n (i := 3) hX dX3_isWrongCount_28 rfl rfl rfl ?_
    refine w_getI (j := 1) hX cl2 fl_RX3_38_2 (K0_ins (at_ins hI u _)) (by decide) rfl dX3_isWrongCount_29 rfl ?_
    refine w_icmp_eq (tgt := 37) hX dX3_isWrongCount_32 rfl (by decide) (fun h32 => ?_) (fun h32 => ?_)
    · refine w_iconst hX dX3_isWrongCount_37 rfl (by decide) ?_
      refine w_istore hX dX3_isWrongCount_38 rfl (by decide) ?_
      dsimp only [st1X, st2X, klX_I, klX_L, klX_R, klX_S, klX_N]
      exact l_wrongCount hX hF D hI u hN i _ (fun h => ⟨by rw [b2_t (Or.inr (Or.inr ((hN.x13 _).mp h)))], rfl⟩) (fun h => ⟨by rw [b2_f (fun q => by rcases q with q | q | q; exact q (Classical.not_not.mp h20); exact q h32; exact h ((hN.x13 _).mpr q))], rfl⟩) _ 0 _ (Nat.lt_succ_self _) (by omega) (fun k hk => by omega)
    · refine w_iconst hX dX3_isWrongCount_35 rfl (by decide) ?_
      exact e_z hX hF dX3_isWrongCount_36 (by decide) ⟨by first | rw [b2_t (Or.inl h20)] | rw [b2_t (Or.inr (Or.inl h32))], rfl⟩

set_option maxRecDepth 100000 in
set_option maxHeartbeats 4000000 in
theorem l_wrongNext {X : Cx} {Q : State → Prop} {P : Option AV → Dd → Prop} (hX : GX X yX3_isWrongNext cX3_isWrongNext 8 (some .boolean) 2 0 0) (hF : FX X Q P) (D : Dd) (hI : InC D) (u : Int) (hN : NXP D u) (i : Int) (r0 r1 : Nat) (hyes : (∃ k : Nat, (k : Int) < D 266 2 ∧ wnQ D u i (D 267 k)) → P (some (vI 1)) D) (hno : ¬ (∃ k : Nat, (k : Int) < D 266 2 ∧ wnQ D u i (D 267 k)) → P (some (vI 0)) D) : ∀ (m : Nat) (j : Int) (w2 : AV), (D 266 2 - j).toNat < m → 0 ≤ j → (∀ k : Nat, (k : Int) < j → ¬ wnQ D u i (D 267 k)) → W0 X Q 77 [vR 266, vI u, vI i, vR (atF D u i), vR r0, vR r1, vI j, w2] [] D := by
  intro m
  induction m with
  | zero =>
    intro j w2 hm h0 hn
    exact absurd hm (Nat.not_lt_zero _)
  | succ m ih =>
    intro j w2 hm h0 hn
    have hc := hN.1
    refine w_iload hX dX3_isWrongNext_77 rfl rfl ?_
    refine w_aload_n (i := 0) hX dX3_isWrongNext_79 rfl rfl rfl ?_
    refine w_getI (j := 2) hX cl3 fl_RX3_15_3 rfl (by decide) rfl dX3_isWrongNext_80 rfl ?_
    refine w_icmp_ge (tgt := 140) hX dX3_isWrongNext_83 rfl (by decide) (fun h83 => ?_) (fun h83 => ?_)
    · refine w_iconst hX dX3_isWrongNext_140 rfl (by decide) ?_
      exact e_z hX hF dX3_isWrongNext_141 (by decide) (hno (fun ⟨k, k1, k2⟩ => hn k (by omega) k2))
    · refine w_aload_n (i := 0) hX dX3_isWrongNext_86 rfl rfl rfl ?_
      refine w_getR (j := 0) hX cl3 fl_RX3_19_3 rfl (by decide) rfl rfl dX3_isWrongNext_87 rfl ?_
      refine w_iload_n (i := 1) hX dX3_isWrongNext_90 rfl rfl rfl ?_
      refine w_aload_n (i := 0) hX dX3_isWrongNext_91 rfl rfl rfl ?_
      refine w_getR (j := 1) hX cl3 fl_RX3_9_3 rfl (by decide) rfl rfl dX3_isWrongNext_92 rfl ?_
      refine w_iload hX dX3_isWrongNext_95 rfl rfl ?_
      refine w_iald hX rfl (by omega) (by omega) dX3_isWrongNext_97 rfl ?_
      refine c_V hX ml_RX3_29 cl0 dX3_isWrongNext_98 rfl (m_at D hI u (D 267 j.toNat)) rfl rfl rfl (by decide) (Nat.le_of_ble_eq_true rfl) ?_
      rintro _ _ ⟨rfl, rfl⟩ -
      all_goals try dsimp only [Option.toList, List.cons_append, List.nil_append]
      refine w_getI (j := 2) hX cl2 fl_RX3_55_2 (K0_ins (at_ins hI u _)) (by decide) rfl dX3_isWrongNext_101 rfl ?_
      refine w_istore hX dX3_isWrongNext_104 rfl (by decide) ?_
      dsimp only [st1X, st2X, klX_I, klX_L, klX_R, klX_S, klX_N]
      refine w_iload_n (i := 2) hX dX3_isWrongNext_106 rfl rfl rfl ?_
      refine w_aload_n (i := 0) hX dX3_isWrongNext_107 rfl rfl rfl ?_
      refine w_getR (j := 1) hX cl3 fl_RX3_9_3 rfl (by decide) rfl rfl dX3_isWrongNext_108 rfl ?_
      refine w_iload hX dX3_isWrongNext_111 rfl rfl ?_
      refine w_iald hX rfl (by omega) (by omega) dX3_isWrongNext_113 rfl ?_
      refine w_icmp_le (tgt := 134) hX dX3_isWrongNext_114 rfl (by decide) (fun h114 => ?_) (fun h114 => ?_)
      · refine w_iinc hX dX3_isWrongNext_134 rfl rfl (by decide) (by omega) ?_
        dsimp only [st1X, st2X, klX_I, klX_L, klX_R, klX_S, klX_N]
        refine w_goto (tgt := 77) hX dX3_isWrongNext_137 (by decide) ?_
        exact ih (j + 1) _ (by omega) (by omega) (fun k hk => by
          by_cases e : k = j.toNat
          · rw [e]; omega
          · exact hn k (by omega))
      · refine w_iload_n (i := 2) hX dX3_isWrongNext_117 rfl rfl rfl ?_
        refine w_iload hX dX3_isWrongNext_118 rfl rfl ?_
        refine w_icmp_ge (tgt := 134) hX dX3_isWrongNext_120 rfl (by decide) (fun h120 => ?_) (fun h120 => ?_)
        · refine w_iinc hX dX3_isWrongNext_134 rfl rfl (by decide) (by omega) ?_
          dsimp only [st1X, st2X, klX_I, klX_L, klX_R, klX_S, klX_N]
          refine w_goto (tgt := 77) hX dX3_isWrongNext_137 (by decide) ?_
          exact ih (j + 1) _ (by omega) (by omega) (fun k hk => by
            by_cases e : k = j.toNat
            · rw [e]; omega
            · exact hn k (by omega))
        · refine w_aload_n (i := 3) hX dX3_isWrongNext_123 rfl rfl rfl ?_
          refine w_getI (j := 2) hX cl2 fl_RX3_55_2 (K0_ins (at_ins hI u _)) (by decide) rfl dX3_isWrongNext_124 rfl ?_
          refine w_iload hX dX3_isWrongNext_127 rfl rfl ?_
          refine w_icmp_le (tgt := 134) hX dX3_isWrongNext_129 rfl (by decide) (fun h129 => ?_) (fun h129 => ?_)
          · refine w_iinc hX dX3_isWrongNext_134 rfl rfl (by decide) (by omega) ?_
            dsimp only [st1X, st2X, klX_I, klX_L, klX_R, klX_S, klX_N]
            refine w_goto (tgt := 77) hX dX3_isWrongNext_137 (by decide) ?_
            exact ih (j + 1) _ (by omega) (by omega) (fun k hk => by
              by_cases e : k = j.toNat
              · rw [e]; omega
              · exact hn k (by omega))
          · refine w_iconst hX dX3_isWrongNext_132 rfl (by decide) ?_
            exact e_z hX hF dX3_isWrongNext_133 (by decide) (hyes ⟨j.toNat, by omega, by unfold wnQ; omega⟩)

set_option maxRecDepth 100000 in
set_option maxHeartbeats 4000000 in
theorem m_isWrongNext (D : Dd) (hI : InC D) (u : Int) (hN : NXP D u) (i : Int) (hi : 0 ≤ i ∧ i < szF D u) (hb : i < (D (atF D u i) 2) ∧ (D (atF D u i) 2) ≤ szF D u) : MC 2 yX3_isWrongNext cX3_isWrongNext 8 (some .boolean) [vR 266, vI u, vI i, vR (atF D u i)] D (Is (some (vI (b2 ((D (atF D u (i - 1)) 0) ≠ 12 ∨ (D (atF D u (i - 1)) 1) ≠ (D (atF D u i) 1) ∨ (D (atF D u ((D (atF D u i) 2) - 1)) 0) ≠ 14 ∨ (D (atF D u ((D (atF D u i) 2) - 1)) 1) ≠ i ∨ ex13 D u (wnQ D u i))))) D) := by
  refine MC.mk [vR 266, vI u, vI i, vR (atF D u i), vN, vN, vN, vN] (by decide) (Nat.le_of_ble_eq_true rfl) rfl (fun X Q hX hF hok hol => ?_)
  have hz := sz_256 hI u
  refine w_aload_n (i := 0) hX dX3_isWrongNext_0 rfl rfl rfl ?_
  refine w_getR (j := 0) hX cl3 fl_RX3_19_3 rfl (by decide) rfl rfl dX3_isWrongNext_1 rfl ?_
  refine w_iload_n (i := 1) hX dX3_isWrongNext_4 rfl rfl rfl ?_
  refine w_iload_n (i := 2) hX dX3_isWrongNext_5 rfl rfl rfl ?_
  refine w_iconst hX dX3_isWrongNext_6 rfl (by decide) ?_
  refine w_isub hX dX3_isWrongNext_7 rfl (by omega) ?_
  refine c_V hX ml_RX3_29 cl0 dX3_isWrongNext_8 rfl (m_at D hI u (i - 1)) rfl rfl rfl (by decide) (Nat.le_of_ble_eq_true rfl) ?_
  rintro _ _ ⟨rfl, rfl⟩ -
  all_goals try dsimp only [Option.toList, List.cons_append, List.nil_append]
  refine w_astore hX dX3_isWrongNext_11 rfl (by decide) ?_
  dsimp only [st1X, st2X, klX_I, klX_L, klX_R, klX_S, klX_N]
  refine w_aload hX dX3_isWrongNext_13 rfl rfl ?_
  refine w_getI (j := 0) hX cl2 fl_RX3_33_2 (K0_ins (at_ins hI u _)) (by decide) rfl dX3_isWrongNext_15 rfl ?_
  refine w_bipush hX dX3_isWrongNext_18 rfl (by decide) ?_
  refine w_icmp_ne (tgt := 35) hX dX3_isWrongNext_20 rfl (by decide) (fun h20 => ?_) (fun h20 => ?_)
  · refine w_iconst hX dX3_isWrongNext_35 rfl (by decide) ?_
    exact e_z hX hF dX3_isWrongNext_36 (by decide) ⟨by first | rw [b2_t (Or.inl h20)] | rw [b2_t (Or.inr (Or.inl h32))], rfl⟩
  · refine w_aload hX dX3_isWrongNext_23 rfl rfl ?_
    refine w_getI (j := 1) hX cl2 fl_RX3_38_2 (K0_ins (at_ins hI u _)) (by decide) rfl dX3_isWrongNext_25 rfl ?_
    refine w_aload_n (i := 3) hX dX3_isWrongNext_28 rfl rfl rfl ?_
    refine w_getI (j := 1) hX cl2 fl_RX3_38_2 (K0_ins (at_ins hI u _)) (by decide) rfl dX3_isWrongNext_29 rfl ?_
    refine w_icmp_eq (tgt := 37) hX dX3_isWrongNext_32 rfl (by decide) (fun h32 => ?_) (fun h32 => ?_)
    · refine w_aload_n (i := 0) hX dX3_isWrongNext_37 rfl rfl rfl ?_
      refine w_getR (j := 0) hX cl3 fl_RX3_19_3 rfl (by decide) rfl rfl dX3_isWrongNext_38 rfl ?_
      refine w_iload_n (i := 1) hX dX3_isWrongNext_41 rfl rfl rfl ?_
      refine w_aload_n (i := 3) hX dX3_isWrongNext_42 rfl rfl rfl ?_
      refine w_getI (j := 2) hX cl2 fl_RX3_55_2 (K0_ins (at_ins hI u _)) (by decide) rfl dX3_isWrongNext_43 rfl ?_
      refine w_iconst hX dX3_isWrongNext_46 rfl (by decide) ?_
      refine w_isub hX dX3_isWrongNext_47 rfl (by omega) ?_
      refine c_V hX ml_RX3_29 cl0 dX3_isWrongNext_48 rfl (m_at D hI u ((D (atF D u i) 2) - 1)) rfl rfl rfl (by decide) (Nat.le_of_ble_eq_true rfl) ?_
      rintro _ _ ⟨rfl, rfl⟩ -
      all_goals try dsimp only [Option.toList, List.cons_append, List.nil_append]
      refine w_astore hX dX3_isWrongNext_51 rfl (by decide) ?_
      dsimp only [st1X, st2X, klX_I, klX_L, klX_R, klX_S, klX_N]
      refine w_aload hX dX3_isWrongNext_53 rfl rfl ?_
      refine w_getI (j := 0) hX cl2 fl_RX3_33_2 (K0_ins (at_ins hI u _)) (by decide) rfl dX3_isWrongNext_55 rfl ?_
      refine w_bipush hX dX3_isWrongNext_58 rfl (by decide) ?_
      refine w_icmp_ne (tgt := 72) hX dX3_isWrongNext_60 rfl (by decide) (fun h60 => ?_) (fun h60 => ?_)
      · refine w_iconst hX dX3_isWrongNext_72 rfl (by decide) ?_
        exact e_z hX hF dX3_isWrongNext_73 (by decide) ⟨by first | rw [b2_t (Or.inr (Or.inr (Or.inl h60)))] | rw [b2_t (Or.inr (Or.inr (Or.inr (Or.inl h69))))], rfl⟩
      · refine w_aload hX dX3_isWrongNext_63 rfl rfl ?_
        refine w_getI (j := 1) hX cl2 fl_RX3_38_2 (K0_ins (at_ins hI u _)) (by decide) rfl dX3_isWrongNext_65 rfl ?_
        refine w_iload_n (i := 2) hX dX3_isWrongNext_68 rfl rfl rfl ?_
        refine w_icmp_eq (tgt := 74) hX dX3_isWrongNext_69 rfl (by decide) (fun h69 => ?_) (fun h69 => ?_)
        · refine w_iconst hX dX3_isWrongNext_74 rfl (by decide) ?_
          refine w_istore hX dX3_isWrongNext_75 rfl (by decide) ?_
          dsimp only [st1X, st2X, klX_I, klX_L, klX_R, klX_S, klX_N]
          exact l_wrongNext hX hF D hI u hN i _ _ (fun h => ⟨by rw [b2_t (Or.inr (Or.inr (Or.inr (Or.inr ((hN.x13 _).mp h)))))], rfl⟩) (fun h => ⟨by rw [b2_f (fun q => by rcases q with q | q | q | q | q; exact q (Classical.not_not.mp h20); exact q h32; exact q (Classical.not_not.mp h60); exact q h69; exact h ((hN.x13 _).mpr q))], rfl⟩) _ 0 _ (Nat.lt_succ_self _) (by omega) (fun k hk => by omega)
        · refine w_iconst hX dX3_isWrongNext_72 rfl (by decide) ?_
          exact e_z hX hF dX3_isWrongNext_73 (by decide) ⟨by first | rw [b2_t (Or.inr (Or.inr (Or.inl h60)))] | rw [b2_t (Or.inr (Or.inr (Or.inr (Or.inl h69))))], rfl⟩
    · refine w_iconst hX dX3_isWrongNext_35 rfl (by decide) ?_
      exact e_z hX hF dX3_isWrongNext_36 (by decide) ⟨by first | rw [b2_t (Or.inl h20)] | rw [b2_t (Or.inr (Or.inl h32))], rfl⟩

set_option maxRecDepth 100000 in
set_option maxHeartbeats 4000000 in
theorem m_isWrongBack (D : Dd) (hI : InC D) (u i : Int) (hi : 0 ≤ i ∧ i < szF D u) : MC 2 yX3_isWrongBack cX3_isWrongBack 5 (some .boolean) [vR 266, vI u, vI i, vR (atF D u i)] D (Is (some (vI (b2 ((D (atF D u ((D (atF D u i) 1))) 0) ≠ 13 ∨ (D (atF D u ((D (atF D u i) 1))) 2) ≠ i + 1)))) D) := by
  refine MC.mk [vR 266, vI u, vI i, vR (atF D u i), vN] (by decide) (Nat.le_of_ble_eq_true rfl) rfl (fun X Q hX hF hok hol => ?_)
  have hz := sz_256 hI u
  refine w_aload_n (i := 0) hX dX3_isWrongBack_0 rfl rfl rfl ?_
  refine w_getR (j := 0) hX cl3 fl_RX3_19_3 rfl (by decide) rfl rfl dX3_isWrongBack_1 rfl ?_
  refine w_iload_n (i := 1) hX dX3_isWrongBack_4 rfl rfl rfl ?_
  refine w_aload_n (i := 3) hX dX3_isWrongBack_5 rfl rfl rfl ?_
  refine w_getI (j := 1) hX cl2 fl_RX3_38_2 (K0_ins (at_ins hI u _)) (by decide) rfl dX3_isWrongBack_6 rfl ?_
  refine c_V hX ml_RX3_29 cl0 dX3_isWrongBack_9 rfl (m_at D hI u ((D (atF D u i) 1))) rfl rfl rfl (by decide) (Nat.le_of_ble_eq_true rfl) ?_
  rintro _ _ ⟨rfl, rfl⟩ -
  all_goals try dsimp only [Option.toList, List.cons_append, List.nil_append]
  refine w_astore hX dX3_isWrongBack_12 rfl (by decide) ?_
  dsimp only [st1X, st2X, klX_I, klX_L, klX_R, klX_S, klX_N]
  refine w_aload hX dX3_isWrongBack_14 rfl rfl ?_
  refine w_getI (j := 0) hX cl2 fl_RX3_33_2 (K0_ins (at_ins hI u _)) (by decide) rfl dX3_isWrongBack_16 rfl ?_
  refine w_bipush hX dX3_isWrongBack_19 rfl (by decide) ?_
  refine w_icmp_ne (tgt := 35) hX dX3_isWrongBack_21 rfl (by decide) (fun h21 => ?_) (fun h21 => ?_)
  · refine w_iconst hX dX3_isWrongBack_35 rfl (by decide) ?_
    refine w_goto (tgt := 40) hX dX3_isWrongBack_36 (by decide) ?_
    exact e_z hX hF dX3_isWrongBack_40 (by decide) ⟨by first | rw [b2_t (by omega)] | rw [b2_f (by omega)], rfl⟩
  · refine w_aload hX dX3_isWrongBack_24 rfl rfl ?_
    refine w_getI (j := 2) hX cl2 fl_RX3_55_2 (K0_ins (at_ins hI u _)) (by decide) rfl dX3_isWrongBack_26 rfl ?_
    refine w_iload_n (i := 2) hX dX3_isWrongBack_29 rfl rfl rfl ?_
    refine w_iconst hX dX3_isWrongBack_30 rfl (by decide) ?_
    refine w_iadd hX dX3_isWrongBack_31 rfl (by omega) ?_
    refine w_icmp_eq (tgt := 39) hX dX3_isWrongBack_32 rfl (by decide) (fun h32 => ?_) (fun h32 => ?_)
    · refine w_iconst hX dX3_isWrongBack_39 rfl (by decide) ?_
      exact e_z hX hF dX3_isWrongBack_40 (by decide) ⟨by first | rw [b2_t (by omega)] | rw [b2_f (by omega)], rfl⟩
    · refine w_iconst hX dX3_isWrongBack_35 rfl (by decide) ?_
      refine w_goto (tgt := 40) hX dX3_isWrongBack_36 (by decide) ?_
      exact e_z hX hF dX3_isWrongBack_40 (by decide) ⟨by first | rw [b2_t (by omega)] | rw [b2_f (by omega)], rfl⟩

set_option maxRecDepth 100000 in
set_option maxHeartbeats 4000000 in
theorem m_loopAt (D : Dd) (hI : InC D) (u : Int) (hN : NXP D u) (i : Int) (hi : 0 ≤ i ∧ i < szF D u) (hg : ¬ gwP D u i ((D (atF D u i) 0)) ((D (atF D u i) 1)) ((D (atF D u i) 2))) : MC 3 yX3_faultAt cX3_faultAt 5 (some .int) [vR 266, vI u, vI i] D (Is (some (vI (itP (lpP D u i) 7 0))) D) := by
  refine MC.mk [vR 266, vI u, vI i, vN, vN] (by decide) (Nat.le_of_ble_eq_true rfl) rfl (fun X Q hX hF hok hol => ?_)
  refine w_aload_n (i := 0) hX dX3_faultAt_0 rfl rfl rfl ?_
  refine w_getR (j := 0) hX cl3 fl_RX3_19_3 rfl (by decide) rfl rfl dX3_faultAt_1 rfl ?_
  refine w_iload_n (i := 1) hX dX3_faultAt_4 rfl rfl rfl ?_
  refine w_iload_n (i := 2) hX dX3_faultAt_5 rfl rfl rfl ?_
  refine c_V hX ml_RX3_29 cl0 dX3_faultAt_6 rfl (m_at D hI u i) rfl rfl rfl (by decide) (Nat.le_of_ble_eq_true rfl) ?_
  rintro _ _ ⟨rfl, rfl⟩ -
  all_goals try dsimp only [Option.toList, List.cons_append, List.nil_append]
  refine w_astore_n (i := 3) hX dX3_faultAt_9 rfl rfl (by decide) ?_
  dsimp only [st1X, st2X, klX_I, klX_L, klX_R, klX_S, klX_N]
  refine w_aload_n (i := 3) hX dX3_faultAt_10 rfl rfl rfl ?_
  refine w_getI (j := 0) hX cl2 fl_RX3_33_2 (K0_ins (at_ins hI u _)) (by decide) rfl dX3_faultAt_11 rfl ?_
  refine w_nameI (fun sw14 hsw14 => ?_)
  by_cases g14_0 : sw14 = 10 ∨ sw14 = 11
  · refine w_tsw (tgt := 48) hX dX3_faultAt_14 rfl (by rcases g14_0 with w | w <;> rw [w] <;> decide) ?_
    refine w_aload_n (i := 0) hX dX3_faultAt_48 rfl rfl rfl ?_
    refine w_iload_n (i := 1) hX dX3_faultAt_49 rfl rfl rfl ?_
    refine w_iload_n (i := 2) hX dX3_faultAt_50 rfl rfl rfl ?_
    refine w_aload_n (i := 3) hX dX3_faultAt_51 rfl rfl rfl ?_
    refine w_getI (j := 1) hX cl2 fl_RX3_38_2 (K0_ins (at_ins hI u _)) (by decide) rfl dX3_faultAt_52 rfl ?_
    refine c_V hX ml_RX3_41 cl3 dX3_faultAt_55 rfl (m_goesIntoLoop D hI u hN i ((D (atF D u i) 1))) rfl rfl rfl (by decide) (Nat.le_of_ble_eq_true rfl) ?_
    rintro _ _ ⟨rfl, rfl⟩ -
    all_goals try dsimp only [Option.toList, List.cons_append, List.nil_append]
    refine w_istore hX dX3_faultAt_58 rfl (by decide) ?_
    dsimp only [st1X, st2X, klX_I, klX_L, klX_R, klX_S, klX_N]
    refine w_goto (tgt := 102) hX dX3_faultAt_60 (by decide) ?_
    refine w_iload hX dX3_faultAt_102 rfl rfl ?_
    refine w_if_eq (tgt := 112) hX dX3_faultAt_104 rfl (by decide) (fun h104 => ?_) (fun h104 => ?_)
    · rw [b2_0] at h104
      refine w_iconst hX dX3_faultAt_112 rfl (by decide) ?_
      exact e_i hX hF dX3_faultAt_113 ⟨by first | (rw [it_t]; unfold lpP; first | exact Or.inl ⟨by omega, h104⟩ | exact Or.inr (Or.inl ⟨by omega, h104⟩) | exact Or.inr (Or.inr (Or.inl ⟨by omega, h104⟩)) | exact Or.inr (Or.inr (Or.inr ⟨by omega, h104⟩))) | (rw [it_f]; unfold lpP; intro q; rcases q with q | q | q | q <;> first | omega | exact h104 q.2), rfl⟩
    · rw [b2_n] at h104
      refine w_bipush hX dX3_faultAt_107 rfl (by decide) ?_
      refine w_goto (tgt := 113) hX dX3_faultAt_109 (by decide) ?_
      exact e_i hX hF dX3_faultAt_113 ⟨by first | (rw [it_t]; unfold lpP; first | exact Or.inl ⟨by omega, h104⟩ | exact Or.inr (Or.inl ⟨by omega, h104⟩) | exact Or.inr (Or.inr (Or.inl ⟨by omega, h104⟩)) | exact Or.inr (Or.inr (Or.inr ⟨by omega, h104⟩))) | (rw [it_f]; unfold lpP; intro q; rcases q with q | q | q | q <;> first | omega | exact h104 q.2), rfl⟩
  by_cases g14_1 : sw14 = 12
  · refine w_tsw (tgt := 63) hX dX3_faultAt_14 rfl (by rw [g14_1]; decide) ?_
    refine w_aload_n (i := 0) hX dX3_faultAt_63 rfl rfl rfl ?_
    refine w_iload_n (i := 1) hX dX3_faultAt_64 rfl rfl rfl ?_
    refine w_iload_n (i := 2) hX dX3_faultAt_65 rfl rfl rfl ?_
    refine w_aload_n (i := 3) hX dX3_faultAt_66 rfl rfl rfl ?_
    refine c_V hX ml_RX3_45 cl3 dX3_faultAt_67 rfl (m_isWrongCount D hI u hN i hi) rfl rfl rfl (by decide) (Nat.le_of_ble_eq_true rfl) ?_
    rintro _ _ ⟨rfl, rfl⟩ -
    all_goals try dsimp only [Option.toList, List.cons_append, List.nil_append]
    refine w_istore hX dX3_faultAt_70 rfl (by decide) ?_
    dsimp only [st1X, st2X, klX_I, klX_L, klX_R, klX_S, klX_N]
    refine w_goto (tgt := 102) hX dX3_faultAt_72 (by decide) ?_
    refine w_iload hX dX3_faultAt_102 rfl rfl ?_
    refine w_if_eq (tgt := 112) hX dX3_faultAt_104 rfl (by decide) (fun h104 => ?_) (fun h104 => ?_)
    · rw [b2_0] at h104
      refine w_iconst hX dX3_faultAt_112 rfl (by decide) ?_
      exact e_i hX hF dX3_faultAt_113 ⟨by first | (rw [it_t]; unfold lpP; first | exact Or.inl ⟨by omega, h104⟩ | exact Or.inr (Or.inl ⟨by omega, h104⟩) | exact Or.inr (Or.inr (Or.inl ⟨by omega, h104⟩)) | exact Or.inr (Or.inr (Or.inr ⟨by omega, h104⟩))) | (rw [it_f]; unfold lpP; intro q; rcases q with q | q | q | q <;> first | omega | exact h104 q.2), rfl⟩
    · rw [b2_n] at h104
      refine w_bipush hX dX3_faultAt_107 rfl (by decide) ?_
      refine w_goto (tgt := 113) hX dX3_faultAt_109 (by decide) ?_
      exact e_i hX hF dX3_faultAt_113 ⟨by first | (rw [it_t]; unfold lpP; first | exact Or.inl ⟨by omega, h104⟩ | exact Or.inr (Or.inl ⟨by omega, h104⟩) | exact Or.inr (Or.inr (Or.inl ⟨by omega, h104⟩)) | exact Or.inr (Or.inr (Or.inr ⟨by omega, h104⟩))) | (rw [it_f]; unfold lpP; intro q; rcases q with q | q | q | q <;> first | omega | exact h104 q.2), rfl⟩
  by_cases g14_2 : sw14 = 13
  · refine w_tsw (tgt := 75) hX dX3_faultAt_14 rfl (by rw [g14_2]; decide) ?_
    refine w_aload_n (i := 0) hX dX3_faultAt_75 rfl rfl rfl ?_
    refine w_iload_n (i := 1) hX dX3_faultAt_76 rfl rfl rfl ?_
    refine w_iload_n (i := 2) hX dX3_faultAt_77 rfl rfl rfl ?_
    refine w_aload_n (i := 3) hX dX3_faultAt_78 rfl rfl rfl ?_
    refine c_V hX ml_RX3_49 cl3 dX3_faultAt_79 rfl (m_isWrongNext D hI u hN i hi (by unfold gwP at hg; omega)) rfl rfl rfl (by decide) (Nat.le_of_ble_eq_true rfl) ?_
    rintro _ _ ⟨rfl, rfl⟩ -
    all_goals try dsimp only [Option.toList, List.cons_append, List.nil_append]
    refine w_istore hX dX3_faultAt_82 rfl (by decide) ?_
    dsimp only [st1X, st2X, klX_I, klX_L, klX_R, klX_S, klX_N]
    refine w_goto (tgt := 102) hX dX3_faultAt_84 (by decide) ?_
    refine w_iload hX dX3_faultAt_102 rfl rfl ?_
    refine w_if_eq (tgt := 112) hX dX3_faultAt_104 rfl (by decide) (fun h104 => ?_) (fun h104 => ?_)
    · rw [b2_0] at h104
      refine w_iconst hX dX3_faultAt_112 rfl (by decide) ?_
      exact e_i hX hF dX3_faultAt_113 ⟨by first | (rw [it_t]; unfold lpP; first | exact Or.inl ⟨by omega, h104⟩ | exact Or.inr (Or.inl ⟨by omega, h104⟩) | exact Or.inr (Or.inr (Or.inl ⟨by omega, h104⟩)) | exact Or.inr (Or.inr (Or.inr ⟨by omega, h104⟩))) | (rw [it_f]; unfold lpP; intro q; rcases q with q | q | q | q <;> first | omega | exact h104 q.2), rfl⟩
    · rw [b2_n] at h104
      refine w_bipush hX dX3_faultAt_107 rfl (by decide) ?_
      refine w_goto (tgt := 113) hX dX3_faultAt_109 (by decide) ?_
      exact e_i hX hF dX3_faultAt_113 ⟨by first | (rw [it_t]; unfold lpP; first | exact Or.inl ⟨by omega, h104⟩ | exact Or.inr (Or.inl ⟨by omega, h104⟩) | exact Or.inr (Or.inr (Or.inl ⟨by omega, h104⟩)) | exact Or.inr (Or.inr (Or.inr ⟨by omega, h104⟩))) | (rw [it_f]; unfold lpP; intro q; rcases q with q | q | q | q <;> first | omega | exact h104 q.2), rfl⟩
  by_cases g14_3 : sw14 = 14
  · refine w_tsw (tgt := 87) hX dX3_faultAt_14 rfl (by rw [g14_3]; decide) ?_
    refine w_aload_n (i := 0) hX dX3_faultAt_87 rfl rfl rfl ?_
    refine w_iload_n (i := 1) hX dX3_faultAt_88 rfl rfl rfl ?_
    refine w_iload_n (i := 2) hX dX3_faultAt_89 rfl rfl rfl ?_
    refine w_aload_n (i := 3) hX dX3_faultAt_90 rfl rfl rfl ?_
    refine c_V hX ml_RX3_52 cl3 dX3_faultAt_91 rfl (m_isWrongBack D hI u i hi) rfl rfl rfl (by decide) (Nat.le_of_ble_eq_true rfl) ?_
    rintro _ _ ⟨rfl, rfl⟩ -
    all_goals try dsimp only [Option.toList, List.cons_append, List.nil_append]
    refine w_istore hX dX3_faultAt_94 rfl (by decide) ?_
    dsimp only [st1X, st2X, klX_I, klX_L, klX_R, klX_S, klX_N]
    refine w_goto (tgt := 102) hX dX3_faultAt_96 (by decide) ?_
    refine w_iload hX dX3_faultAt_102 rfl rfl ?_
    refine w_if_eq (tgt := 112) hX dX3_faultAt_104 rfl (by decide) (fun h104 => ?_) (fun h104 => ?_)
    · rw [b2_0] at h104
      refine w_iconst hX dX3_faultAt_112 rfl (by decide) ?_
      exact e_i hX hF dX3_faultAt_113 ⟨by first | (rw [it_t]; unfold lpP; first | exact Or.inl ⟨by omega, h104⟩ | exact Or.inr (Or.inl ⟨by omega, h104⟩) | exact Or.inr (Or.inr (Or.inl ⟨by omega, h104⟩)) | exact Or.inr (Or.inr (Or.inr ⟨by omega, h104⟩))) | (rw [it_f]; unfold lpP; intro q; rcases q with q | q | q | q <;> first | omega | exact h104 q.2), rfl⟩
    · rw [b2_n] at h104
      refine w_bipush hX dX3_faultAt_107 rfl (by decide) ?_
      refine w_goto (tgt := 113) hX dX3_faultAt_109 (by decide) ?_
      exact e_i hX hF dX3_faultAt_113 ⟨by first | (rw [it_t]; unfold lpP; first | exact Or.inl ⟨by omega, h104⟩ | exact Or.inr (Or.inl ⟨by omega, h104⟩) | exact Or.inr (Or.inr (Or.inl ⟨by omega, h104⟩)) | exact Or.inr (Or.inr (Or.inr ⟨by omega, h104⟩))) | (rw [it_f]; unfold lpP; intro q; rcases q with q | q | q | q <;> first | omega | exact h104 q.2), rfl⟩
  refine w_tsw (tgt := 99) hX dX3_faultAt_14 rfl (by rw [sw_dflt [10, 11, 12, 13, 14] (by decide) (by simp only [List.mem_cons, List.not_mem_nil, or_false]; omega)]; decide) ?_
  refine w_iconst hX dX3_faultAt_99 rfl (by decide) ?_
  refine w_istore hX dX3_faultAt_100 rfl (by decide) ?_
  dsimp only [st1X, st2X, klX_I, klX_L, klX_R, klX_S, klX_N]
  refine w_iload hX dX3_faultAt_102 rfl rfl ?_
  refine w_if_eq (tgt := 112) hX dX3_faultAt_104 rfl (by decide) (fun _ => ?_) (fun h104 => absurd (by decide) h104)
  refine w_iconst hX dX3_faultAt_112 rfl (by decide) ?_
  exact e_i hX hF dX3_faultAt_113 ⟨by first | (rw [it_t]; unfold lpP; first | exact Or.inl ⟨by omega, h104⟩ | exact Or.inr (Or.inl ⟨by omega, h104⟩) | exact Or.inr (Or.inr (Or.inl ⟨by omega, h104⟩)) | exact Or.inr (Or.inr (Or.inr ⟨by omega, h104⟩))) | (rw [it_f]; unfold lpP; intro q; rcases q with q | q | q | q <;> first | omega | exact h104 q.2), rfl⟩
