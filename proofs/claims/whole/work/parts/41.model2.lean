/-! The reference: what a line says by itself -/
/-- the reference's own arrays -/
def MF (D : Dd) : Prop := InM D ∧ ∀ u : Nat, u < 16 → (-1 ≤ D 281 u ∧ D 281 u ≤ 4095) ∧ (0 ≤ D 280 u ∧ D 280 u ≤ 4096)
abbrev ovM (D : Dd) (u v : Int) : Prop := (0 ≤ D 281 v.toNat ∧ 0 < D 280 v.toNat) ∧ D 281 v.toNat < D 281 u.toNat + D 280 u.toNat ∧ D 281 u.toNat < D 281 v.toNat + D 280 v.toNat
def mpM (D : Dd) (u : Int) : Prop := (u = D 279 1 - 1 ∧ D 281 u.toNat ≠ 0) ∨ (¬ (D 281 u.toNat < 0 ∨ D 280 u.toNat = 0) ∧ (D 279 0 < D 281 u.toNat + D 280 u.toNat ∨ ∃ v : Int, 0 ≤ v ∧ v < u ∧ ovM D u v))

set_option maxRecDepth 100000 in
set_option maxHeartbeats 4000000 in
theorem l_rplace {X : Cx} {Q : State → Prop} {P : Option AV → Dd → Prop} (hX : GX X yX10_placeIsWrong cX10_placeIsWrong 5 (some .boolean) 1 0 0) (hF : FX X Q P) (D : Dd) (hM : MF D) (u : Int) (hu : 0 ≤ u ∧ u < 16) (w0 : Prop) (hyes : ∀ w : Int, (w = 0 ∨ w = 1) → (w = 1 ↔ (w0 ∨ ∃ v : Int, 0 ≤ v ∧ v < u ∧ ovM D u v)) → P (some (vI w)) D) : ∀ (m : Nat) (v w : Int) (w1 : AV), (u - v).toNat < m → 0 ≤ v → v ≤ u → (w = 0 ∨ w = 1) → (w = 1 ↔ (w0 ∨ ∃ x : Int, 0 ≤ x ∧ x < v ∧ ovM D u x)) → W0 X Q 69 [vR 279, vI u, vI w, vI v, w1] [] D := by
  intro m
  induction m with
  | zero =>
    intro v w w1 hm h0 h1 hw hr
    exact absurd hm (Nat.not_lt_zero _)
  | succ m ih =>
    intro v w w1 hm h0 h1 hw hr
    have zq_u := hM.2 u.toNat (by omega)
    refine w_iload_n (i := 3) hX dX10_placeIsWrong_69 rfl rfl rfl ?_
    refine w_iload_n (i := 1) hX dX10_placeIsWrong_70 rfl rfl rfl ?_
    refine w_icmp_ge (tgt := 164) hX dX10_placeIsWrong_71 rfl (by decide) (fun h71 => ?_) (fun h71 => ?_)
    · refine w_iload_n (i := 2) hX dX10_placeIsWrong_164 rfl rfl rfl ?_
      exact e_z hX hF dX10_placeIsWrong_165 hw (hyes w hw (by rw [show v = u by omega] at hr; exact hr))
    · have zq_v := hM.2 v.toNat (by omega)
      refine w_aload_n (i := 0) hX dX10_placeIsWrong_74 rfl rfl rfl ?_
      refine w_getR (j := 3) hX cl9 fl_RX10_13_9 rfl (by decide) rfl rfl dX10_placeIsWrong_75 rfl ?_
      refine w_iload_n (i := 3) hX dX10_placeIsWrong_78 rfl rfl rfl ?_
      refine w_iald hX rfl (by omega) (by omega) dX10_placeIsWrong_79 rfl ?_
      refine w_if_lt (tgt := 96) hX dX10_placeIsWrong_80 rfl (by decide) (fun h80 => ?_) (fun h80 => ?_)
      · refine w_iconst hX dX10_placeIsWrong_96 rfl (by decide) ?_
        refine w_istore hX dX10_placeIsWrong_97 rfl (by decide) ?_
        dsimp only [st1X, st2X, klX_I, klX_L, klX_R, klX_S, klX_N]
        refine w_iload_n (i := 2) hX dX10_placeIsWrong_99 rfl rfl rfl ?_
        refine w_if_ne (tgt := 152) hX dX10_placeIsWrong_100 rfl (by decide) (fun h100 => ?_) (fun h100 => ?_)
        · refine w_iconst hX dX10_placeIsWrong_152 rfl (by decide) ?_
          refine w_goto (tgt := 157) hX dX10_placeIsWrong_153 (by decide) ?_
          refine w_istore_n (i := 2) hX dX10_placeIsWrong_157 rfl rfl (by decide) ?_
          dsimp only [st1X, st2X, klX_I, klX_L, klX_R, klX_S, klX_N]
          refine w_iinc hX dX10_placeIsWrong_158 rfl rfl (by decide) (by omega) ?_
          dsimp only [st1X, st2X, klX_I, klX_L, klX_R, klX_S, klX_N]
          refine w_goto (tgt := 69) hX dX10_placeIsWrong_161 (by decide) ?_
          refine ih (v + 1) _ _ (by omega) (by omega) (by omega) (by omega) ?_
          constructor
          · intro zq_q
            first
              | exact absurd zq_q (by decide)
              | exact Or.inr ⟨v, h0, by omega, by unfold ovM; omega⟩
              | (rcases hr.mp (by omega) with zq_x | ⟨x, zq_a, zq_b, zq_c⟩
                 · exact Or.inl zq_x
                 · exact Or.inr ⟨x, zq_a, by omega, zq_c⟩)
          · intro zq_q
            first
              | rfl
              | (rcases zq_q with zq_q | ⟨x, zq_a, zq_b, zq_c⟩
                 · exact absurd (hr.mpr (Or.inl zq_q)) (by omega)
                 · by_cases zq_e : x = v
                   · subst zq_e; exfalso; unfold ovM at zq_c; omega
                   · exact absurd (hr.mpr (Or.inr ⟨x, zq_a, by omega, zq_c⟩)) (by omega))
        · refine w_iload hX dX10_placeIsWrong_103 rfl rfl ?_
          refine w_if_eq (tgt := 156) hX dX10_placeIsWrong_105 rfl (by decide) (fun _ => ?_) (fun h105 => absurd (by decide) h105)
          refine w_iconst hX dX10_placeIsWrong_156 rfl (by decide) ?_
          refine w_istore_n (i := 2) hX dX10_placeIsWrong_157 rfl rfl (by decide) ?_
          dsimp only [st1X, st2X, klX_I, klX_L, klX_R, klX_S, klX_N]
          refine w_iinc hX dX10_placeIsWrong_158 rfl rfl (by decide) (by omega) ?_
          dsimp only [st1X, st2X, klX_I, klX_L, klX_R, klX_S, klX_N]
          refine w_goto (tgt := 69) hX dX10_placeIsWrong_161 (by decide) ?_
          refine ih (v + 1) _ _ (by omega) (by omega) (by omega) (by omega) ?_
          constructor
          · intro zq_q
            first
              | exact absurd zq_q (by decide)
              | exact Or.inr ⟨v, h0, by omega, by unfold ovM; omega⟩
              | (rcases hr.mp (by omega) with zq_x | ⟨x, zq_a, zq_b, zq_c⟩
                 · exact Or.inl zq_x
                 · exact Or.inr ⟨x, zq_a, by omega, zq_c⟩)
          · intro zq_q
            first
              | rfl
              | (rcases zq_q with zq_q | ⟨x, zq_a, zq_b, zq_c⟩
                 · exact absurd (hr.mpr (Or.inl zq_q)) (by omega)
                 · by_cases zq_e : x = v
                   · subst zq_e; exfalso; unfold ovM at zq_c; omega
                   · exact absurd (hr.mpr (Or.inr ⟨x, zq_a, by omega, zq_c⟩)) (by omega))
      · refine w_aload_n (i := 0) hX dX10_placeIsWrong_83 rfl rfl rfl ?_
        refine w_getR (j := 2) hX cl9 fl_RX10_7_9 rfl (by decide) rfl rfl dX10_placeIsWrong_84 rfl ?_
        refine w_iload_n (i := 3) hX dX10_placeIsWrong_87 rfl rfl rfl ?_
        refine w_iald hX rfl (by omega) (by omega) dX10_placeIsWrong_88 rfl ?_
        refine w_if_le (tgt := 96) hX dX10_placeIsWrong_89 rfl (by decide) (fun h89 => ?_) (fun h89 => ?_)
        · refine w_iconst hX dX10_placeIsWrong_96 rfl (by decide) ?_
          refine w_istore hX dX10_placeIsWrong_97 rfl (by decide) ?_
          dsimp only [st1X, st2X, klX_I, klX_L, klX_R, klX_S, klX_N]
          refine w_iload_n (i := 2) hX dX10_placeIsWrong_99 rfl rfl rfl ?_
          refine w_if_ne (tgt := 152) hX dX10_placeIsWrong_100 rfl (by decide) (fun h100 => ?_) (fun h100 => ?_)
          · refine w_iconst hX dX10_placeIsWrong_152 rfl (by decide) ?_
            refine w_goto (tgt := 157) hX dX10_placeIsWrong_153 (by decide) ?_
            refine w_istore_n (i := 2) hX dX10_placeIsWrong_157 rfl rfl (by decide) ?_
            dsimp only [st1X, st2X, klX_I, klX_L, klX_R, klX_S, klX_N]
            refine w_iinc hX dX10_placeIsWrong_158 rfl rfl (by decide) (by omega) ?_
            dsimp only [st1X, st2X, klX_I, klX_L, klX_R, klX_S, klX_N]
            refine w_goto (tgt := 69) hX dX10_placeIsWrong_161 (by decide) ?_
            refine ih (v + 1) _ _ (by omega) (by omega) (by omega) (by omega) ?_
            constructor
            · intro zq_q
              first
                | exact absurd zq_q (by decide)
                | exact Or.inr ⟨v, h0, by omega, by unfold ovM; omega⟩
                | (rcases hr.mp (by omega) with zq_x | ⟨x, zq_a, zq_b, zq_c⟩
                   · exact Or.inl zq_x
                   · exact Or.inr ⟨x, zq_a, by omega, zq_c⟩)
            · intro zq_q
              first
                | rfl
                | (rcases zq_q with zq_q | ⟨x, zq_a, zq_b, zq_c⟩
                   · exact absurd (hr.mpr (Or.inl zq_q)) (by omega)
                   · by_cases zq_e : x = v
                     · subst zq_e; exfalso; unfold ovM at zq_c; omega
                     · exact absurd (hr.mpr (Or.inr ⟨x, zq_a, by omega, zq_c⟩)) (by omega))
          · refine w_iload hX dX10_placeIsWrong_103 rfl rfl ?_
            refine w_if_eq (tgt := 156) hX dX10_placeIsWrong_105 rfl (by decide) (fun _ => ?_) (fun h105 => absurd (by decide) h105)
            refine w_iconst hX dX10_placeIsWrong_156 rfl (by decide) ?_
            refine w_istore_n (i := 2) hX dX10_placeIsWrong_157 rfl rfl (by decide) ?_
            dsimp only [st1X, st2X, klX_I, klX_L, klX_R, klX_S, klX_N]
            refine w_iinc hX dX10_placeIsWrong_158 rfl rfl (by decide) (by omega) ?_
            dsimp only [st1X, st2X, klX_I, klX_L, klX_R, klX_S, klX_N]
            refine w_goto (tgt := 69) hX dX10_placeIsWrong_161 (by decide) ?_
            refine ih (v + 1) _ _ (by omega) (by omega) (by omega) (by omega) ?_
            constructor
            · intro zq_q
              first
                | exact absurd zq_q (by decide)
                | exact Or.inr ⟨v, h0, by omega, by unfold ovM; omega⟩
                | (rcases hr.mp (by omega) with zq_x | ⟨x, zq_a, zq_b, zq_c⟩
                   · exact Or.inl zq_x
                   · exact Or.inr ⟨x, zq_a, by omega, zq_c⟩)
            · intro zq_q
              first
                | rfl
                | (rcases zq_q with zq_q | ⟨x, zq_a, zq_b, zq_c⟩
                   · exact absurd (hr.mpr (Or.inl zq_q)) (by omega)
                   · by_cases zq_e : x = v
                     · subst zq_e; exfalso; unfold ovM at zq_c; omega
                     · exact absurd (hr.mpr (Or.inr ⟨x, zq_a, by omega, zq_c⟩)) (by omega))
        · refine w_iconst hX dX10_placeIsWrong_92 rfl (by decide) ?_
          refine w_goto (tgt := 97) hX dX10_placeIsWrong_93 (by decide) ?_
          refine w_istore hX dX10_placeIsWrong_97 rfl (by decide) ?_
          dsimp only [st1X, st2X, klX_I, klX_L, klX_R, klX_S, klX_N]
          refine w_iload_n (i := 2) hX dX10_placeIsWrong_99 rfl rfl rfl ?_
          refine w_if_ne (tgt := 152) hX dX10_placeIsWrong_100 rfl (by decide) (fun h100 => ?_) (fun h100 => ?_)
          · refine w_iconst hX dX10_placeIsWrong_152 rfl (by decide) ?_
            refine w_goto (tgt := 157) hX dX10_placeIsWrong_153 (by decide) ?_
            refine w_istore_n (i := 2) hX dX10_placeIsWrong_157 rfl rfl (by decide) ?_
            dsimp only [st1X, st2X, klX_I, klX_L, klX_R, klX_S, klX_N]
            refine w_iinc hX dX10_placeIsWrong_158 rfl rfl (by decide) (by omega) ?_
            dsimp only [st1X, st2X, klX_I, klX_L, klX_R, klX_S, klX_N]
            refine w_goto (tgt := 69) hX dX10_placeIsWrong_161 (by decide) ?_
            refine ih (v + 1) _ _ (by omega) (by omega) (by omega) (by omega) ?_
            constructor
            · intro zq_q
              first
                | exact absurd zq_q (by decide)
                | exact Or.inr ⟨v, h0, by omega, by unfold ovM; omega⟩
                | (rcases hr.mp (by omega) with zq_x | ⟨x, zq_a, zq_b, zq_c⟩
                   · exact Or.inl zq_x
                   · exact Or.inr ⟨x, zq_a, by omega, zq_c⟩)
            · intro zq_q
              first
                | rfl
                | (rcases zq_q with zq_q | ⟨x, zq_a, zq_b, zq_c⟩
                   · exact absurd (hr.mpr (Or.inl zq_q)) (by omega)
                   · by_cases zq_e : x = v
                     · subst zq_e; exfalso; unfold ovM at zq_c; omega
                     · exact absurd (hr.mpr (Or.inr ⟨x, zq_a, by omega, zq_c⟩)) (by omega))
          · refine w_iload hX dX10_placeIsWrong_103 rfl rfl ?_
            refine w_if_eq (tgt := 156) hX dX10_placeIsWrong_105 rfl (by decide) (fun h105 => absurd h105 (by decide)) (fun _ => ?_)
            refine w_aload_n (i := 0) hX dX10_placeIsWrong_108 rfl rfl rfl ?_
            refine w_getR (j := 3) hX cl9 fl_RX10_13_9 rfl (by decide) rfl rfl dX10_placeIsWrong_109 rfl ?_
            refine w_iload_n (i := 3) hX dX10_placeIsWrong_112 rfl rfl rfl ?_
            refine w_iald hX rfl (by omega) (by omega) dX10_placeIsWrong_113 rfl ?_
            refine w_aload_n (i := 0) hX dX10_placeIsWrong_114 rfl rfl rfl ?_
            refine w_getR (j := 3) hX cl9 fl_RX10_13_9 rfl (by decide) rfl rfl dX10_placeIsWrong_115 rfl ?_
            refine w_iload_n (i := 1) hX dX10_placeIsWrong_118 rfl rfl rfl ?_
            refine w_iald hX rfl (by omega) (by omega) dX10_placeIsWrong_119 rfl ?_
            refine w_aload_n (i := 0) hX dX10_placeIsWrong_120 rfl rfl rfl ?_
            refine w_getR (j := 2) hX cl9 fl_RX10_7_9 rfl (by decide) rfl rfl dX10_placeIsWrong_121 rfl ?_
            refine w_iload_n (i := 1) hX dX10_placeIsWrong_124 rfl rfl rfl ?_
            refine w_iald hX rfl (by omega) (by omega) dX10_placeIsWrong_125 rfl ?_
            refine w_iadd hX dX10_placeIsWrong_126 rfl (by omega) ?_
            refine w_icmp_ge (tgt := 156) hX dX10_placeIsWrong_127 rfl (by decide) (fun h127 => ?_) (fun h127 => ?_)
            · refine w_iconst hX dX10_placeIsWrong_156 rfl (by decide) ?_
              refine w_istore_n (i := 2) hX dX10_placeIsWrong_157 rfl rfl (by decide) ?_
              dsimp only [st1X, st2X, klX_I, klX_L, klX_R, klX_S, klX_N]
              refine w_iinc hX dX10_placeIsWrong_158 rfl rfl (by decide) (by omega) ?_
              dsimp only [st1X, st2X, klX_I, klX_L, klX_R, klX_S, klX_N]
              refine w_goto (tgt := 69) hX dX10_placeIsWrong_161 (by decide) ?_
              refine ih (v + 1) _ _ (by omega) (by omega) (by omega) (by omega) ?_
              constructor
              · intro zq_q
                first
                  | exact absurd zq_q (by decide)
                  | exact Or.inr ⟨v, h0, by omega, by unfold ovM; omega⟩
                  | (rcases hr.mp (by omega) with zq_x | ⟨x, zq_a, zq_b, zq_c⟩
                     · exact Or.inl zq_x
                     · exact Or.inr ⟨x, zq_a, by omega, zq_c⟩)
              · intro zq_q
                first
                  | rfl
                  | (rcases zq_q with zq_q | ⟨x, zq_a, zq_b, zq_c⟩
                     · exact absurd (hr.mpr (Or.inl zq_q)) (by omega)
                     · by_cases zq_e : x = v
                       · subst zq_e; exfalso; unfold ovM at zq_c; omega
                       · exact absurd (hr.mpr (Or.inr ⟨x, zq_a, by omega, zq_c⟩)) (by omega))
            · refine w_aload_n (i := 0) hX dX10_placeIsWrong_130 rfl rfl rfl ?_
              refine w_getR (j := 3) hX cl9 fl_RX10_13_9 rfl (by decide) rfl rfl dX10_placeIsWrong_131 rfl ?_
              refine w_iload_n (i := 1) hX dX10_placeIsWrong_134 rfl rfl rfl ?_
              refine w_iald hX rfl (by omega) (by omega) dX10_placeIsWrong_135 rfl ?_
              refine w_aload_n (i := 0) hX dX10_placeIsWrong_136 rfl rfl rfl ?_
              refine w_getR (j := 3) hX cl9 fl_RX10_13_9 rfl (by decide) rfl rfl dX10_placeIsWrong_137 rfl ?_
              refine w_iload_n (i := 3) hX dX10_placeIsWrong_140 rfl rfl rfl ?_
              refine w_iald hX rfl (by omega) (by omega) dX10_placeIsWrong_141 rfl ?_
              refine w_aload_n (i := 0) hX dX10_placeIsWrong_142 rfl rfl rfl ?_
              refine w_getR (j := 2) hX cl9 fl_RX10_7_9 rfl (by decide) rfl rfl dX10_placeIsWrong_143 rfl ?_
              refine w_iload_n (i := 3) hX dX10_placeIsWrong_146 rfl rfl rfl ?_
              refine w_iald hX rfl (by omega) (by omega) dX10_placeIsWrong_147 rfl ?_
              refine w_iadd hX dX10_placeIsWrong_148 rfl (by omega) ?_
              refine w_icmp_ge (tgt := 156) hX dX10_placeIsWrong_149 rfl (by decide) (fun h149 => ?_) (fun h149 => ?_)
              · refine w_iconst hX dX10_placeIsWrong_156 rfl (by decide) ?_
                refine w_istore_n (i := 2) hX dX10_placeIsWrong_157 rfl rfl (by decide) ?_
                dsimp only [st1X, st2X, klX_I, klX_L, klX_R, klX_S, klX_N]
                refine w_iinc hX dX10_placeIsWrong_158 rfl rfl (by decide) (by omega) ?_
                dsimp only [st1X, st2X, klX_I, klX_L, klX_R, klX_S, klX_N]
                refine w_goto (tgt := 69) hX dX10_placeIsWrong_161 (by decide) ?_
                refine ih (v + 1) _ _ (by omega) (by omega) (by omega) (by omega) ?_
                constructor
                · intro zq_q
                  first
                    | exact absurd zq_q (by decide)
                    | exact Or.inr ⟨v, h0, by omega, by unfold ovM; omega⟩
                    | (rcases hr.mp (by omega) with zq_x | ⟨x, zq_a, zq_b, zq_c⟩
                       · exact Or.inl zq_x
                       · exact Or.inr ⟨x, zq_a, by omega, zq_c⟩)
                · intro zq_q
                  first
                    | rfl
                    | (rcases zq_q with zq_q | ⟨x, zq_a, zq_b, zq_c⟩
                       · exact absurd (hr.mpr (Or.inl zq_q)) (by omega)
                       · by_cases zq_e : x = v
                         · subst zq_e; exfalso; unfold ovM at zq_c; omega
                         · exact absurd (hr.mpr (Or.inr ⟨x, zq_a, by omega, zq_c⟩)) (by omega))
              · refine w_iconst hX dX10_placeIsWrong_152 rfl (by decide) ?_
                refine w_goto (tgt := 157) hX dX10_placeIsWrong_153 (by decide) ?_
                refine w_istore_n (i := 2) hX dX10_placeIsWrong_157 rfl rfl (by decide) ?_
                dsimp only [st1X, st2X, klX_I, klX_L, klX_R, klX_S, klX_N]
                refine w_iinc hX dX10_placeIsWrong_158 rfl rfl (by decide) (by omega) ?_
                dsimp only [st1X, st2X, klX_I, klX_L, klX_R, klX_S, klX_N]
                refine w_goto (tgt := 69) hX dX10_placeIsWrong_161 (by decide) ?_
                refine ih (v + 1) _ _ (by omega) (by omega) (by omega) (by omega) ?_
                constructor
                · intro zq_q
                  first
                    | exact absurd zq_q (by decide)
                    | exact Or.inr ⟨v, h0, by omega, by unfold ovM; omega⟩
                    | (rcases hr.mp (by omega) with zq_x | ⟨x, zq_a, zq_b, zq_c⟩
                       · exact Or.inl zq_x
                       · exact Or.inr ⟨x, zq_a, by omega, zq_c⟩)
                · intro zq_q
                  first
                    | rfl
                    | (rcases zq_q with zq_q | ⟨x, zq_a, zq_b, zq_c⟩
                       · exact absurd (hr.mpr (Or.inl zq_q)) (by omega)
                       · by_cases zq_e : x = v
                         · subst zq_e; exfalso; unfold ovM at zq_c; omega
                         · exact absurd (hr.mpr (Or.inr ⟨x, zq_a, by omega, zq_c⟩)) (by omega))

set_option maxRecDepth 100000 in
set_option maxHeartbeats 4000000 in
theorem r_placeIsWrong (D : Dd) (hM : MF D) (u : Int) (hu : 0 ≤ u ∧ u < 16) : MC 1 yX10_placeIsWrong cX10_placeIsWrong 5 (some .boolean) [vR 279, vI u] D (Is (some (vI (b2 (mpM D u)))) D) := by
  refine MC.mk [vR 279, vI u, vN, vN, vN] (by decide) (Nat.le_of_ble_eq_true rfl) rfl (fun X Q hX hF hok hol => ?_)
  have zq_1 := hM.1.1
  have zq_u := hM.2 u.toNat (by omega)
  refine w_iload_n (i := 1) hX dX10_placeIsWrong_0 rfl rfl rfl ?_
  refine w_aload_n (i := 0) hX dX10_placeIsWrong_1 rfl rfl rfl ?_
  refine w_getI (j := 1) hX cl9 fl_RX10_83_9 rfl (by decide) rfl dX10_placeIsWrong_2 rfl ?_
  refine w_iconst hX dX10_placeIsWrong_5 rfl (by decide) ?_
  refine w_isub hX dX10_placeIsWrong_6 rfl (by omega) ?_
  refine w_icmp_ne (tgt := 21) hX dX10_placeIsWrong_7 rfl (by decide) (fun h7 => ?_) (fun h7 => ?_)
  · refine w_aload_n (i := 0) hX dX10_placeIsWrong_21 rfl rfl rfl ?_
    refine w_getR (j := 3) hX cl9 fl_RX10_13_9 rfl (by decide) rfl rfl dX10_placeIsWrong_22 rfl ?_
    refine w_iload_n (i := 1) hX dX10_placeIsWrong_25 rfl rfl rfl ?_
    refine w_iald hX rfl (by omega) (by omega) dX10_placeIsWrong_26 rfl ?_
    refine w_if_lt (tgt := 39) hX dX10_placeIsWrong_27 rfl (by decide) (fun h27 => ?_) (fun h27 => ?_)
    · refine w_iconst hX dX10_placeIsWrong_39 rfl (by decide) ?_
      exact e_z hX hF dX10_placeIsWrong_40 (by decide) ⟨by rw [b2_f (fun zq_q => by rcases zq_q with zq_q | ⟨zq_q, _⟩; omega; omega)], rfl⟩
    · refine w_aload_n (i := 0) hX dX10_placeIsWrong_30 rfl rfl rfl ?_
      refine w_getR (j := 2) hX cl9 fl_RX10_7_9 rfl (by decide) rfl rfl dX10_placeIsWrong_31 rfl ?_
      refine w_iload_n (i := 1) hX dX10_placeIsWrong_34 rfl rfl rfl ?_
      refine w_iald hX rfl (by omega) (by omega) dX10_placeIsWrong_35 rfl ?_
      refine w_if_ne (tgt := 41) hX dX10_placeIsWrong_36 rfl (by decide) (fun h36 => ?_) (fun h36 => ?_)
      · refine w_aload_n (i := 0) hX dX10_placeIsWrong_41 rfl rfl rfl ?_
        refine w_getR (j := 3) hX cl9 fl_RX10_13_9 rfl (by decide) rfl rfl dX10_placeIsWrong_42 rfl ?_
        refine w_iload_n (i := 1) hX dX10_placeIsWrong_45 rfl rfl rfl ?_
        refine w_iald hX rfl (by omega) (by omega) dX10_placeIsWrong_46 rfl ?_
        refine w_aload_n (i := 0) hX dX10_placeIsWrong_47 rfl rfl rfl ?_
        refine w_getR (j := 2) hX cl9 fl_RX10_7_9 rfl (by decide) rfl rfl dX10_placeIsWrong_48 rfl ?_
        refine w_iload_n (i := 1) hX dX10_placeIsWrong_51 rfl rfl rfl ?_
        refine w_iald hX rfl (by omega) (by omega) dX10_placeIsWrong_52 rfl ?_
        refine w_iadd hX dX10_placeIsWrong_53 rfl (by omega) ?_
        refine w_aload_n (i := 0) hX dX10_placeIsWrong_54 rfl rfl rfl ?_
        refine w_getI (j := 0) hX cl9 fl_RX10_80_9 rfl (by decide) rfl dX10_placeIsWrong_55 rfl ?_
        refine w_icmp_le (tgt := 65) hX dX10_placeIsWrong_58 rfl (by decide) (fun h58 => ?_) (fun h58 => ?_)
        · refine w_iconst hX dX10_placeIsWrong_65 rfl (by decide) ?_
          refine w_istore_n (i := 2) hX dX10_placeIsWrong_66 rfl rfl (by decide) ?_
          dsimp only [st1X, st2X, klX_I, klX_L, klX_R, klX_S, klX_N]
          refine w_iconst hX dX10_placeIsWrong_67 rfl (by decide) ?_
          refine w_istore_n (i := 3) hX dX10_placeIsWrong_68 rfl rfl (by decide) ?_
          dsimp only [st1X, st2X, klX_I, klX_L, klX_R, klX_S, klX_N]
          refine l_rplace hX hF D hM u hu (D 279 0 < D 281 u.toNat + D 280 u.toNat) (fun w zq_w zq_r => ⟨?_, rfl⟩) _ 0 _ _ (Nat.lt_succ_self _) (by omega) (by omega) (by omega) ⟨fun zq_q => ?_, fun zq_q => ?_⟩
          · rcases zq_w with zq_w | zq_w
            · subst zq_w
              rw [b2_f (fun zq_q => by rcases zq_q with zq_q | ⟨_, zq_q⟩; omega; exact absurd (zq_r.mpr zq_q) (by decide))]
            · subst zq_w
              rw [b2_t (p := mpM D u) (Or.inr ⟨by omega, zq_r.mp rfl⟩)]
          · exact Or.inl (by omega)
          · rcases zq_q with zq_q | ⟨x, zq_a, zq_b, _⟩
            · omega
            · omega
        · refine w_iconst hX dX10_placeIsWrong_61 rfl (by decide) ?_
          refine w_goto (tgt := 66) hX dX10_placeIsWrong_62 (by decide) ?_
          refine w_istore_n (i := 2) hX dX10_placeIsWrong_66 rfl rfl (by decide) ?_
          dsimp only [st1X, st2X, klX_I, klX_L, klX_R, klX_S, klX_N]
          refine w_iconst hX dX10_placeIsWrong_67 rfl (by decide) ?_
          refine w_istore_n (i := 3) hX dX10_placeIsWrong_68 rfl rfl (by decide) ?_
          dsimp only [st1X, st2X, klX_I, klX_L, klX_R, klX_S, klX_N]
          refine l_rplace hX hF D hM u hu (D 279 0 < D 281 u.toNat + D 280 u.toNat) (fun w zq_w zq_r => ⟨?_, rfl⟩) _ 0 _ _ (Nat.lt_succ_self _) (by omega) (by omega) (by omega) ⟨fun zq_q => ?_, fun zq_q => ?_⟩
          · rcases zq_w with zq_w | zq_w
            · subst zq_w
              rw [b2_f (fun zq_q => by rcases zq_q with zq_q | ⟨_, zq_q⟩; omega; exact absurd (zq_r.mpr zq_q) (by decide))]
            · subst zq_w
              rw [b2_t (p := mpM D u) (Or.inr ⟨by omega, zq_r.mp rfl⟩)]
          · exact Or.inl (by omega)
          · rcases zq_q with zq_q | ⟨x, zq_a, zq_b, _⟩
            · omega
            · omega
      · refine w_iconst hX dX10_placeIsWrong_39 rfl (by decide) ?_
        exact e_z hX hF dX10_placeIsWrong_40 (by decide) ⟨by rw [b2_f (fun zq_q => by rcases zq_q with zq_q | ⟨zq_q, _⟩; omega; omega)], rfl⟩
  · refine w_aload_n (i := 0) hX dX10_placeIsWrong_10 rfl rfl rfl ?_
    refine w_getR (j := 3) hX cl9 fl_RX10_13_9 rfl (by decide) rfl rfl dX10_placeIsWrong_11 rfl ?_
    refine w_iload_n (i := 1) hX dX10_placeIsWrong_14 rfl rfl rfl ?_
    refine w_iald hX rfl (by omega) (by omega) dX10_placeIsWrong_15 rfl ?_
    refine w_if_eq (tgt := 21) hX dX10_placeIsWrong_16 rfl (by decide) (fun h16 => ?_) (fun h16 => ?_)
    · refine w_aload_n (i := 0) hX dX10_placeIsWrong_21 rfl rfl rfl ?_
      refine w_getR (j := 3) hX cl9 fl_RX10_13_9 rfl (by decide) rfl rfl dX10_placeIsWrong_22 rfl ?_
      refine w_iload_n (i := 1) hX dX10_placeIsWrong_25 rfl rfl rfl ?_
      refine w_iald hX rfl (by omega) (by omega) dX10_placeIsWrong_26 rfl ?_
      refine w_if_lt (tgt := 39) hX dX10_placeIsWrong_27 rfl (by decide) (fun h27 => ?_) (fun h27 => ?_)
      · refine w_iconst hX dX10_placeIsWrong_39 rfl (by decide) ?_
        exact e_z hX hF dX10_placeIsWrong_40 (by decide) ⟨by rw [b2_f (fun zq_q => by rcases zq_q with zq_q | ⟨zq_q, _⟩; omega; omega)], rfl⟩
      · refine w_aload_n (i := 0) hX dX10_placeIsWrong_30 rfl rfl rfl ?_
        refine w_getR (j := 2) hX cl9 fl_RX10_7_9 rfl (by decide) rfl rfl dX10_placeIsWrong_31 rfl ?_
        refine w_iload_n (i := 1) hX dX10_placeIsWrong_34 rfl rfl rfl ?_
        refine w_iald hX rfl (by omega) (by omega) dX10_placeIsWrong_35 rfl ?_
        refine w_if_ne (tgt := 41) hX dX10_placeIsWrong_36 rfl (by decide) (fun h36 => ?_) (fun h36 => ?_)
        · refine w_aload_n (i := 0) hX dX10_placeIsWrong_41 rfl rfl rfl ?_
          refine w_getR (j := 3) hX cl9 fl_RX10_13_9 rfl (by decide) rfl rfl dX10_placeIsWrong_42 rfl ?_
          refine w_iload_n (i := 1) hX dX10_placeIsWrong_45 rfl rfl rfl ?_
          refine w_iald hX rfl (by omega) (by omega) dX10_placeIsWrong_46 rfl ?_
          refine w_aload_n (i := 0) hX dX10_placeIsWrong_47 rfl rfl rfl ?_
          refine w_getR (j := 2) hX cl9 fl_RX10_7_9 rfl (by decide) rfl rfl dX10_placeIsWrong_48 rfl ?_
          refine w_iload_n (i := 1) hX dX10_placeIsWrong_51 rfl rfl rfl ?_
          refine w_iald hX rfl (by omega) (by omega) dX10_placeIsWrong_52 rfl ?_
          refine w_iadd hX dX10_placeIsWrong_53 rfl (by omega) ?_
          refine w_aload_n (i := 0) hX dX10_placeIsWrong_54 rfl rfl rfl ?_
          refine w_getI (j := 0) hX cl9 fl_RX10_80_9 rfl (by decide) rfl dX10_placeIsWrong_55 rfl ?_
          refine w_icmp_le (tgt := 65) hX dX10_placeIsWrong_58 rfl (by decide) (fun h58 => ?_) (fun h58 => ?_)
          · refine w_iconst hX dX10_placeIsWrong_65 rfl (by decide) ?_
            refine w_istore_n (i := 2) hX dX10_placeIsWrong_66 rfl rfl (by decide) ?_
            dsimp only [st1X, st2X, klX_I, klX_L, klX_R, klX_S, klX_N]
            refine w_iconst hX dX10_placeIsWrong_67 rfl (by decide) ?_
            refine w_istore_n (i := 3) hX dX10_placeIsWrong_68 rfl rfl (by decide) ?_
            dsimp only [st1X, st2X, klX_I, klX_L, klX_R, klX_S, klX_N]
            refine l_rplace hX hF D hM u hu (D 279 0 < D 281 u.toNat + D 280 u.toNat) (fun w zq_w zq_r => ⟨?_, rfl⟩) _ 0 _ _ (Nat.lt_succ_self _) (by omega) (by omega) (by omega) ⟨fun zq_q => ?_, fun zq_q => ?_⟩
            · rcases zq_w with zq_w | zq_w
              · subst zq_w
                rw [b2_f (fun zq_q => by rcases zq_q with zq_q | ⟨_, zq_q⟩; omega; exact absurd (zq_r.mpr zq_q) (by decide))]
              · subst zq_w
                rw [b2_t (p := mpM D u) (Or.inr ⟨by omega, zq_r.mp rfl⟩)]
            · exact Or.inl (by omega)
            · rcases zq_q with zq_q | ⟨x, zq_a, zq_b, _⟩
              · omega
              · omega
          · refine w_iconst hX dX10_placeIsWrong_61 rfl (by decide) ?_
            refine w_goto (tgt := 66) hX dX10_placeIsWrong_62 (by decide) ?_
            refine w_istore_n (i := 2) hX dX10_placeIsWrong_66 rfl rfl (by decide) ?_
            dsimp only [st1X, st2X, klX_I, klX_L, klX_R, klX_S, klX_N]
            refine w_iconst hX dX10_placeIsWrong_67 rfl (by decide) ?_
            refine w_istore_n (i := 3) hX dX10_placeIsWrong_68 rfl rfl (by decide) ?_
            dsimp only [st1X, st2X, klX_I, klX_L, klX_R, klX_S, klX_N]
            refine l_rplace hX hF D hM u hu (D 279 0 < D 281 u.toNat + D 280 u.toNat) (fun w zq_w zq_r => ⟨?_, rfl⟩) _ 0 _ _ (Nat.lt_succ_self _) (by omega) (by omega) (by omega) ⟨fun zq_q => ?_, fun zq_q => ?_⟩
            · rcases zq_w with zq_w | zq_w
              · subst zq_w
                rw [b2_f (fun zq_q => by rcases zq_q with zq_q | ⟨_, zq_q⟩; omega; exact absurd (zq_r.mpr zq_q) (by decide))]
              · subst zq_w
                rw [b2_t (p := mpM D u) (Or.inr ⟨by omega, zq_r.mp rfl⟩)]
            · exact Or.inl (by omega)
            · rcases zq_q with zq_q | ⟨x, zq_a, zq_b, _⟩
              · omega
              · omega
        · refine w_iconst hX dX10_placeIsWrong_39 rfl (by decide) ?_
          exact e_z hX hF dX10_placeIsWrong_40 (by decide) ⟨by rw [b2_f (fun zq_q => by rcases zq_q with zq_q | ⟨zq_q, _⟩; omega; omega)], rfl⟩
    · refine w_iconst hX dX10_placeIsWrong_19 rfl (by decide) ?_
      exact e_z hX hF dX10_placeIsWrong_20 (by decide) ⟨by rw [b2_t (p := mpM D u) (Or.inl ⟨by omega, by omega⟩)], rfl⟩

set_option maxRecDepth 100000 in
set_option maxHeartbeats 4000000 in
theorem r_isWrongNumber (D : Dd) (i : Int) (hi : 0 ≤ i ∧ i < 256) : MC 2 yX10_isWrongNumber cX10_isWrongNumber 2 (some .boolean) [vR 279, vI i] D (Is (some (vI (b2 (wfP (D 283 i.toNat) (D 284 i.toNat) (D 285 i.toNat) (D 286 i.toNat))))) D) := by
  refine MC.mk [vR 279, vI i] (by decide) (Nat.le_of_ble_eq_true rfl) rfl (fun X Q hX hF hok hol => ?_)
  refine w_aload_n (i := 0) hX dX10_isWrongNumber_0 rfl rfl rfl ?_
  refine w_getR (j := 6) hX cl9 fl_RX10_19_9 rfl (by decide) rfl rfl dX10_isWrongNumber_1 rfl ?_
  refine w_iload_n (i := 1) hX dX10_isWrongNumber_4 rfl rfl rfl ?_
  refine w_iald hX rfl (by omega) (by omega) dX10_isWrongNumber_5 rfl ?_
  refine w_nameI (fun sw6 hsw6 => ?_)
  by_cases g6_0 : sw6 = 3 ∨ sw6 = 4
  · refine w_tsw (tgt := 172) hX dX10_isWrongNumber_6 rfl (by rcases g6_0 with w | w <;> rw [w] <;> decide) ?_
    refine w_aload_n (i := 0) hX dX10_isWrongNumber_172 rfl rfl rfl ?_
    refine w_getR (j := 9) hX cl9 fl_RX10_28_9 rfl (by decide) rfl rfl dX10_isWrongNumber_173 rfl ?_
    refine w_iload_n (i := 1) hX dX10_isWrongNumber_176 rfl rfl rfl ?_
    refine w_iald hX rfl (by omega) (by omega) dX10_isWrongNumber_177 rfl ?_
    refine w_iconst hX dX10_isWrongNumber_178 rfl (by decide) ?_
    refine w_icmp_ge (tgt := 186) hX dX10_isWrongNumber_179 rfl (by decide) (fun h179 => ?_) (fun h179 => ?_)
    · refine w_iconst hX dX10_isWrongNumber_186 rfl (by decide) ?_
      exact e_z hX hF dX10_isWrongNumber_187 (by decide) ⟨by first | rw [b2_t (by (try unfold wfP); omega)] | rw [b2_f (by (try unfold wfP); omega)], rfl⟩
    · refine w_iconst hX dX10_isWrongNumber_182 rfl (by decide) ?_
      refine w_goto (tgt := 187) hX dX10_isWrongNumber_183 (by decide) ?_
      exact e_z hX hF dX10_isWrongNumber_187 (by decide) ⟨by first | rw [b2_t (by (try unfold wfP); omega)] | rw [b2_f (by (try unfold wfP); omega)], rfl⟩
  by_cases g6_1 : sw6 = 7
  · refine w_tsw (tgt := 80) hX dX10_isWrongNumber_6 rfl (by rw [g6_1]; decide) ?_
    refine w_aload_n (i := 0) hX dX10_isWrongNumber_80 rfl rfl rfl ?_
    refine w_getR (j := 7) hX cl9 fl_RX10_22_9 rfl (by decide) rfl rfl dX10_isWrongNumber_81 rfl ?_
    refine w_iload_n (i := 1) hX dX10_isWrongNumber_84 rfl rfl rfl ?_
    refine w_iald hX rfl (by omega) (by omega) dX10_isWrongNumber_85 rfl ?_
    refine w_i2l hX dX10_isWrongNumber_86 rfl ?_
    refine w_lconst0 hX dX10_isWrongNumber_87 rfl ?_
    refine w_ldc2 (x := 24) hX kl_RX10_97 dX10_isWrongNumber_88 rfl (by decide) (by decide) ?_
    refine c_S hX ml_RX10_99 dX10_isWrongNumber_91 rfl (r_isIn D _ _ _) rfl rfl (by decide) (Nat.le_of_ble_eq_true rfl) ?_
    rintro _ _ ⟨rfl, rfl⟩ -
    all_goals try dsimp only [Option.toList, List.cons_append, List.nil_append]
    refine w_if_ne (tgt := 101) hX dX10_isWrongNumber_94 rfl (by decide) (fun h94 => ?_) (fun h94 => ?_)
    · rw [b2_ne] at h94
      refine w_iconst hX dX10_isWrongNumber_101 rfl (by decide) ?_
      exact e_z hX hF dX10_isWrongNumber_102 (by decide) ⟨by first | rw [b2_t (by (try unfold wfP); omega)] | rw [b2_f (by (try unfold wfP); omega)], rfl⟩
    · rw [b2_nn] at h94
      refine w_iconst hX dX10_isWrongNumber_97 rfl (by decide) ?_
      refine w_goto (tgt := 102) hX dX10_isWrongNumber_98 (by decide) ?_
      exact e_z hX hF dX10_isWrongNumber_102 (by decide) ⟨by first | rw [b2_t (by (try unfold wfP); omega)] | rw [b2_f (by (try unfold wfP); omega)], rfl⟩
  by_cases g6_2 : sw6 = 8
  · refine w_tsw (tgt := 103) hX dX10_isWrongNumber_6 rfl (by rw [g6_2]; decide) ?_
    refine w_aload_n (i := 0) hX dX10_isWrongNumber_103 rfl rfl rfl ?_
    refine w_getR (j := 7) hX cl9 fl_RX10_22_9 rfl (by decide) rfl rfl dX10_isWrongNumber_104 rfl ?_
    refine w_iload_n (i := 1) hX dX10_isWrongNumber_107 rfl rfl rfl ?_
    refine w_iald hX rfl (by omega) (by omega) dX10_isWrongNumber_108 rfl ?_
    refine w_i2l hX dX10_isWrongNumber_109 rfl ?_
    refine w_lconst0 hX dX10_isWrongNumber_110 rfl ?_
    refine w_ldc2 (x := 7) hX kl_RX10_103 dX10_isWrongNumber_111 rfl (by decide) (by decide) ?_
    refine c_S hX ml_RX10_99 dX10_isWrongNumber_114 rfl (r_isIn D _ _ _) rfl rfl (by decide) (Nat.le_of_ble_eq_true rfl) ?_
    rintro _ _ ⟨rfl, rfl⟩ -
    all_goals try dsimp only [Option.toList, List.cons_append, List.nil_append]
    refine w_if_ne (tgt := 124) hX dX10_isWrongNumber_117 rfl (by decide) (fun h117 => ?_) (fun h117 => ?_)
    · rw [b2_ne] at h117
      refine w_iconst hX dX10_isWrongNumber_124 rfl (by decide) ?_
      exact e_z hX hF dX10_isWrongNumber_125 (by decide) ⟨by first | rw [b2_t (by (try unfold wfP); omega)] | rw [b2_f (by (try unfold wfP); omega)], rfl⟩
    · rw [b2_nn] at h117
      refine w_iconst hX dX10_isWrongNumber_120 rfl (by decide) ?_
      refine w_goto (tgt := 125) hX dX10_isWrongNumber_121 (by decide) ?_
      exact e_z hX hF dX10_isWrongNumber_125 (by decide) ⟨by first | rw [b2_t (by (try unfold wfP); omega)] | rw [b2_f (by (try unfold wfP); omega)], rfl⟩
  by_cases g6_3 : sw6 = 12
  · refine w_tsw (tgt := 126) hX dX10_isWrongNumber_6 rfl (by rw [g6_3]; decide) ?_
    refine w_aload_n (i := 0) hX dX10_isWrongNumber_126 rfl rfl rfl ?_
    refine w_getR (j := 8) hX cl9 fl_RX10_25_9 rfl (by decide) rfl rfl dX10_isWrongNumber_127 rfl ?_
    refine w_iload_n (i := 1) hX dX10_isWrongNumber_130 rfl rfl rfl ?_
    refine w_iald hX rfl (by omega) (by omega) dX10_isWrongNumber_131 rfl ?_
    refine w_i2l hX dX10_isWrongNumber_132 rfl ?_
    refine w_lconst0 hX dX10_isWrongNumber_133 rfl ?_
    refine w_ldc2 (x := 1000000) hX kl_RX10_105 dX10_isWrongNumber_134 rfl (by decide) (by decide) ?_
    refine c_S hX ml_RX10_99 dX10_isWrongNumber_137 rfl (r_isIn D _ _ _) rfl rfl (by decide) (Nat.le_of_ble_eq_true rfl) ?_
    rintro _ _ ⟨rfl, rfl⟩ -
    all_goals try dsimp only [Option.toList, List.cons_append, List.nil_append]
    refine w_if_ne (tgt := 147) hX dX10_isWrongNumber_140 rfl (by decide) (fun h140 => ?_) (fun h140 => ?_)
    · rw [b2_ne] at h140
      refine w_iconst hX dX10_isWrongNumber_147 rfl (by decide) ?_
      exact e_z hX hF dX10_isWrongNumber_148 (by decide) ⟨by first | rw [b2_t (by (try unfold wfP); omega)] | rw [b2_f (by (try unfold wfP); omega)], rfl⟩
    · rw [b2_nn] at h140
      refine w_iconst hX dX10_isWrongNumber_143 rfl (by decide) ?_
      refine w_goto (tgt := 148) hX dX10_isWrongNumber_144 (by decide) ?_
      exact e_z hX hF dX10_isWrongNumber_148 (by decide) ⟨by first | rw [b2_t (by (try unfold wfP); omega)] | rw [b2_f (by (try unfold wfP); omega)], rfl⟩
  by_cases g6_4 : sw6 = 17
  · refine w_tsw (tgt := 149) hX dX10_isWrongNumber_6 rfl (by rw [g6_4]; decide) ?_
    refine w_aload_n (i := 0) hX dX10_isWrongNumber_149 rfl rfl rfl ?_
    refine w_getR (j := 7) hX cl9 fl_RX10_22_9 rfl (by decide) rfl rfl dX10_isWrongNumber_150 rfl ?_
    refine w_iload_n (i := 1) hX dX10_isWrongNumber_153 rfl rfl rfl ?_
    refine w_iald hX rfl (by omega) (by omega) dX10_isWrongNumber_154 rfl ?_
    refine w_i2l hX dX10_isWrongNumber_155 rfl ?_
    refine w_lconst0 hX dX10_isWrongNumber_156 rfl ?_
    refine w_ldc2 (x := 8) hX kl_RX10_107 dX10_isWrongNumber_157 rfl (by decide) (by decide) ?_
    refine c_S hX ml_RX10_99 dX10_isWrongNumber_160 rfl (r_isIn D _ _ _) rfl rfl (by decide) (Nat.le_of_ble_eq_true rfl) ?_
    rintro _ _ ⟨rfl, rfl⟩ -
    all_goals try dsimp only [Option.toList, List.cons_append, List.nil_append]
    refine w_if_ne (tgt := 170) hX dX10_isWrongNumber_163 rfl (by decide) (fun h163 => ?_) (fun h163 => ?_)
    · rw [b2_ne] at h163
      refine w_iconst hX dX10_isWrongNumber_170 rfl (by decide) ?_
      exact e_z hX hF dX10_isWrongNumber_171 (by decide) ⟨by first | rw [b2_t (by (try unfold wfP); omega)] | rw [b2_f (by (try unfold wfP); omega)], rfl⟩
    · rw [b2_nn] at h163
      refine w_iconst hX dX10_isWrongNumber_166 rfl (by decide) ?_
      refine w_goto (tgt := 171) hX dX10_isWrongNumber_167 (by decide) ?_
      exact e_z hX hF dX10_isWrongNumber_171 (by decide) ⟨by first | rw [b2_t (by (try unfold wfP); omega)] | rw [b2_f (by (try unfold wfP); omega)], rfl⟩
  refine w_tsw (tgt := 188) hX dX10_isWrongNumber_6 rfl (by rw [sw_dflt [3, 4, 7, 8, 12, 17] (by decide) (by simp only [List.mem_cons, List.not_mem_nil, or_false]; omega)]; decide) ?_
  refine w_aload_n (i := 0) hX dX10_isWrongNumber_188 rfl rfl rfl ?_
  refine w_getR (j := 6) hX cl9 fl_RX10_19_9 rfl (by decide) rfl rfl dX10_isWrongNumber_189 rfl ?_
  refine w_iload_n (i := 1) hX dX10_isWrongNumber_192 rfl rfl rfl ?_
  refine w_iald hX rfl (by omega) (by omega) dX10_isWrongNumber_193 rfl ?_
  refine w_i2l hX dX10_isWrongNumber_194 rfl ?_
  refine w_lconst0 hX dX10_isWrongNumber_195 rfl ?_
  refine w_ldc2 (x := 18) hX kl_RX10_109 dX10_isWrongNumber_196 rfl (by decide) (by decide) ?_
  refine c_S hX ml_RX10_99 dX10_isWrongNumber_199 rfl (r_isIn D _ _ _) rfl rfl (by decide) (Nat.le_of_ble_eq_true rfl) ?_
  rintro _ _ ⟨rfl, rfl⟩ -
  all_goals try dsimp only [Option.toList, List.cons_append, List.nil_append]
  refine w_if_ne (tgt := 209) hX dX10_isWrongNumber_202 rfl (by decide) (fun h202 => ?_) (fun h202 => ?_)
  · rw [b2_ne] at h202
    refine w_iconst hX dX10_isWrongNumber_209 rfl (by decide) ?_
    exact e_z hX hF dX10_isWrongNumber_210 (by decide) ⟨by first | rw [b2_t (by (try unfold wfP); omega)] | rw [b2_f (by (try unfold wfP); omega)], rfl⟩
  · rw [b2_nn] at h202
    refine w_iconst hX dX10_isWrongNumber_205 rfl (by decide) ?_
    refine w_goto (tgt := 210) hX dX10_isWrongNumber_206 (by decide) ?_
    exact e_z hX hF dX10_isWrongNumber_210 (by decide) ⟨by first | rw [b2_t (by (try unfold wfP); omega)] | rw [b2_f (by (try unfold wfP); omega)], rfl⟩

set_option maxRecDepth 100000 in
set_option maxHeartbeats 4000000 in
theorem r_namesUnit (D : Dd) (i : Int) (hi : 0 ≤ i ∧ i < 256) : MC 1 yX10_namesUnit cX10_namesUnit 3 (some .boolean) [vR 279, vI i] D (Is (some (vI (b2 (D 283 i.toNat = 5 ∨ D 283 i.toNat = 6 ∨ D 283 i.toNat = 15 ∨ D 283 i.toNat = 16)))) D) := by
  refine MC.mk [vR 279, vI i, vN] (by decide) (Nat.le_of_ble_eq_true rfl) rfl (fun X Q hX hF hok hol => ?_)
  refine w_aload_n (i := 0) hX dX10_namesUnit_0 rfl rfl rfl ?_
  refine w_getR (j := 6) hX cl9 fl_RX10_19_9 rfl (by decide) rfl rfl dX10_namesUnit_1 rfl ?_
  refine w_iload_n (i := 1) hX dX10_namesUnit_4 rfl rfl rfl ?_
  refine w_iald hX rfl (by omega) (by omega) dX10_namesUnit_5 rfl ?_
  refine w_istore_n (i := 2) hX dX10_namesUnit_6 rfl rfl (by decide) ?_
  dsimp only [st1X, st2X, klX_I, klX_L, klX_R, klX_S, klX_N]
  refine w_iload_n (i := 2) hX dX10_namesUnit_7 rfl rfl rfl ?_
  refine w_iconst hX dX10_namesUnit_8 rfl (by decide) ?_
  refine w_icmp_eq (tgt := 30) hX dX10_namesUnit_9 rfl (by decide) (fun h9 => ?_) (fun h9 => ?_)
  · refine w_iconst hX dX10_namesUnit_30 rfl (by decide) ?_
    refine w_goto (tgt := 35) hX dX10_namesUnit_31 (by decide) ?_
    exact e_z hX hF dX10_namesUnit_35 (by decide) ⟨by first | rw [b2_t (by omega)] | rw [b2_f (by omega)], rfl⟩
  · refine w_iload_n (i := 2) hX dX10_namesUnit_12 rfl rfl rfl ?_
    refine w_bipush hX dX10_namesUnit_13 rfl (by decide) ?_
    refine w_icmp_eq (tgt := 30) hX dX10_namesUnit_15 rfl (by decide) (fun h15 => ?_) (fun h15 => ?_)
    · refine w_iconst hX dX10_namesUnit_30 rfl (by decide) ?_
      refine w_goto (tgt := 35) hX dX10_namesUnit_31 (by decide) ?_
      exact e_z hX hF dX10_namesUnit_35 (by decide) ⟨by first | rw [b2_t (by omega)] | rw [b2_f (by omega)], rfl⟩
    · refine w_iload_n (i := 2) hX dX10_namesUnit_18 rfl rfl rfl ?_
      refine w_bipush hX dX10_namesUnit_19 rfl (by decide) ?_
      refine w_icmp_eq (tgt := 30) hX dX10_namesUnit_21 rfl (by decide) (fun h21 => ?_) (fun h21 => ?_)
      · refine w_iconst hX dX10_namesUnit_30 rfl (by decide) ?_
        refine w_goto (tgt := 35) hX dX10_namesUnit_31 (by decide) ?_
        exact e_z hX hF dX10_namesUnit_35 (by decide) ⟨by first | rw [b2_t (by omega)] | rw [b2_f (by omega)], rfl⟩
      · refine w_iload_n (i := 2) hX dX10_namesUnit_24 rfl rfl rfl ?_
        refine w_bipush hX dX10_namesUnit_25 rfl (by decide) ?_
        refine w_icmp_ne (tgt := 34) hX dX10_namesUnit_27 rfl (by decide) (fun h27 => ?_) (fun h27 => ?_)
        · refine w_iconst hX dX10_namesUnit_34 rfl (by decide) ?_
          exact e_z hX hF dX10_namesUnit_35 (by decide) ⟨by first | rw [b2_t (by omega)] | rw [b2_f (by omega)], rfl⟩
        · refine w_iconst hX dX10_namesUnit_30 rfl (by decide) ?_
          refine w_goto (tgt := 35) hX dX10_namesUnit_31 (by decide) ?_
          exact e_z hX hF dX10_namesUnit_35 (by decide) ⟨by first | rw [b2_t (by omega)] | rw [b2_f (by omega)], rfl⟩

abbrev wuM (D : Dd) (u n a : Int) : Prop := (n = 5 ∨ n = 6 ∨ n = 15 ∨ n = 16) ∧ (¬ (0 ≤ a ∧ a ≤ u - 1) ∨ (n = 15 ∧ 0 ≤ D 281 a.toNat) ∨ (n ≠ 15 ∧ D 281 a.toNat < 0))
def fcM (n a b : Int) : Int := if n = 5 ∨ n = 6 ∨ n = 15 ∨ n = 17 then b else a
def cnM (D : Dd) (n a c : Int) : Int := if n = 1 ∨ n = 2 ∨ n = 5 ∨ n = 6 ∨ n = 12 ∨ n = 13 then 1 else if n = 3 ∨ n = 4 then c else if n = 15 then D 280 a.toNat else if n = 17 then (if a < 5 then 6 else 3) else 0

set_option maxRecDepth 100000 in
set_option maxHeartbeats 4000000 in
theorem r_isWrongUnit (D : Dd) (i : Int) (hi : 0 ≤ i ∧ i < 256) (u : Int) (hu : 0 ≤ u ∧ u < 16) : MC 2 yX10_isWrongUnit cX10_isWrongUnit 3 (some .boolean) [vR 279, vI i, vI u] D (Is (some (vI (b2 (wuM D u (D 283 i.toNat) (D 284 i.toNat))))) D) := by
  refine MC.mk [vR 279, vI i, vI u] (by decide) (Nat.le_of_ble_eq_true rfl) rfl (fun X Q hX hF hok hol => ?_)
  refine w_aload_n (i := 0) hX dX10_isWrongUnit_0 rfl rfl rfl ?_
  refine w_iload_n (i := 1) hX dX10_isWrongUnit_1 rfl rfl rfl ?_
  refine c_V hX ml_RX10_111 cl9 dX10_isWrongUnit_2 rfl (r_namesUnit D i hi) rfl rfl rfl (by decide) (Nat.le_of_ble_eq_true rfl) ?_
  rintro _ _ ⟨rfl, rfl⟩ -
  all_goals try dsimp only [Option.toList, List.cons_append, List.nil_append]
  refine w_if_ne (tgt := 10) hX dX10_isWrongUnit_5 rfl (by decide) (fun h5 => ?_) (fun h5 => ?_)
  · rw [b2_ne] at h5
    refine w_aload_n (i := 0) hX dX10_isWrongUnit_10 rfl rfl rfl ?_
    refine w_getR (j := 7) hX cl9 fl_RX10_22_9 rfl (by decide) rfl rfl dX10_isWrongUnit_11 rfl ?_
    refine w_iload_n (i := 1) hX dX10_isWrongUnit_14 rfl rfl rfl ?_
    refine w_iald hX rfl (by omega) (by omega) dX10_isWrongUnit_15 rfl ?_
    refine w_i2l hX dX10_isWrongUnit_16 rfl ?_
    refine w_lconst0 hX dX10_isWrongUnit_17 rfl ?_
    refine w_iload_n (i := 2) hX dX10_isWrongUnit_18 rfl rfl rfl ?_
    refine w_i2l hX dX10_isWrongUnit_19 rfl ?_
    refine w_lconst1 hX dX10_isWrongUnit_20 rfl ?_
    refine w_lsub hX dX10_isWrongUnit_21 rfl (by omega) ?_
    refine c_S hX ml_RX10_99 dX10_isWrongUnit_22 rfl (r_isIn D _ _ _) rfl rfl (by decide) (Nat.le_of_ble_eq_true rfl) ?_
    rintro _ _ ⟨rfl, rfl⟩ -
    all_goals try dsimp only [Option.toList, List.cons_append, List.nil_append]
    refine w_if_ne (tgt := 30) hX dX10_isWrongUnit_25 rfl (by decide) (fun h25 => ?_) (fun h25 => ?_)
    · rw [b2_ne] at h25
      refine w_aload_n (i := 0) hX dX10_isWrongUnit_30 rfl rfl rfl ?_
      refine w_getR (j := 6) hX cl9 fl_RX10_19_9 rfl (by decide) rfl rfl dX10_isWrongUnit_31 rfl ?_
      refine w_iload_n (i := 1) hX dX10_isWrongUnit_34 rfl rfl rfl ?_
      refine w_iald hX rfl (by omega) (by omega) dX10_isWrongUnit_35 rfl ?_
      refine w_bipush hX dX10_isWrongUnit_36 rfl (by decide) ?_
      refine w_icmp_ne (tgt := 63) hX dX10_isWrongUnit_38 rfl (by decide) (fun h38 => ?_) (fun h38 => ?_)
      · refine w_aload_n (i := 0) hX dX10_isWrongUnit_63 rfl rfl rfl ?_
        refine w_getR (j := 3) hX cl9 fl_RX10_13_9 rfl (by decide) rfl rfl dX10_isWrongUnit_64 rfl ?_
        refine w_aload_n (i := 0) hX dX10_isWrongUnit_67 rfl rfl rfl ?_
        refine w_getR (j := 7) hX cl9 fl_RX10_22_9 rfl (by decide) rfl rfl dX10_isWrongUnit_68 rfl ?_
        refine w_iload_n (i := 1) hX dX10_isWrongUnit_71 rfl rfl rfl ?_
        refine w_iald hX rfl (by omega) (by omega) dX10_isWrongUnit_72 rfl ?_
        refine w_iald hX rfl (by omega) (by omega) dX10_isWrongUnit_73 rfl ?_
        refine w_if_ge (tgt := 81) hX dX10_isWrongUnit_74 rfl (by decide) (fun h74 => ?_) (fun h74 => ?_)
        · refine w_iconst hX dX10_isWrongUnit_81 rfl (by decide) ?_
          exact e_z hX hF dX10_isWrongUnit_82 (by decide) ⟨by first | rw [b2_t (by (try unfold wuM); omega)] | rw [b2_f (by (try unfold wuM); omega)], rfl⟩
        · refine w_iconst hX dX10_isWrongUnit_77 rfl (by decide) ?_
          refine w_goto (tgt := 82) hX dX10_isWrongUnit_78 (by decide) ?_
          exact e_z hX hF dX10_isWrongUnit_82 (by decide) ⟨by first | rw [b2_t (by (try unfold wuM); omega)] | rw [b2_f (by (try unfold wuM); omega)], rfl⟩
      · refine w_aload_n (i := 0) hX dX10_isWrongUnit_41 rfl rfl rfl ?_
        refine w_getR (j := 3) hX cl9 fl_RX10_13_9 rfl (by decide) rfl rfl dX10_isWrongUnit_42 rfl ?_
        refine w_aload_n (i := 0) hX dX10_isWrongUnit_45 rfl rfl rfl ?_
        refine w_getR (j := 7) hX cl9 fl_RX10_22_9 rfl (by decide) rfl rfl dX10_isWrongUnit_46 rfl ?_
        refine w_iload_n (i := 1) hX dX10_isWrongUnit_49 rfl rfl rfl ?_
        refine w_iald hX rfl (by omega) (by omega) dX10_isWrongUnit_50 rfl ?_
        refine w_iald hX rfl (by omega) (by omega) dX10_isWrongUnit_51 rfl ?_
        refine w_if_lt (tgt := 59) hX dX10_isWrongUnit_52 rfl (by decide) (fun h52 => ?_) (fun h52 => ?_)
        · refine w_iconst hX dX10_isWrongUnit_59 rfl (by decide) ?_
          refine w_goto (tgt := 82) hX dX10_isWrongUnit_60 (by decide) ?_
          exact e_z hX hF dX10_isWrongUnit_82 (by decide) ⟨by first | rw [b2_t (by (try unfold wuM); omega)] | rw [b2_f (by (try unfold wuM); omega)], rfl⟩
        · refine w_iconst hX dX10_isWrongUnit_55 rfl (by decide) ?_
          refine w_goto (tgt := 82) hX dX10_isWrongUnit_56 (by decide) ?_
          exact e_z hX hF dX10_isWrongUnit_82 (by decide) ⟨by first | rw [b2_t (by (try unfold wuM); omega)] | rw [b2_f (by (try unfold wuM); omega)], rfl⟩
    · rw [b2_nn] at h25
      refine w_iconst hX dX10_isWrongUnit_28 rfl (by decide) ?_
      exact e_z hX hF dX10_isWrongUnit_29 (by decide) ⟨by first | rw [b2_t (by (try unfold wuM); omega)] | rw [b2_f (by (try unfold wuM); omega)], rfl⟩
  · rw [b2_nn] at h5
    refine w_iconst hX dX10_isWrongUnit_8 rfl (by decide) ?_
    exact e_z hX hF dX10_isWrongUnit_9 (by decide) ⟨by first | rw [b2_t (by (try unfold wuM); omega)] | rw [b2_f (by (try unfold wuM); omega)], rfl⟩

set_option maxRecDepth 100000 in
set_option maxHeartbeats 4000000 in
theorem r_firstCell (D : Dd) (i : Int) (hi : 0 ≤ i ∧ i < 256) : MC 1 yX10_firstCell cX10_firstCell 3 (some .long) [vR 279, vI i] D (Is (some (vL (fcM (D 283 i.toNat) (D 284 i.toNat) (D 285 i.toNat)))) D) := by
  refine MC.mk [vR 279, vI i, vN] (by decide) (Nat.le_of_ble_eq_true rfl) rfl (fun X Q hX hF hok hol => ?_)
  refine w_aload_n (i := 0) hX dX10_firstCell_0 rfl rfl rfl ?_
  refine w_getR (j := 6) hX cl9 fl_RX10_19_9 rfl (by decide) rfl rfl dX10_firstCell_1 rfl ?_
  refine w_iload_n (i := 1) hX dX10_firstCell_4 rfl rfl rfl ?_
  refine w_iald hX rfl (by omega) (by omega) dX10_firstCell_5 rfl ?_
  refine w_istore_n (i := 2) hX dX10_firstCell_6 rfl rfl (by decide) ?_
  dsimp only [st1X, st2X, klX_I, klX_L, klX_R, klX_S, klX_N]
  refine w_iload_n (i := 2) hX dX10_firstCell_7 rfl rfl rfl ?_
  refine w_iconst hX dX10_firstCell_8 rfl (by decide) ?_
  refine w_icmp_eq (tgt := 30) hX dX10_firstCell_9 rfl (by decide) (fun h9 => ?_) (fun h9 => ?_)
  · refine w_aload_n (i := 0) hX dX10_firstCell_30 rfl rfl rfl ?_
    refine w_getR (j := 8) hX cl9 fl_RX10_25_9 rfl (by decide) rfl rfl dX10_firstCell_31 rfl ?_
    refine w_iload_n (i := 1) hX dX10_firstCell_34 rfl rfl rfl ?_
    refine w_iald hX rfl (by omega) (by omega) dX10_firstCell_35 rfl ?_
    refine w_i2l hX dX10_firstCell_36 rfl ?_
    refine w_goto (tgt := 47) hX dX10_firstCell_37 (by decide) ?_
    exact e_l hX hF dX10_firstCell_47 ⟨by simp only [fcM]; first | rw [if_pos (by omega)] | rw [if_neg (by omega)], rfl⟩
  · refine w_iload_n (i := 2) hX dX10_firstCell_12 rfl rfl rfl ?_
    refine w_bipush hX dX10_firstCell_13 rfl (by decide) ?_
    refine w_icmp_eq (tgt := 30) hX dX10_firstCell_15 rfl (by decide) (fun h15 => ?_) (fun h15 => ?_)
    · refine w_aload_n (i := 0) hX dX10_firstCell_30 rfl rfl rfl ?_
      refine w_getR (j := 8) hX cl9 fl_RX10_25_9 rfl (by decide) rfl rfl dX10_firstCell_31 rfl ?_
      refine w_iload_n (i := 1) hX dX10_firstCell_34 rfl rfl rfl ?_
      refine w_iald hX rfl (by omega) (by omega) dX10_firstCell_35 rfl ?_
      refine w_i2l hX dX10_firstCell_36 rfl ?_
      refine w_goto (tgt := 47) hX dX10_firstCell_37 (by decide) ?_
      exact e_l hX hF dX10_firstCell_47 ⟨by simp only [fcM]; first | rw [if_pos (by omega)] | rw [if_neg (by omega)], rfl⟩
    · refine w_iload_n (i := 2) hX dX10_firstCell_18 rfl rfl rfl ?_
      refine w_bipush hX dX10_firstCell_19 rfl (by decide) ?_
      refine w_icmp_eq (tgt := 30) hX dX10_firstCell_21 rfl (by decide) (fun h21 => ?_) (fun h21 => ?_)
      · refine w_aload_n (i := 0) hX dX10_firstCell_30 rfl rfl rfl ?_
        refine w_getR (j := 8) hX cl9 fl_RX10_25_9 rfl (by decide) rfl rfl dX10_firstCell_31 rfl ?_
        refine w_iload_n (i := 1) hX dX10_firstCell_34 rfl rfl rfl ?_
        refine w_iald hX rfl (by omega) (by omega) dX10_firstCell_35 rfl ?_
        refine w_i2l hX dX10_firstCell_36 rfl ?_
        refine w_goto (tgt := 47) hX dX10_firstCell_37 (by decide) ?_
        exact e_l hX hF dX10_firstCell_47 ⟨by simp only [fcM]; first | rw [if_pos (by omega)] | rw [if_neg (by omega)], rfl⟩
      · refine w_iload_n (i := 2) hX dX10_firstCell_24 rfl rfl rfl ?_
        refine w_bipush hX dX10_firstCell_25 rfl (by decide) ?_
        refine w_icmp_ne (tgt := 40) hX dX10_firstCell_27 rfl (by decide) (fun h27 => ?_) (fun h27 => ?_)
        · refine w_aload_n (i := 0) hX dX10_firstCell_40 rfl rfl rfl ?_
          refine w_getR (j := 7) hX cl9 fl_RX10_22_9 rfl (by decide) rfl rfl dX10_firstCell_41 rfl ?_
          refine w_iload_n (i := 1) hX dX10_firstCell_44 rfl rfl rfl ?_
          refine w_iald hX rfl (by omega) (by omega) dX10_firstCell_45 rfl ?_
          refine w_i2l hX dX10_firstCell_46 rfl ?_
          exact e_l hX hF dX10_firstCell_47 ⟨by simp only [fcM]; first | rw [if_pos (by omega)] | rw [if_neg (by omega)], rfl⟩
        · refine w_aload_n (i := 0) hX dX10_firstCell_30 rfl rfl rfl ?_
          refine w_getR (j := 8) hX cl9 fl_RX10_25_9 rfl (by decide) rfl rfl dX10_firstCell_31 rfl ?_
          refine w_iload_n (i := 1) hX dX10_firstCell_34 rfl rfl rfl ?_
          refine w_iald hX rfl (by omega) (by omega) dX10_firstCell_35 rfl ?_
          refine w_i2l hX dX10_firstCell_36 rfl ?_
          refine w_goto (tgt := 47) hX dX10_firstCell_37 (by decide) ?_
          exact e_l hX hF dX10_firstCell_47 ⟨by simp only [fcM]; first | rw [if_pos (by omega)] | rw [if_neg (by omega)], rfl⟩

set_option maxRecDepth 100000 in
set_option maxHeartbeats 4000000 in
theorem r_cellsOf (D : Dd) (i : Int) (hi : 0 ≤ i ∧ i < 256) (ha : D 283 i.toNat = 15 → 0 ≤ D 284 i.toNat ∧ D 284 i.toNat < 16) : MC 1 yX10_cellsOf cX10_cellsOf 2 (some .int) [vR 279, vI i] D (Is (some (vI (cnM D (D 283 i.toNat) (D 284 i.toNat) (D 286 i.toNat)))) D) := by
  refine MC.mk [vR 279, vI i] (by decide) (Nat.le_of_ble_eq_true rfl) rfl (fun X Q hX hF hok hol => ?_)
  refine w_aload_n (i := 0) hX dX10_cellsOf_0 rfl rfl rfl ?_
  refine w_getR (j := 6) hX cl9 fl_RX10_19_9 rfl (by decide) rfl rfl dX10_cellsOf_1 rfl ?_
  refine w_iload_n (i := 1) hX dX10_cellsOf_4 rfl rfl rfl ?_
  refine w_iald hX rfl (by omega) (by omega) dX10_cellsOf_5 rfl ?_
  refine w_nameI (fun sw6 hsw6 => ?_)
  by_cases g6_0 : sw6 = 1 ∨ sw6 = 2 ∨ sw6 = 5 ∨ sw6 = 6 ∨ sw6 = 12 ∨ sw6 = 13
  · refine w_tsw (tgt := 88) hX dX10_cellsOf_6 rfl (by rcases g6_0 with w | w | w | w | w | w <;> rw [w] <;> decide) ?_
    refine w_iconst hX dX10_cellsOf_88 rfl (by decide) ?_
    exact e_i hX hF dX10_cellsOf_89 ⟨by simp only [cnM]; rw [if_pos (by omega)], rfl⟩
  by_cases g6_1 : sw6 = 3 ∨ sw6 = 4
  · refine w_tsw (tgt := 90) hX dX10_cellsOf_6 rfl (by rcases g6_1 with w | w <;> rw [w] <;> decide) ?_
    refine w_aload_n (i := 0) hX dX10_cellsOf_90 rfl rfl rfl ?_
    refine w_getR (j := 9) hX cl9 fl_RX10_28_9 rfl (by decide) rfl rfl dX10_cellsOf_91 rfl ?_
    refine w_iload_n (i := 1) hX dX10_cellsOf_94 rfl rfl rfl ?_
    refine w_iald hX rfl (by omega) (by omega) dX10_cellsOf_95 rfl ?_
    exact e_i hX hF dX10_cellsOf_96 ⟨by simp only [cnM]; rw [if_neg (by omega), if_pos (by omega)], rfl⟩
  by_cases g6_2 : sw6 = 15
  · refine w_tsw (tgt := 97) hX dX10_cellsOf_6 rfl (by rw [g6_2]; decide) ?_
    refine w_aload_n (i := 0) hX dX10_cellsOf_97 rfl rfl rfl ?_
    refine w_getR (j := 2) hX cl9 fl_RX10_7_9 rfl (by decide) rfl rfl dX10_cellsOf_98 rfl ?_
    refine w_aload_n (i := 0) hX dX10_cellsOf_101 rfl rfl rfl ?_
    refine w_getR (j := 7) hX cl9 fl_RX10_22_9 rfl (by decide) rfl rfl dX10_cellsOf_102 rfl ?_
    refine w_iload_n (i := 1) hX dX10_cellsOf_105 rfl rfl rfl ?_
    refine w_iald hX rfl (by omega) (by omega) dX10_cellsOf_106 rfl ?_
    refine w_iald hX rfl (by omega) (by omega) dX10_cellsOf_107 rfl ?_
    exact e_i hX hF dX10_cellsOf_108 ⟨by simp only [cnM]; rw [if_neg (by omega), if_neg (by omega), if_pos (by omega)], rfl⟩
  by_cases g6_3 : sw6 = 17
  · refine w_tsw (tgt := 109) hX dX10_cellsOf_6 rfl (by rw [g6_3]; decide) ?_
    refine w_aload_n (i := 0) hX dX10_cellsOf_109 rfl rfl rfl ?_
    refine w_getR (j := 7) hX cl9 fl_RX10_22_9 rfl (by decide) rfl rfl dX10_cellsOf_110 rfl ?_
    refine w_iload_n (i := 1) hX dX10_cellsOf_113 rfl rfl rfl ?_
    refine w_iald hX rfl (by omega) (by omega) dX10_cellsOf_114 rfl ?_
    refine w_iconst hX dX10_cellsOf_115 rfl (by decide) ?_
    refine w_icmp_ge (tgt := 124) hX dX10_cellsOf_116 rfl (by decide) (fun h116 => ?_) (fun h116 => ?_)
    · refine w_iconst hX dX10_cellsOf_124 rfl (by decide) ?_
      exact e_i hX hF dX10_cellsOf_125 ⟨by simp only [cnM]; rw [if_neg (by omega), if_neg (by omega), if_neg (by omega), if_pos (by omega)]; first | rw [if_pos (by omega)] | rw [if_neg (by omega)], rfl⟩
    · refine w_bipush hX dX10_cellsOf_119 rfl (by decide) ?_
      refine w_goto (tgt := 125) hX dX10_cellsOf_121 (by decide) ?_
      exact e_i hX hF dX10_cellsOf_125 ⟨by simp only [cnM]; rw [if_neg (by omega), if_neg (by omega), if_neg (by omega), if_pos (by omega)]; first | rw [if_pos (by omega)] | rw [if_neg (by omega)], rfl⟩
  refine w_tsw (tgt := 126) hX dX10_cellsOf_6 rfl (by rw [sw_dflt [1, 2, 5, 6, 12, 13, 3, 4, 15, 17] (by decide) (by simp only [List.mem_cons, List.not_mem_nil, or_false]; omega)]; decide) ?_
  refine w_iconst hX dX10_cellsOf_126 rfl (by decide) ?_
  exact e_i hX hF dX10_cellsOf_127 ⟨by simp only [cnM]; rw [if_neg (by omega), if_neg (by omega), if_neg (by omega), if_neg (by omega)], rfl⟩
