/-! The reference: walk -/
def chM (bits c : Int) : Prop := (Int64.ofInt (Int64.ofInt bits >>> ((Int32.ofInt (c % 62)).toInt64 &&& 63)).toInt &&& Int64.ofInt 1).toInt = 1
/-- where the walk is at a level: its line -/
def miF (D : Dd) (lev : Int) : Int := (D 282 (D 293 lev.toNat).toNat + D 295 lev.toNat)
def msF (D : Dd) (lev : Int) : Int := (D 282 (D 293 lev.toNat + 1).toNat - D 282 (D 293 lev.toNat).toNat)
/-- one step at a level that goes on: level, forks, numbers -/
noncomputable def mstep (b lev f : Int) (D : Dd) : Int × Int × Dd :=
  if D 283 (D 282 (D 293 lev.toNat).toNat + D 295 lev.toNat).toNat = 15 ∨ D 283 (D 282 (D 293 lev.toNat).toNat + D 295 lev.toNat).toNat = 16 then (lev + 1, f, upD (upD (upD (upD D 295 lev.toNat (D 295 lev.toNat + 1)) 293 (lev + 1).toNat (D 284 (D 282 (D 293 lev.toNat).toNat + D 295 lev.toNat).toNat)) 294 (lev + 1).toNat (if D 283 (D 282 (D 293 lev.toNat).toNat + D 295 lev.toNat).toNat = 15 then wrI (D 294 lev.toNat + D 285 (D 282 (D 293 lev.toNat).toNat + D 295 lev.toNat).toNat) else D 281 (D 284 (D 282 (D 293 lev.toNat).toNat + D 295 lev.toNat).toNat).toNat)) 295 (lev + 1).toNat 0)
  else if D 283 (D 282 (D 293 lev.toNat).toNat + D 295 lev.toNat).toNat = 18 then (lev - 1, f, upD D 295 lev.toNat (D 295 lev.toNat + 1))
  else if D 283 (D 282 (D 293 lev.toNat).toNat + D 295 lev.toNat).toNat = 11 then (lev, f + 1, upD (upD D 295 lev.toNat (D 295 lev.toNat + 1)) 295 lev.toNat (itP (chM b f) (D 284 (D 282 (D 293 lev.toNat).toNat + D 295 lev.toNat).toNat) (D 295 lev.toNat + 1)))
  else (lev, f, goM (upD D 295 lev.toNat (D 295 lev.toNat + 1)) (D 282 (D 293 lev.toNat).toNat + D 295 lev.toNat) lev)
noncomputable def wmF (b : Int) : Nat → Int → Int → Int → Dd → Option (Int × Dd)
  | 0, _, _, _, _ => none
  | m + 1, lev, t, f, D => if lev < 0 then some (t, D) else if (D 282 (D 293 lev.toNat + 1).toNat - D 282 (D 293 lev.toNat).toNat) ≤ D 295 lev.toNat then wmF b m (lev - 1) t f D else if t = 1000000 then some (1000000, D) else wmF b m (mstep b lev f D).1 (t + 1) (mstep b lev f D).2.1 (mstep b lev f D).2.2
/-- from here on the walk ends with the answer x -/
def WR (b lev t f : Int) (D : Dd) (x : Int) (D2 : Dd) : Prop := ∃ m, wmF b m lev t f D = some (x, D2)
theorem WR.done (b t f : Int) {lev : Int} (D : Dd) (h : lev < 0) : WR b lev t f D t D := ⟨1, by rw [wmF, if_pos h]⟩
theorem WR.pop {b t f lev x : Int} {D D2 : Dd} (h : 0 ≤ lev) (hk : (D 282 (D 293 lev.toNat + 1).toNat - D 282 (D 293 lev.toNat).toNat) ≤ D 295 lev.toNat) (hr : WR b (lev - 1) t f D x D2) : WR b lev t f D x D2 := by
  obtain ⟨m, hr⟩ := hr
  exact ⟨m + 1, by rw [wmF, if_neg (by omega), if_pos hk]; exact hr⟩
theorem WR.cut (b : Int) {t : Int} (f : Int) {lev : Int} (D : Dd) (h : 0 ≤ lev) (hk : ¬ (D 282 (D 293 lev.toNat + 1).toNat - D 282 (D 293 lev.toNat).toNat) ≤ D 295 lev.toNat) (ht : t = 1000000) : WR b lev t f D 1000000 D := ⟨1, by rw [wmF, if_neg (by omega), if_neg hk, if_pos ht]⟩
theorem WR.step {b t f lev x : Int} {D D2 : Dd} (h : 0 ≤ lev) (hk : ¬ (D 282 (D 293 lev.toNat + 1).toNat - D 282 (D 293 lev.toNat).toNat) ≤ D 295 lev.toNat) (ht : ¬ t = 1000000) {l2 f2 : Int} {E : Dd} (he : mstep b lev f D = (l2, f2, E)) (hr : WR b l2 (t + 1) f2 E x D2) : WR b lev t f D x D2 := by
  obtain ⟨m, hr⟩ := hr
  refine ⟨m + 1, ?_⟩
  rw [wmF, if_neg (by omega), if_neg hk, if_neg ht, he]
  exact hr
/-- what the machine needs -/
def SFW (lev t f : Int) (D : Dd) : Prop := lev ≤ 18 ∧ (0 ≤ t ∧ t ≤ 1000000) ∧ (0 ≤ f ∧ f ≤ t) ∧ (0 ≤ D 293 lev.toNat ∧ D 293 lev.toNat < 16) ∧ (0 ≤ D 295 lev.toNat ∧ D 295 lev.toNat ≤ 256) ∧ (0 ≤ D 282 (D 293 lev.toNat).toNat ∧ D 282 (D 293 lev.toNat).toNat ≤ 256 ∧ 0 ≤ D 282 (D 293 lev.toNat + 1).toNat ∧ D 282 (D 293 lev.toNat + 1).toNat ≤ 256) ∧
  (D 295 lev.toNat < (D 282 (D 293 lev.toNat + 1).toNat - D 282 (D 293 lev.toNat).toNat) → (D 283 (D 282 (D 293 lev.toNat).toNat + D 295 lev.toNat).toNat = 15 ∨ D 283 (D 282 (D 293 lev.toNat).toNat + D 295 lev.toNat).toNat = 16 → 0 ≤ D 284 (D 282 (D 293 lev.toNat).toNat + D 295 lev.toNat).toNat ∧ D 284 (D 282 (D 293 lev.toNat).toNat + D 295 lev.toNat).toNat < 16) ∧ (D 283 (D 282 (D 293 lev.toNat).toNat + D 295 lev.toNat).toNat = 12 ∨ D 283 (D 282 (D 293 lev.toNat).toNat + D 295 lev.toNat).toNat = 13 → 0 ≤ D 294 lev.toNat + D 284 (D 282 (D 293 lev.toNat).toNat + D 295 lev.toNat).toNat ∧ D 294 lev.toNat + D 284 (D 282 (D 293 lev.toNat).toNat + D 295 lev.toNat).toNat < 4096) ∧ (D 283 (D 282 (D 293 lev.toNat).toNat + D 295 lev.toNat).toNat = 13 → 0 ≤ D 292 (D 294 lev.toNat + D 284 (D 282 (D 293 lev.toNat).toNat + D 295 lev.toNat).toNat).toNat))
/-- a property of the walk's states that is kept -/
def JW (b : Int) (J : Int → Int → Int → Dd → Prop) : Prop := ∀ lev t f D, J lev t f D → 0 ≤ lev → SFW lev t f D ∧ ((D 282 (D 293 lev.toNat + 1).toNat - D 282 (D 293 lev.toNat).toNat) ≤ D 295 lev.toNat → J (lev - 1) t f D) ∧ (D 295 lev.toNat < (D 282 (D 293 lev.toNat + 1).toNat - D 282 (D 293 lev.toNat).toNat) → t ≠ 1000000 → J (mstep b lev f D).1 (t + 1) (mstep b lev f D).2.1 (mstep b lev f D).2.2)

set_option maxRecDepth 100000 in
set_option maxHeartbeats 4000000 in
theorem l_mwalk {X : Cx} {Q : State → Prop} {P : Option AV → Dd → Prop} (hX : GX X yX10_walk cX10_walk 9 (some .int) 2 0 0) (hF : FX X Q P) (b : Int) (J : Int → Int → Int → Dd → Prop) (hJ : JW b J) : ∀ (m : Nat) (lev t f : Int) (D : Dd) (w1 w2 w3 : AV), (2 * (1000000 - t) + lev + 1).toNat < m → -1 ≤ lev → J lev t f D → 0 ≤ t ∧ t ≤ 1000000 → (∀ x D2, WR b lev t f D x D2 → P (some (vI x)) D2) → W0 X Q 72 [vR 279, vL b, vN, vI lev, vI t, vI f, w1, w2, w3] [] D := by
  intro m
  induction m with
  | zero =>
    intro lev t f D w1 w2 w3 hm h0 hj ht hyes
    exact absurd hm (Nat.not_lt_zero _)
  | succ m ih =>
    intro lev t f D w1 w2 w3 hm h0 hj ht hyes
    refine w_iload_n (i := 3) hX dX10_walk_72 rfl rfl rfl ?_
    refine w_if_lt (tgt := 334) hX dX10_walk_73 rfl (by decide) (fun h73 => ?_) (fun h73 => ?_)
    · refine w_iload hX dX10_walk_334 rfl rfl ?_
      exact e_i hX hF dX10_walk_336 (hyes _ _ (WR.done b t f D (by omega)))
    · have zq_j := hJ lev t f D hj (by omega)
      have zq_s := zq_j.1
      obtain ⟨zq_1, zq_2, zq_3, zq_4, zq_5, zq_6, zq_7⟩ := zq_s
      refine w_aload_n (i := 0) hX dX10_walk_76 rfl rfl rfl ?_
      refine w_getR (j := 22) hX cl9 fl_RX10_57_9 rfl (by decide) rfl rfl dX10_walk_77 rfl ?_
      refine w_iload_n (i := 3) hX dX10_walk_80 rfl rfl rfl ?_
      refine w_iald hX rfl (by omega) (by omega) dX10_walk_81 rfl ?_
      refine w_istore hX dX10_walk_82 rfl (by decide) ?_
      dsimp only [st1X, st2X, klX_I, klX_L, klX_R, klX_S, klX_N]
      refine w_aload_n (i := 0) hX dX10_walk_84 rfl rfl rfl ?_
      refine w_getR (j := 24) hX cl9 fl_RX10_63_9 rfl (by decide) rfl rfl dX10_walk_85 rfl ?_
      refine w_iload_n (i := 3) hX dX10_walk_88 rfl rfl rfl ?_
      refine w_iald hX rfl (by omega) (by omega) dX10_walk_89 rfl ?_
      refine w_istore hX dX10_walk_90 rfl (by decide) ?_
      dsimp only [st1X, st2X, klX_I, klX_L, klX_R, klX_S, klX_N]
      refine w_aload_n (i := 0) hX dX10_walk_92 rfl rfl rfl ?_
      refine w_getR (j := 4) hX cl9 fl_RX10_16_9 rfl (by decide) rfl rfl dX10_walk_93 rfl ?_
      refine w_iload hX dX10_walk_96 rfl rfl ?_
      refine w_iald hX rfl (by omega) (by omega) dX10_walk_98 rfl ?_
      refine w_iload hX dX10_walk_99 rfl rfl ?_
      refine w_iadd hX dX10_walk_101 rfl (by omega) ?_
      refine w_istore hX dX10_walk_102 rfl (by decide) ?_
      dsimp only [st1X, st2X, klX_I, klX_L, klX_R, klX_S, klX_N]
      refine w_iload hX dX10_walk_104 rfl rfl ?_
      refine w_aload_n (i := 0) hX dX10_walk_106 rfl rfl rfl ?_
      refine w_getR (j := 4) hX cl9 fl_RX10_16_9 rfl (by decide) rfl rfl dX10_walk_107 rfl ?_
      refine w_iload hX dX10_walk_110 rfl rfl ?_
      refine w_iconst hX dX10_walk_112 rfl (by decide) ?_
      refine w_iadd hX dX10_walk_113 rfl (by omega) ?_
      refine w_iald hX rfl (by omega) (by omega) dX10_walk_114 rfl ?_
      refine w_aload_n (i := 0) hX dX10_walk_115 rfl rfl rfl ?_
      refine w_getR (j := 4) hX cl9 fl_RX10_16_9 rfl (by decide) rfl rfl dX10_walk_116 rfl ?_
      refine w_iload hX dX10_walk_119 rfl rfl ?_
      refine w_iald hX rfl (by omega) (by omega) dX10_walk_121 rfl ?_
      refine w_isub hX dX10_walk_122 rfl (by omega) ?_
      refine w_icmp_lt (tgt := 132) hX dX10_walk_123 rfl (by decide) (fun h123 => ?_) (fun h123 => ?_)
      · have zq_m : ¬ (D 282 (D 293 lev.toNat + 1).toNat - D 282 (D 293 lev.toNat).toNat) ≤ D 295 lev.toNat := by omega
        have zq_8 := zq_7 (by omega)
        clear zq_7
        obtain ⟨zq_a, zq_b, zq_c⟩ := zq_8
        refine w_iload hX dX10_walk_132 rfl rfl ?_
        refine w_ldc (x := 1000000) hX ki_RX10_221 dX10_walk_134 rfl (by decide) (by decide) ?_
        refine w_icmp_ne (tgt := 142) hX dX10_walk_136 rfl (by decide) (fun h136 => ?_) (fun h136 => ?_)
        · have zq_n := zq_j.2.2 (by omega) (by omega)
          have zq_f2 : ∀ l2 f2 E v1 v2 v3, mstep b lev f D = (l2, f2, E) → (2 * (1000000 - (t + 1)) + l2 + 1).toNat < m → -1 ≤ l2 → W0 X Q 72 [vR 279, vL b, vN, vI l2, vI (t + 1), vI f2, v1, v2, v3] [] E := fun l2 f2 E v1 v2 v3 zq_e zq_l zq_p => by
            rw [zq_e] at zq_n
            exact ih l2 (t + 1) f2 E v1 v2 v3 zq_l zq_p zq_n (by omega) (fun x D2 zq_w => hyes x D2 (WR.step (by omega) zq_m (by omega) zq_e zq_w))
          refine w_iinc hX dX10_walk_142 rfl rfl (by decide) (by omega) ?_
          dsimp only [st1X, st2X, klX_I, klX_L, klX_R, klX_S, klX_N]
          refine w_aload_n (i := 0) hX dX10_walk_145 rfl rfl rfl ?_
          refine w_getR (j := 24) hX cl9 fl_RX10_63_9 rfl (by decide) rfl rfl dX10_walk_146 rfl ?_
          refine w_iload_n (i := 3) hX dX10_walk_149 rfl rfl rfl ?_
          refine w_iload hX dX10_walk_150 rfl rfl ?_
          refine w_iconst hX dX10_walk_152 rfl (by decide) ?_
          refine w_iadd hX dX10_walk_153 rfl (by omega) ?_
          refine w_iast hX rfl (by omega) (by omega) dX10_walk_154 rfl ?_
          refine w_aload_n (i := 0) hX dX10_walk_155 rfl rfl rfl ?_
          refine w_getR (j := 6) hX cl9 fl_RX10_19_9 rfl (by decide) rfl rfl dX10_walk_156 rfl ?_
          refine w_iload hX dX10_walk_159 rfl rfl ?_
          refine w_iald hX rfl (by omega) (by omega) dX10_walk_161 rfl ?_
          try simp +decide only [upD_k (show 283 ≠ 295 by decide), upD_k (show 283 ≠ 293 by decide), upD_k (show 284 ≠ 295 by decide), upD_k (show 284 ≠ 293 by decide), upD_k (show 285 ≠ 295 by decide), upD_k (show 285 ≠ 293 by decide), upD_k (show 294 ≠ 295 by decide), upD_k (show 294 ≠ 293 by decide), upD_k (show 281 ≠ 295 by decide), upD_k (show 281 ≠ 293 by decide)]
          refine w_bipush hX dX10_walk_162 rfl (by decide) ?_
          refine w_icmp_eq (tgt := 179) hX dX10_walk_164 rfl (by decide) (fun h164 => ?_) (fun h164 => ?_)
          · refine w_iinc hX dX10_walk_179 rfl rfl (by decide) (by omega) ?_
            dsimp only [st1X, st2X, klX_I, klX_L, klX_R, klX_S, klX_N]
            refine w_aload_n (i := 0) hX dX10_walk_182 rfl rfl rfl ?_
            refine w_getR (j := 22) hX cl9 fl_RX10_57_9 rfl (by decide) rfl rfl dX10_walk_183 rfl ?_
            refine w_iload_n (i := 3) hX dX10_walk_186 rfl rfl rfl ?_
            refine w_aload_n (i := 0) hX dX10_walk_187 rfl rfl rfl ?_
            refine w_getR (j := 7) hX cl9 fl_RX10_22_9 rfl (by decide) rfl rfl dX10_walk_188 rfl ?_
            refine w_iload hX dX10_walk_191 rfl rfl ?_
            refine w_iald hX rfl (by omega) (by omega) dX10_walk_193 rfl ?_
            try simp +decide only [upD_k (show 283 ≠ 295 by decide), upD_k (show 283 ≠ 293 by decide), upD_k (show 284 ≠ 295 by decide), upD_k (show 284 ≠ 293 by decide), upD_k (show 285 ≠ 295 by decide), upD_k (show 285 ≠ 293 by decide), upD_k (show 294 ≠ 295 by decide), upD_k (show 294 ≠ 293 by decide), upD_k (show 281 ≠ 295 by decide), upD_k (show 281 ≠ 293 by decide)]
            refine w_iast hX rfl (by omega) (by omega) dX10_walk_194 rfl ?_
            refine w_aload_n (i := 0) hX dX10_walk_195 rfl rfl rfl ?_
            refine w_getR (j := 23) hX cl9 fl_RX10_60_9 rfl (by decide) rfl rfl dX10_walk_196 rfl ?_
            refine w_iload_n (i := 3) hX dX10_walk_199 rfl rfl rfl ?_
            refine w_aload_n (i := 0) hX dX10_walk_200 rfl rfl rfl ?_
            refine w_getR (j := 6) hX cl9 fl_RX10_19_9 rfl (by decide) rfl rfl dX10_walk_201 rfl ?_
            refine w_iload hX dX10_walk_204 rfl rfl ?_
            refine w_iald hX rfl (by omega) (by omega) dX10_walk_206 rfl ?_
            try simp +decide only [upD_k (show 283 ≠ 295 by decide), upD_k (show 283 ≠ 293 by decide), upD_k (show 284 ≠ 295 by decide), upD_k (show 284 ≠ 293 by decide), upD_k (show 285 ≠ 295 by decide), upD_k (show 285 ≠ 293 by decide), upD_k (show 294 ≠ 295 by decide), upD_k (show 294 ≠ 293 by decide), upD_k (show 281 ≠ 295 by decide), upD_k (show 281 ≠ 293 by decide)]
            refine w_bipush hX dX10_walk_207 rfl (by decide) ?_
            refine w_icmp_ne (tgt := 231) hX dX10_walk_209 rfl (by decide) (fun h209 => ?_) (fun h209 => ?_)
            · refine w_aload_n (i := 0) hX dX10_walk_231 rfl rfl rfl ?_
              refine w_getR (j := 3) hX cl9 fl_RX10_13_9 rfl (by decide) rfl rfl dX10_walk_232 rfl ?_
              refine w_aload_n (i := 0) hX dX10_walk_235 rfl rfl rfl ?_
              refine w_getR (j := 7) hX cl9 fl_RX10_22_9 rfl (by decide) rfl rfl dX10_walk_236 rfl ?_
              refine w_iload hX dX10_walk_239 rfl rfl ?_
              refine w_iald hX rfl (by omega) (by omega) dX10_walk_241 rfl ?_
              try simp +decide only [upD_k (show 283 ≠ 295 by decide), upD_k (show 283 ≠ 293 by decide), upD_k (show 284 ≠ 295 by decide), upD_k (show 284 ≠ 293 by decide), upD_k (show 285 ≠ 295 by decide), upD_k (show 285 ≠ 293 by decide), upD_k (show 294 ≠ 295 by decide), upD_k (show 294 ≠ 293 by decide), upD_k (show 281 ≠ 295 by decide), upD_k (show 281 ≠ 293 by decide)]
              refine w_iald hX rfl (by omega) (by omega) dX10_walk_242 rfl ?_
              try simp +decide only [upD_k (show 283 ≠ 295 by decide), upD_k (show 283 ≠ 293 by decide), upD_k (show 284 ≠ 295 by decide), upD_k (show 284 ≠ 293 by decide), upD_k (show 285 ≠ 295 by decide), upD_k (show 285 ≠ 293 by decide), upD_k (show 294 ≠ 295 by decide), upD_k (show 294 ≠ 293 by decide), upD_k (show 281 ≠ 295 by decide), upD_k (show 281 ≠ 293 by decide)]
              refine w_iast hX rfl (by omega) (by omega) dX10_walk_243 rfl ?_
              refine w_aload_n (i := 0) hX dX10_walk_244 rfl rfl rfl ?_
              refine w_getR (j := 24) hX cl9 fl_RX10_63_9 rfl (by decide) rfl rfl dX10_walk_245 rfl ?_
              refine w_iload_n (i := 3) hX dX10_walk_248 rfl rfl rfl ?_
              refine w_iconst hX dX10_walk_249 rfl (by decide) ?_
              refine w_iast hX rfl (by omega) (by omega) dX10_walk_250 rfl ?_
              refine w_goto (tgt := 331) hX dX10_walk_251 (by decide) ?_
              refine w_goto (tgt := 72) hX dX10_walk_331 (by decide) ?_
              refine zq_f2 _ _ _ _ _ _ ?_ (by omega) (by omega)
              first
                | (rw [mstep, if_pos (by omega), if_pos (show D 283 (D 282 (D 293 lev.toNat).toNat + D 295 lev.toNat).toNat = 15 by omega)]; done)
                | (rw [mstep, if_pos (by omega), if_neg (show ¬ D 283 (D 282 (D 293 lev.toNat).toNat + D 295 lev.toNat).toNat = 15 by omega)]; done)
            · refine w_aload_n (i := 0) hX dX10_walk_212 rfl rfl rfl ?_
              refine w_getR (j := 23) hX cl9 fl_RX10_60_9 rfl (by decide) rfl rfl dX10_walk_213 rfl ?_
              refine w_iload_n (i := 3) hX dX10_walk_216 rfl rfl rfl ?_
              refine w_iconst hX dX10_walk_217 rfl (by decide) ?_
              refine w_isub hX dX10_walk_218 rfl (by omega) ?_
              rw [show lev + 1 - 1 = lev by omega]
              refine w_iald hX rfl (by omega) (by omega) dX10_walk_219 rfl ?_
              try simp +decide only [upD_k (show 283 ≠ 295 by decide), upD_k (show 283 ≠ 293 by decide), upD_k (show 284 ≠ 295 by decide), upD_k (show 284 ≠ 293 by decide), upD_k (show 285 ≠ 295 by decide), upD_k (show 285 ≠ 293 by decide), upD_k (show 294 ≠ 295 by decide), upD_k (show 294 ≠ 293 by decide), upD_k (show 281 ≠ 295 by decide), upD_k (show 281 ≠ 293 by decide)]
              refine w_aload_n (i := 0) hX dX10_walk_220 rfl rfl rfl ?_
              refine w_getR (j := 8) hX cl9 fl_RX10_25_9 rfl (by decide) rfl rfl dX10_walk_221 rfl ?_
              refine w_iload hX dX10_walk_224 rfl rfl ?_
              refine w_iald hX rfl (by omega) (by omega) dX10_walk_226 rfl ?_
              try simp +decide only [upD_k (show 283 ≠ 295 by decide), upD_k (show 283 ≠ 293 by decide), upD_k (show 284 ≠ 295 by decide), upD_k (show 284 ≠ 293 by decide), upD_k (show 285 ≠ 295 by decide), upD_k (show 285 ≠ 293 by decide), upD_k (show 294 ≠ 295 by decide), upD_k (show 294 ≠ 293 by decide), upD_k (show 281 ≠ 295 by decide), upD_k (show 281 ≠ 293 by decide)]
              refine w_iaddW hX dX10_walk_227 rfl ?_
              refine w_goto (tgt := 243) hX dX10_walk_228 (by decide) ?_
              refine w_iast hX rfl (by omega) (by omega) dX10_walk_243 rfl ?_
              refine w_aload_n (i := 0) hX dX10_walk_244 rfl rfl rfl ?_
              refine w_getR (j := 24) hX cl9 fl_RX10_63_9 rfl (by decide) rfl rfl dX10_walk_245 rfl ?_
              refine w_iload_n (i := 3) hX dX10_walk_248 rfl rfl rfl ?_
              refine w_iconst hX dX10_walk_249 rfl (by decide) ?_
              refine w_iast hX rfl (by omega) (by omega) dX10_walk_250 rfl ?_
              refine w_goto (tgt := 331) hX dX10_walk_251 (by decide) ?_
              refine w_goto (tgt := 72) hX dX10_walk_331 (by decide) ?_
              refine zq_f2 _ _ _ _ _ _ ?_ (by omega) (by omega)
              first
                | (rw [mstep, if_pos (by omega), if_pos (show D 283 (D 282 (D 293 lev.toNat).toNat + D 295 lev.toNat).toNat = 15 by omega)]; done)
                | (rw [mstep, if_pos (by omega), if_neg (show ¬ D 283 (D 282 (D 293 lev.toNat).toNat + D 295 lev.toNat).toNat = 15 by omega)]; done)
          · refine w_aload_n (i := 0) hX dX10_walk_167 rfl rfl rfl ?_
            refine w_getR (j := 6) hX cl9 fl_RX10_19_9 rfl (by decide) rfl rfl dX10_walk_168 rfl ?_
            refine w_iload hX dX10_walk_171 rfl rfl ?_
            refine w_iald hX rfl (by omega) (by omega) dX10_walk_173 rfl ?_
            try simp +decide only [upD_k (show 283 ≠ 295 by decide), upD_k (show 283 ≠ 293 by decide), upD_k (show 284 ≠ 295 by decide), upD_k (show 284 ≠ 293 by decide), upD_k (show 285 ≠ 295 by decide), upD_k (show 285 ≠ 293 by decide), upD_k (show 294 ≠ 295 by decide), upD_k (show 294 ≠ 293 by decide), upD_k (show 281 ≠ 295 by decide), upD_k (show 281 ≠ 293 by decide)]
            refine w_bipush hX dX10_walk_174 rfl (by decide) ?_
            refine w_icmp_ne (tgt := 254) hX dX10_walk_176 rfl (by decide) (fun h176 => ?_) (fun h176 => ?_)
            · refine w_aload_n (i := 0) hX dX10_walk_254 rfl rfl rfl ?_
              refine w_getR (j := 6) hX cl9 fl_RX10_19_9 rfl (by decide) rfl rfl dX10_walk_255 rfl ?_
              refine w_iload hX dX10_walk_258 rfl rfl ?_
              refine w_iald hX rfl (by omega) (by omega) dX10_walk_260 rfl ?_
              try simp +decide only [upD_k (show 283 ≠ 295 by decide), upD_k (show 283 ≠ 293 by decide), upD_k (show 284 ≠ 295 by decide), upD_k (show 284 ≠ 293 by decide), upD_k (show 285 ≠ 295 by decide), upD_k (show 285 ≠ 293 by decide), upD_k (show 294 ≠ 295 by decide), upD_k (show 294 ≠ 293 by decide), upD_k (show 281 ≠ 295 by decide), upD_k (show 281 ≠ 293 by decide)]
              refine w_bipush hX dX10_walk_261 rfl (by decide) ?_
              refine w_icmp_ne (tgt := 272) hX dX10_walk_263 rfl (by decide) (fun h263 => ?_) (fun h263 => ?_)
              · refine w_aload_n (i := 0) hX dX10_walk_272 rfl rfl rfl ?_
                refine w_getR (j := 6) hX cl9 fl_RX10_19_9 rfl (by decide) rfl rfl dX10_walk_273 rfl ?_
                refine w_iload hX dX10_walk_276 rfl rfl ?_
                refine w_iald hX rfl (by omega) (by omega) dX10_walk_278 rfl ?_
                try simp +decide only [upD_k (show 283 ≠ 295 by decide), upD_k (show 283 ≠ 293 by decide), upD_k (show 284 ≠ 295 by decide), upD_k (show 284 ≠ 293 by decide), upD_k (show 285 ≠ 295 by decide), upD_k (show 285 ≠ 293 by decide), upD_k (show 294 ≠ 295 by decide), upD_k (show 294 ≠ 293 by decide), upD_k (show 281 ≠ 295 by decide), upD_k (show 281 ≠ 293 by decide)]
                refine w_bipush hX dX10_walk_279 rfl (by decide) ?_
                refine w_icmp_ne (tgt := 324) hX dX10_walk_281 rfl (by decide) (fun h281 => ?_) (fun h281 => ?_)
                · refine w_aload_n (i := 0) hX dX10_walk_324 rfl rfl rfl ?_
                  refine w_iload hX dX10_walk_325 rfl rfl ?_
                  refine w_iload_n (i := 3) hX dX10_walk_327 rfl rfl rfl ?_
                  refine c_V hX ml_RX10_222 cl9 dX10_walk_328 rfl (r_go (upD D 295 lev.toNat (D 295 lev.toNat + 1)) (D 282 (D 293 lev.toNat).toNat + D 295 lev.toNat) lev (by omega) (by omega) (by rw [upD_k (by decide), upD_k (by decide), upD_k (by decide)]; exact zq_b) (by rw [upD_k (by decide), upD_k (by decide), upD_k (by decide), upD_k (by decide)]; exact zq_c)) rfl rfl rfl (by decide) (Nat.le_of_ble_eq_true rfl) ?_
                  rintro _ _ ⟨rfl, rfl⟩ -
                  all_goals try dsimp only [Option.toList, List.cons_append, List.nil_append]
                  refine w_goto (tgt := 72) hX dX10_walk_331 (by decide) ?_
                  refine zq_f2 _ _ _ _ _ _ ?_ (by omega) (by omega)
                  rw [mstep, if_neg (by omega), if_neg (by omega), if_neg (by omega)]
                · refine w_aload_n (i := 0) hX dX10_walk_284 rfl rfl rfl ?_
                  refine w_getR (j := 24) hX cl9 fl_RX10_63_9 rfl (by decide) rfl rfl dX10_walk_285 rfl ?_
                  refine w_iload_n (i := 3) hX dX10_walk_288 rfl rfl rfl ?_
                  refine w_lload_n (i := 1) hX dX10_walk_289 rfl rfl rfl ?_
                  refine w_iload hX dX10_walk_290 rfl rfl ?_
                  refine w_bipush hX dX10_walk_292 rfl (by decide) ?_
                  refine w_irem hX dX10_walk_294 rfl (by omega) (by omega) ?_
                  refine w_lshr hX dX10_walk_295 rfl ?_
                  refine w_lconst1 hX dX10_walk_296 rfl ?_
                  refine w_land hX dX10_walk_297 rfl ?_
                  refine w_lconst1 hX dX10_walk_298 rfl ?_
                  refine w_lcmp hX dX10_walk_299 rfl ?_
                  refine w_if_ne (tgt := 313) hX dX10_walk_300 rfl (by decide) (fun h300 => ?_) (fun h300 => ?_)
                  · rw [lc_ne] at h300
                    refine w_iload hX dX10_walk_313 rfl rfl ?_
                    refine w_iconst hX dX10_walk_315 rfl (by decide) ?_
                    refine w_iadd hX dX10_walk_316 rfl (by omega) ?_
                    refine w_iast hX rfl (by omega) (by omega) dX10_walk_317 rfl ?_
                    refine w_iinc hX dX10_walk_318 rfl rfl (by decide) (by omega) ?_
                    dsimp only [st1X, st2X, klX_I, klX_L, klX_R, klX_S, klX_N]
                    refine w_goto (tgt := 331) hX dX10_walk_321 (by decide) ?_
                    refine w_goto (tgt := 72) hX dX10_walk_331 (by decide) ?_
                    refine zq_f2 _ _ _ _ _ _ ?_ (by omega) (by omega)
                    first
                      | (rw [mstep, if_neg (by omega), if_neg (by omega), if_pos (by omega), it_t (show chM b f from Classical.not_not.mp h300)]; done)
                      | (rw [mstep, if_neg (by omega), if_neg (by omega), if_pos (by omega), it_f (show ¬ chM b f from h300)]; done)
                  · rw [lc_ne] at h300
                    refine w_aload_n (i := 0) hX dX10_walk_303 rfl rfl rfl ?_
                    refine w_getR (j := 7) hX cl9 fl_RX10_22_9 rfl (by decide) rfl rfl dX10_walk_304 rfl ?_
                    refine w_iload hX dX10_walk_307 rfl rfl ?_
                    refine w_iald hX rfl (by omega) (by omega) dX10_walk_309 rfl ?_
                    try simp +decide only [upD_k (show 283 ≠ 295 by decide), upD_k (show 283 ≠ 293 by decide), upD_k (show 284 ≠ 295 by decide), upD_k (show 284 ≠ 293 by decide), upD_k (show 285 ≠ 295 by decide), upD_k (show 285 ≠ 293 by decide), upD_k (show 294 ≠ 295 by decide), upD_k (show 294 ≠ 293 by decide), upD_k (show 281 ≠ 295 by decide), upD_k (show 281 ≠ 293 by decide)]
                    refine w_goto (tgt := 317) hX dX10_walk_310 (by decide) ?_
                    refine w_iast hX rfl (by omega) (by omega) dX10_walk_317 rfl ?_
                    refine w_iinc hX dX10_walk_318 rfl rfl (by decide) (by omega) ?_
                    dsimp only [st1X, st2X, klX_I, klX_L, klX_R, klX_S, klX_N]
                    refine w_goto (tgt := 331) hX dX10_walk_321 (by decide) ?_
                    refine w_goto (tgt := 72) hX dX10_walk_331 (by decide) ?_
                    refine zq_f2 _ _ _ _ _ _ ?_ (by omega) (by omega)
                    first
                      | (rw [mstep, if_neg (by omega), if_neg (by omega), if_pos (by omega), it_t (show chM b f from Classical.not_not.mp h300)]; done)
                      | (rw [mstep, if_neg (by omega), if_neg (by omega), if_pos (by omega), it_f (show ¬ chM b f from h300)]; done)
              · refine w_iinc hX dX10_walk_266 rfl rfl (by decide) (by omega) ?_
                dsimp only [st1X, st2X, klX_I, klX_L, klX_R, klX_S, klX_N]
                refine w_goto (tgt := 331) hX dX10_walk_269 (by decide) ?_
                refine w_goto (tgt := 72) hX dX10_walk_331 (by decide) ?_
                refine zq_f2 _ _ _ _ _ _ ?_ (by omega) (by omega)
                rw [mstep, if_neg (by omega), if_pos (by omega)]; rfl
            · refine w_iinc hX dX10_walk_179 rfl rfl (by decide) (by omega) ?_
              dsimp only [st1X, st2X, klX_I, klX_L, klX_R, klX_S, klX_N]
              refine w_aload_n (i := 0) hX dX10_walk_182 rfl rfl rfl ?_
              refine w_getR (j := 22) hX cl9 fl_RX10_57_9 rfl (by decide) rfl rfl dX10_walk_183 rfl ?_
              refine w_iload_n (i := 3) hX dX10_walk_186 rfl rfl rfl ?_
              refine w_aload_n (i := 0) hX dX10_walk_187 rfl rfl rfl ?_
              refine w_getR (j := 7) hX cl9 fl_RX10_22_9 rfl (by decide) rfl rfl dX10_walk_188 rfl ?_
              refine w_iload hX dX10_walk_191 rfl rfl ?_
              refine w_iald hX rfl (by omega) (by omega) dX10_walk_193 rfl ?_
              try simp +decide only [upD_k (show 283 ≠ 295 by decide), upD_k (show 283 ≠ 293 by decide), upD_k (show 284 ≠ 295 by decide), upD_k (show 284 ≠ 293 by decide), upD_k (show 285 ≠ 295 by decide), upD_k (show 285 ≠ 293 by decide), upD_k (show 294 ≠ 295 by decide), upD_k (show 294 ≠ 293 by decide), upD_k (show 281 ≠ 295 by decide), upD_k (show 281 ≠ 293 by decide)]
              refine w_iast hX rfl (by omega) (by omega) dX10_walk_194 rfl ?_
              refine w_aload_n (i := 0) hX dX10_walk_195 rfl rfl rfl ?_
              refine w_getR (j := 23) hX cl9 fl_RX10_60_9 rfl (by decide) rfl rfl dX10_walk_196 rfl ?_
              refine w_iload_n (i := 3) hX dX10_walk_199 rfl rfl rfl ?_
              refine w_aload_n (i := 0) hX dX10_walk_200 rfl rfl rfl ?_
              refine w_getR (j := 6) hX cl9 fl_RX10_19_9 rfl (by decide) rfl rfl dX10_walk_201 rfl ?_
              refine w_iload hX dX10_walk_204 rfl rfl ?_
              refine w_iald hX rfl (by omega) (by omega) dX10_walk_206 rfl ?_
              try simp +decide only [upD_k (show 283 ≠ 295 by decide), upD_k (show 283 ≠ 293 by decide), upD_k (show 284 ≠ 295 by decide), upD_k (show 284 ≠ 293 by decide), upD_k (show 285 ≠ 295 by decide), upD_k (show 285 ≠ 293 by decide), upD_k (show 294 ≠ 295 by decide), upD_k (show 294 ≠ 293 by decide), upD_k (show 281 ≠ 295 by decide), upD_k (show 281 ≠ 293 by decide)]
              refine w_bipush hX dX10_walk_207 rfl (by decide) ?_
              refine w_icmp_ne (tgt := 231) hX dX10_walk_209 rfl (by decide) (fun h209 => ?_) (fun h209 => ?_)
              · refine w_aload_n (i := 0) hX dX10_walk_231 rfl rfl rfl ?_
                refine w_getR (j := 3) hX cl9 fl_RX10_13_9 rfl (by decide) rfl rfl dX10_walk_232 rfl ?_
                refine w_aload_n (i := 0) hX dX10_walk_235 rfl rfl rfl ?_
                refine w_getR (j := 7) hX cl9 fl_RX10_22_9 rfl (by decide) rfl rfl dX10_walk_236 rfl ?_
                refine w_iload hX dX10_walk_239 rfl rfl ?_
                refine w_iald hX rfl (by omega) (by omega) dX10_walk_241 rfl ?_
                try simp +decide only [upD_k (show 283 ≠ 295 by decide), upD_k (show 283 ≠ 293 by decide), upD_k (show 284 ≠ 295 by decide), upD_k (show 284 ≠ 293 by decide), upD_k (show 285 ≠ 295 by decide), upD_k (show 285 ≠ 293 by decide), upD_k (show 294 ≠ 295 by decide), upD_k (show 294 ≠ 293 by decide), upD_k (show 281 ≠ 295 by decide), upD_k (show 281 ≠ 293 by decide)]
                refine w_iald hX rfl (by omega) (by omega) dX10_walk_242 rfl ?_
                try simp +decide only [upD_k (show 283 ≠ 295 by decide), upD_k (show 283 ≠ 293 by decide), upD_k (show 284 ≠ 295 by decide), upD_k (show 284 ≠ 293 by decide), upD_k (show 285 ≠ 295 by decide), upD_k (show 285 ≠ 293 by decide), upD_k (show 294 ≠ 295 by decide), upD_k (show 294 ≠ 293 by decide), upD_k (show 281 ≠ 295 by decide), upD_k (show 281 ≠ 293 by decide)]
                refine w_iast hX rfl (by omega) (by omega) dX10_walk_243 rfl ?_
                refine w_aload_n (i := 0) hX dX10_walk_244 rfl rfl rfl ?_
                refine w_getR (j := 24) hX cl9 fl_RX10_63_9 rfl (by decide) rfl rfl dX10_walk_245 rfl ?_
                refine w_iload_n (i := 3) hX dX10_walk_248 rfl rfl rfl ?_
                refine w_iconst hX dX10_walk_249 rfl (by decide) ?_
                refine w_iast hX rfl (by omega) (by omega) dX10_walk_250 rfl ?_
                refine w_goto (tgt := 331) hX dX10_walk_251 (by decide) ?_
                refine w_goto (tgt := 72) hX dX10_walk_331 (by decide) ?_
                refine zq_f2 _ _ _ _ _ _ ?_ (by omega) (by omega)
                first
                  | (rw [mstep, if_pos (by omega), if_pos (show D 283 (D 282 (D 293 lev.toNat).toNat + D 295 lev.toNat).toNat = 15 by omega)]; done)
                  | (rw [mstep, if_pos (by omega), if_neg (show ¬ D 283 (D 282 (D 293 lev.toNat).toNat + D 295 lev.toNat).toNat = 15 by omega)]; done)
              · refine w_aload_n (i := 0) hX dX10_walk_212 rfl rfl rfl ?_
                refine w_getR (j := 23) hX cl9 fl_RX10_60_9 rfl (by decide) rfl rfl dX10_walk_213 rfl ?_
                refine w_iload_n (i := 3) hX dX10_walk_216 rfl rfl rfl ?_
                refine w_iconst hX dX10_walk_217 rfl (by decide) ?_
                refine w_isub hX dX10_walk_218 rfl (by omega) ?_
                rw [show lev + 1 - 1 = lev by omega]
                refine w_iald hX rfl (by omega) (by omega) dX10_walk_219 rfl ?_
                try simp +decide only [upD_k (show 283 ≠ 295 by decide), upD_k (show 283 ≠ 293 by decide), upD_k (show 284 ≠ 295 by decide), upD_k (show 284 ≠ 293 by decide), upD_k (show 285 ≠ 295 by decide), upD_k (show 285 ≠ 293 by decide), upD_k (show 294 ≠ 295 by decide), upD_k (show 294 ≠ 293 by decide), upD_k (show 281 ≠ 295 by decide), upD_k (show 281 ≠ 293 by decide)]
                refine w_aload_n (i := 0) hX dX10_walk_220 rfl rfl rfl ?_
                refine w_getR (j := 8) hX cl9 fl_RX10_25_9 rfl (by decide) rfl rfl dX10_walk_221 rfl ?_
                refine w_iload hX dX10_walk_224 rfl rfl ?_
                refine w_iald hX rfl (by omega) (by omega) dX10_walk_226 rfl ?_
                try simp +decide only [upD_k (show 283 ≠ 295 by decide), upD_k (show 283 ≠ 293 by decide), upD_k (show 284 ≠ 295 by decide), upD_k (show 284 ≠ 293 by decide), upD_k (show 285 ≠ 295 by decide), upD_k (show 285 ≠ 293 by decide), upD_k (show 294 ≠ 295 by decide), upD_k (show 294 ≠ 293 by decide), upD_k (show 281 ≠ 295 by decide), upD_k (show 281 ≠ 293 by decide)]
                refine w_iaddW hX dX10_walk_227 rfl ?_
                refine w_goto (tgt := 243) hX dX10_walk_228 (by decide) ?_
                refine w_iast hX rfl (by omega) (by omega) dX10_walk_243 rfl ?_
                refine w_aload_n (i := 0) hX dX10_walk_244 rfl rfl rfl ?_
                refine w_getR (j := 24) hX cl9 fl_RX10_63_9 rfl (by decide) rfl rfl dX10_walk_245 rfl ?_
                refine w_iload_n (i := 3) hX dX10_walk_248 rfl rfl rfl ?_
                refine w_iconst hX dX10_walk_249 rfl (by decide) ?_
                refine w_iast hX rfl (by omega) (by omega) dX10_walk_250 rfl ?_
                refine w_goto (tgt := 331) hX dX10_walk_251 (by decide) ?_
                refine w_goto (tgt := 72) hX dX10_walk_331 (by decide) ?_
                refine zq_f2 _ _ _ _ _ _ ?_ (by omega) (by omega)
                first
                  | (rw [mstep, if_pos (by omega), if_pos (show D 283 (D 282 (D 293 lev.toNat).toNat + D 295 lev.toNat).toNat = 15 by omega)]; done)
                  | (rw [mstep, if_pos (by omega), if_neg (show ¬ D 283 (D 282 (D 293 lev.toNat).toNat + D 295 lev.toNat).toNat = 15 by omega)]; done)
        · refine w_ldc (x := 1000000) hX ki_RX10_221 dX10_walk_139 rfl (by decide) (by decide) ?_
          exact e_i hX hF dX10_walk_141 (hyes _ _ (WR.cut b f D (by omega) zq_m (by omega)))
      · refine w_iinc hX dX10_walk_126 rfl rfl (by decide) (by omega) ?_
        dsimp only [st1X, st2X, klX_I, klX_L, klX_R, klX_S, klX_N]
        refine w_goto (tgt := 331) hX dX10_walk_129 (by decide) ?_
        refine w_goto (tgt := 72) hX dX10_walk_331 (by decide) ?_
        exact ih (lev + -1) t f D _ _ _ (by omega) (by omega) (zq_j.2.1 (by omega)) ht (fun x D2 zq_w => hyes x D2 (WR.pop (by omega) (by omega) zq_w))
