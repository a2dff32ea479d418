/-! The reference: stackFault -/
set_option maxRecDepth 100000 in
set_option maxHeartbeats 4000000 in
theorem r_sfO (D : Dd) (hF0 : FM D) (k u : Int) (hk : 0 ≤ k ∧ k < D 279 11) (hu : 0 ≤ u ∧ u < 16) (n : Int) (hN : (D 283 (D 279 10 + k).toNat) = n) (hno : ¬ (n = 10 ∨ n = 11 ∨ n = 13 ∨ n = 14 ∨ n = 15 ∨ n = 16 ∨ n = 18)) (hn0 : 0 ≤ n ∧ n ≤ 18)  (hd : 0 ≤ D 287 k.toNat ∧ D 287 k.toNat ≤ 64) (hdp : ∀ v : Nat, (v : Int) ≤ u → 0 ≤ D 291 v ∧ D 291 v ≤ 10000) : MC 2 yX10_stackFault cX10_stackFault 7 (some .int) [vR 279, vI k, vI u] D (fun r D2 => some (vI (skM D k u n ((D 284 (D 279 10 + k).toNat)) ((D 285 (D 279 10 + k).toNat)))) = r ∧ keepR D D2 ∧ (skM D k u n ((D 284 (D 279 10 + k).toNat)) ((D 285 (D 279 10 + k).toNat)) = 0 → skMD D k u n ((D 284 (D 279 10 + k).toNat)) ((D 285 (D 279 10 + k).toNat)) = D2)) := by
  refine MC.mk [vR 279, vI k, vI u, vN, vN, vN, vN] (by decide) (Nat.le_of_ble_eq_true rfl) rfl (fun X Q hX hF hok hol => ?_)
  have zq_F := hF0
  unfold FM at hF0
  have zq_t := tk_in (n)
  have zq_l := lf_in (n)
  have zq_g : tgM n k ((D 284 (D 279 10 + k).toNat)) ((D 285 (D 279 10 + k).toNat)) (D 279 11) = [k + 1] := by unfold tgM; rw [if_neg (by omega), if_neg (by omega), if_neg (by omega), if_neg (by omega)]
  have zq_m : mrF D n ((D 284 (D 279 10 + k).toNat)) = 0 := by unfold mrF; rw [if_neg (by omega)]
  have zq_u := hdp u.toNat (by omega)
  have zq_S : ¬ D 287 k.toNat < tk n → ¬ 64 < (D 287 k.toNat - tk n + lf n) → (cmLM (D 287 k.toNat - tk n + lf n) (ndM D u ((D 287 k.toNat - tk n + lf n) + mrF D n ((D 284 (D 279 10 + k).toNat)))) [k + 1] → skM D k u n ((D 284 (D 279 10 + k).toNat)) ((D 285 (D 279 10 + k).toNat)) = 0) ∧ (¬ cmLM (D 287 k.toNat - tk n + lf n) (ndM D u ((D 287 k.toNat - tk n + lf n) + mrF D n ((D 284 (D 279 10 + k).toNat)))) [k + 1] → skM D k u n ((D 284 (D 279 10 + k).toNat)) ((D 285 (D 279 10 + k).toNat)) = 10) := by
    intro zq_1 zq_2
    constructor
    · intro zq_L; rw [skM, it_f zq_1, it_f zq_2, zq_g, it_f (fun zq_q => zq_q zq_L)]
    · intro zq_L; rw [skM, it_f zq_1, it_f zq_2, zq_g, it_t zq_L]
  have zq_E : skMD D k u n ((D 284 (D 279 10 + k).toNat)) ((D 285 (D 279 10 + k).toNat)) = cmEM (D 287 k.toNat - tk n + lf n) (ndM D u ((D 287 k.toNat - tk n + lf n) + mrF D n ((D 284 (D 279 10 + k).toNat)))) [k + 1] := by rw [skMD, zq_g]
  refine w_aload_n (i := 0) hX dX10_stackFault_0 rfl rfl rfl ?_
  refine w_iload_n (i := 1) hX dX10_stackFault_1 rfl rfl rfl ?_
  refine c_V hX ml_RX10_128 cl9 dX10_stackFault_2 rfl (r_numberAt D zq_F k hk) rfl rfl rfl (by decide) (Nat.le_of_ble_eq_true rfl) ?_
  rintro _ _ ⟨rfl, rfl⟩ -
  rw [hN]
  all_goals try dsimp only [Option.toList, List.cons_append, List.nil_append]
  refine w_istore_n (i := 3) hX dX10_stackFault_5 rfl rfl (by decide) ?_
  dsimp only [st1X, st2X, klX_I, klX_L, klX_R, klX_S, klX_N]
  refine w_aload_n (i := 0) hX dX10_stackFault_6 rfl rfl rfl ?_
  refine w_getR (j := 12) hX cl9 fl_RX10_31_9 rfl (by decide) rfl rfl dX10_stackFault_7 rfl ?_
  refine w_iload_n (i := 1) hX dX10_stackFault_10 rfl rfl rfl ?_
  refine w_iald hX rfl (by omega) (by omega) dX10_stackFault_11 rfl ?_
  refine w_istore hX dX10_stackFault_12 rfl (by decide) ?_
  dsimp only [st1X, st2X, klX_I, klX_L, klX_R, klX_S, klX_N]
  refine w_iload_n (i := 3) hX dX10_stackFault_14 rfl rfl rfl ?_
  refine c_S hX ml_RX10_160 dX10_stackFault_15 rfl (r_taken D n) rfl rfl (by decide) (Nat.le_of_ble_eq_true rfl) ?_
  rintro _ _ ⟨rfl, rfl⟩ -
  all_goals try dsimp only [Option.toList, List.cons_append, List.nil_append]
  refine w_iload hX dX10_stackFault_18 rfl rfl ?_
  refine w_icmp_le (tgt := 26) hX dX10_stackFault_20 rfl (by decide) (fun h20 => ?_) (fun h20 => ?_)
  · refine w_iload hX dX10_stackFault_26 rfl rfl ?_
    refine w_iload_n (i := 3) hX dX10_stackFault_28 rfl rfl rfl ?_
    refine c_S hX ml_RX10_160 dX10_stackFault_29 rfl (r_taken D n) rfl rfl (by decide) (Nat.le_of_ble_eq_true rfl) ?_
    rintro _ _ ⟨rfl, rfl⟩ -
    all_goals try dsimp only [Option.toList, List.cons_append, List.nil_append]
    refine w_isub hX dX10_stackFault_32 rfl (by omega) ?_
    refine w_iload_n (i := 3) hX dX10_stackFault_33 rfl rfl rfl ?_
    refine c_S hX ml_RX10_163 dX10_stackFault_34 rfl (r_left D n (by omega)) rfl rfl (by decide) (Nat.le_of_ble_eq_true rfl) ?_
    rintro _ _ ⟨rfl, rfl⟩ -
    all_goals try dsimp only [Option.toList, List.cons_append, List.nil_append]
    refine w_iadd hX dX10_stackFault_37 rfl (by omega) ?_
    refine w_istore hX dX10_stackFault_38 rfl (by decide) ?_
    dsimp only [st1X, st2X, klX_I, klX_L, klX_R, klX_S, klX_N]
    refine w_iload hX dX10_stackFault_40 rfl rfl ?_
    refine w_bipush hX dX10_stackFault_42 rfl (by decide) ?_
    refine w_icmp_le (tgt := 50) hX dX10_stackFault_44 rfl (by decide) (fun h44 => ?_) (fun h44 => ?_)
    · refine w_iload_n (i := 3) hX dX10_stackFault_50 rfl rfl rfl ?_
      refine w_bipush hX dX10_stackFault_51 rfl (by decide) ?_
      refine w_icmp_eq (tgt := 62) hX dX10_stackFault_53 rfl (by decide) (fun h53 => ?_) (fun h53 => ?_)
      · exfalso; omega
      · refine w_iload_n (i := 3) hX dX10_stackFault_56 rfl rfl rfl ?_
        refine w_bipush hX dX10_stackFault_57 rfl (by decide) ?_
        refine w_icmp_ne (tgt := 81) hX dX10_stackFault_59 rfl (by decide) (fun h59 => ?_) (fun h59 => ?_)
        · refine w_iconst hX dX10_stackFault_81 rfl (by decide) ?_
          refine w_istore hX dX10_stackFault_82 rfl (by decide) ?_
          dsimp only [st1X, st2X, klX_I, klX_L, klX_R, klX_S, klX_N]
          refine w_aload_n (i := 0) hX dX10_stackFault_84 rfl rfl rfl ?_
          refine w_getR (j := 16) hX cl9 fl_RX10_44_9 rfl (by decide) rfl rfl dX10_stackFault_85 rfl ?_
          refine w_iload_n (i := 2) hX dX10_stackFault_88 rfl rfl rfl ?_
          refine w_iload hX dX10_stackFault_89 rfl rfl ?_
          refine w_iload hX dX10_stackFault_91 rfl rfl ?_
          refine w_iadd hX dX10_stackFault_93 rfl (by omega) ?_
          refine w_aload_n (i := 0) hX dX10_stackFault_94 rfl rfl rfl ?_
          refine w_getR (j := 16) hX cl9 fl_RX10_44_9 rfl (by decide) rfl rfl dX10_stackFault_95 rfl ?_
          refine w_iload_n (i := 2) hX dX10_stackFault_98 rfl rfl rfl ?_
          refine w_iald hX rfl (by omega) (by omega) dX10_stackFault_99 rfl ?_
          refine w_icmp_le (tgt := 111) hX dX10_stackFault_100 rfl (by decide) (fun h100 => ?_) (fun h100 => ?_)
          · refine w_aload_n (i := 0) hX dX10_stackFault_111 rfl rfl rfl ?_
            refine w_getR (j := 16) hX cl9 fl_RX10_44_9 rfl (by decide) rfl rfl dX10_stackFault_112 rfl ?_
            refine w_iload_n (i := 2) hX dX10_stackFault_115 rfl rfl rfl ?_
            refine w_iald hX rfl (by omega) (by omega) dX10_stackFault_116 rfl ?_
            refine w_iast hX rfl (by omega) (by omega) dX10_stackFault_117 rfl ?_
            rw [show upD D 291 u.toNat _ = ndM D u ((D 287 k.toNat - tk n + lf n) + mrF D n ((D 284 (D 279 10 + k).toNat))) by unfold ndM; rw [zq_m]; first | rw [if_pos (by omega)] | rw [if_neg (by omega)]]
            refine w_iconst hX dX10_stackFault_118 rfl (by decide) ?_
            refine w_istore hX dX10_stackFault_119 rfl (by decide) ?_
            dsimp only [st1X, st2X, klX_I, klX_L, klX_R, klX_S, klX_N]
            refine w_iload_n (i := 3) hX dX10_stackFault_121 rfl rfl rfl ?_
            refine w_bipush hX dX10_stackFault_122 rfl (by decide) ?_
            refine w_icmp_eq (tgt := 150) hX dX10_stackFault_124 rfl (by decide) (fun h124 => ?_) (fun h124 => ?_)
            · exfalso; omega
            · refine w_iload_n (i := 3) hX dX10_stackFault_127 rfl rfl rfl ?_
              refine w_bipush hX dX10_stackFault_128 rfl (by decide) ?_
              refine w_icmp_eq (tgt := 150) hX dX10_stackFault_130 rfl (by decide) (fun h130 => ?_) (fun h130 => ?_)
              · exfalso; omega
              · refine w_iload_n (i := 3) hX dX10_stackFault_133 rfl rfl rfl ?_
                refine w_bipush hX dX10_stackFault_134 rfl (by decide) ?_
                refine w_icmp_eq (tgt := 150) hX dX10_stackFault_136 rfl (by decide) (fun h136 => ?_) (fun h136 => ?_)
                · exfalso; omega
                · refine w_aload_n (i := 0) hX dX10_stackFault_139 rfl rfl rfl ?_
                  refine w_iload_n (i := 1) hX dX10_stackFault_140 rfl rfl rfl ?_
                  refine w_iconst hX dX10_stackFault_141 rfl (by decide) ?_
                  refine w_iadd hX dX10_stackFault_142 rfl (by omega) ?_
                  refine w_iload hX dX10_stackFault_143 rfl rfl ?_
                  refine c_V hX ml_RX10_166 cl9 dX10_stackFault_145 rfl (r_comes _ (k + 1) _ (by omega) (by omega)) rfl rfl rfl (by decide) (Nat.le_of_ble_eq_true rfl) ?_
                  rintro _ _ ⟨rfl, rfl⟩ -
                  all_goals try dsimp only [Option.toList, List.cons_append, List.nil_append]
                  refine w_istore hX dX10_stackFault_148 rfl (by decide) ?_
                  dsimp only [st1X, st2X, klX_I, klX_L, klX_R, klX_S, klX_N]
                  refine w_iload_n (i := 3) hX dX10_stackFault_150 rfl rfl rfl ?_
                  refine w_bipush hX dX10_stackFault_151 rfl (by decide) ?_
                  refine w_icmp_eq (tgt := 168) hX dX10_stackFault_153 rfl (by decide) (fun h153 => ?_) (fun h153 => ?_)
                  · exfalso; omega
                  · refine w_iload_n (i := 3) hX dX10_stackFault_156 rfl rfl rfl ?_
                    refine w_bipush hX dX10_stackFault_157 rfl (by decide) ?_
                    refine w_icmp_eq (tgt := 168) hX dX10_stackFault_159 rfl (by decide) (fun h159 => ?_) (fun h159 => ?_)
                    · exfalso; omega
                    · refine w_iload_n (i := 3) hX dX10_stackFault_162 rfl rfl rfl ?_
                      refine w_bipush hX dX10_stackFault_163 rfl (by decide) ?_
                      refine w_icmp_ne (tgt := 200) hX dX10_stackFault_165 rfl (by decide) (fun h165 => ?_) (fun h165 => ?_)
                      · refine w_iload_n (i := 3) hX dX10_stackFault_200 rfl rfl rfl ?_
                        refine w_bipush hX dX10_stackFault_201 rfl (by decide) ?_
                        refine w_icmp_ne (tgt := 238) hX dX10_stackFault_203 rfl (by decide) (fun h203 => ?_) (fun h203 => ?_)
                        · refine w_iload_n (i := 3) hX dX10_stackFault_238 rfl rfl rfl ?_
                          refine w_bipush hX dX10_stackFault_239 rfl (by decide) ?_
                          refine w_icmp_ne (tgt := 256) hX dX10_stackFault_241 rfl (by decide) (fun h241 => ?_) (fun h241 => ?_)
                          · refine w_iload hX dX10_stackFault_256 rfl rfl ?_
                            refine w_if_eq (tgt := 265) hX dX10_stackFault_258 rfl (by decide) (fun h258 => ?_) (fun h258 => ?_)
                            · rw [b2_0] at h258
                              refine w_bipush hX dX10_stackFault_265 rfl (by decide) ?_
                              exact e_i hX hF dX10_stackFault_267 (by first | exact ⟨congrArg (fun x => some (vI x)) ((zq_S (by omega) (by omega)).1 ⟨h258, trivial⟩), keepR.nd.tr keepR.cm, fun _ => zq_E⟩ | exact ⟨congrArg (fun x => some (vI x)) ((zq_S (by omega) (by omega)).2 (fun zq_q => h258 zq_q.1)), keepR.nd.tr keepR.cm, fun zq_h => absurd (zq_h.symm.trans ((zq_S (by omega) (by omega)).2 (fun zq_q => h258 zq_q.1))) (by decide)⟩)
                            · rw [b2_n] at h258
                              refine w_iconst hX dX10_stackFault_261 rfl (by decide) ?_
                              refine w_goto (tgt := 267) hX dX10_stackFault_262 (by decide) ?_
                              exact e_i hX hF dX10_stackFault_267 (by first | exact ⟨congrArg (fun x => some (vI x)) ((zq_S (by omega) (by omega)).1 ⟨h258, trivial⟩), keepR.nd.tr keepR.cm, fun _ => zq_E⟩ | exact ⟨congrArg (fun x => some (vI x)) ((zq_S (by omega) (by omega)).2 (fun zq_q => h258 zq_q.1)), keepR.nd.tr keepR.cm, fun zq_h => absurd (zq_h.symm.trans ((zq_S (by omega) (by omega)).2 (fun zq_q => h258 zq_q.1))) (by decide)⟩)
                          · exfalso; omega
                        · exfalso; omega
                      · exfalso; omega
          · refine w_iload hX dX10_stackFault_103 rfl rfl ?_
            refine w_iload hX dX10_stackFault_105 rfl rfl ?_
            refine w_iadd hX dX10_stackFault_107 rfl (by omega) ?_
            refine w_goto (tgt := 117) hX dX10_stackFault_108 (by decide) ?_
            refine w_iast hX rfl (by omega) (by omega) dX10_stackFault_117 rfl ?_
            rw [show upD D 291 u.toNat _ = ndM D u ((D 287 k.toNat - tk n + lf n) + mrF D n ((D 284 (D 279 10 + k).toNat))) by unfold ndM; rw [zq_m]; first | rw [if_pos (by omega)] | rw [if_neg (by omega)]]
            refine w_iconst hX dX10_stackFault_118 rfl (by decide) ?_
            refine w_istore hX dX10_stackFault_119 rfl (by decide) ?_
            dsimp only [st1X, st2X, klX_I, klX_L, klX_R, klX_S, klX_N]
            refine w_iload_n (i := 3) hX dX10_stackFault_121 rfl rfl rfl ?_
            refine w_bipush hX dX10_stackFault_122 rfl (by decide) ?_
            refine w_icmp_eq (tgt := 150) hX dX10_stackFault_124 rfl (by decide) (fun h124 => ?_) (fun h124 => ?_)
            · exfalso; omega
            · refine w_iload_n (i := 3) hX dX10_stackFault_127 rfl rfl rfl ?_
              refine w_bipush hX dX10_stackFault_128 rfl (by decide) ?_
              refine w_icmp_eq (tgt := 150) hX dX10_stackFault_130 rfl (by decide) (fun h130 => ?_) (fun h130 => ?_)
              · exfalso; omega
              · refine w_iload_n (i := 3) hX dX10_stackFault_133 rfl rfl rfl ?_
                refine w_bipush hX dX10_stackFault_134 rfl (by decide) ?_
                refine w_icmp_eq (tgt := 150) hX dX10_stackFault_136 rfl (by decide) (fun h136 => ?_) (fun h136 => ?_)
                · exfalso; omega
                · refine w_aload_n (i := 0) hX dX10_stackFault_139 rfl rfl rfl ?_
                  refine w_iload_n (i := 1) hX dX10_stackFault_140 rfl rfl rfl ?_
                  refine w_iconst hX dX10_stackFault_141 rfl (by decide) ?_
                  refine w_iadd hX dX10_stackFault_142 rfl (by omega) ?_
                  refine w_iload hX dX10_stackFault_143 rfl rfl ?_
                  refine c_V hX ml_RX10_166 cl9 dX10_stackFault_145 rfl (r_comes _ (k + 1) _ (by omega) (by omega)) rfl rfl rfl (by decide) (Nat.le_of_ble_eq_true rfl) ?_
                  rintro _ _ ⟨rfl, rfl⟩ -
                  all_goals try dsimp only [Option.toList, List.cons_append, List.nil_append]
                  refine w_istore hX dX10_stackFault_148 rfl (by decide) ?_
                  dsimp only [st1X, st2X, klX_I, klX_L, klX_R, klX_S, klX_N]
                  refine w_iload_n (i := 3) hX dX10_stackFault_150 rfl rfl rfl ?_
                  refine w_bipush hX dX10_stackFault_151 rfl (by decide) ?_
                  refine w_icmp_eq (tgt := 168) hX dX10_stackFault_153 rfl (by decide) (fun h153 => ?_) (fun h153 => ?_)
                  · exfalso; omega
                  · refine w_iload_n (i := 3) hX dX10_stackFault_156 rfl rfl rfl ?_
                    refine w_bipush hX dX10_stackFault_157 rfl (by decide) ?_
                    refine w_icmp_eq (tgt := 168) hX dX10_stackFault_159 rfl (by decide) (fun h159 => ?_) (fun h159 => ?_)
                    · exfalso; omega
                    · refine w_iload_n (i := 3) hX dX10_stackFault_162 rfl rfl rfl ?_
                      refine w_bipush hX dX10_stackFault_163 rfl (by decide) ?_
                      refine w_icmp_ne (tgt := 200) hX dX10_stackFault_165 rfl (by decide) (fun h165 => ?_) (fun h165 => ?_)
                      · refine w_iload_n (i := 3) hX dX10_stackFault_200 rfl rfl rfl ?_
                        refine w_bipush hX dX10_stackFault_201 rfl (by decide) ?_
                        refine w_icmp_ne (tgt := 238) hX dX10_stackFault_203 rfl (by decide) (fun h203 => ?_) (fun h203 => ?_)
                        · refine w_iload_n (i := 3) hX dX10_stackFault_238 rfl rfl rfl ?_
                          refine w_bipush hX dX10_stackFault_239 rfl (by decide) ?_
                          refine w_icmp_ne (tgt := 256) hX dX10_stackFault_241 rfl (by decide) (fun h241 => ?_) (fun h241 => ?_)
                          · refine w_iload hX dX10_stackFault_256 rfl rfl ?_
                            refine w_if_eq (tgt := 265) hX dX10_stackFault_258 rfl (by decide) (fun h258 => ?_) (fun h258 => ?_)
                            · rw [b2_0] at h258
                              refine w_bipush hX dX10_stackFault_265 rfl (by decide) ?_
                              exact e_i hX hF dX10_stackFault_267 (by first | exact ⟨congrArg (fun x => some (vI x)) ((zq_S (by omega) (by omega)).1 ⟨h258, trivial⟩), keepR.nd.tr keepR.cm, fun _ => zq_E⟩ | exact ⟨congrArg (fun x => some (vI x)) ((zq_S (by omega) (by omega)).2 (fun zq_q => h258 zq_q.1)), keepR.nd.tr keepR.cm, fun zq_h => absurd (zq_h.symm.trans ((zq_S (by omega) (by omega)).2 (fun zq_q => h258 zq_q.1))) (by decide)⟩)
                            · rw [b2_n] at h258
                              refine w_iconst hX dX10_stackFault_261 rfl (by decide) ?_
                              refine w_goto (tgt := 267) hX dX10_stackFault_262 (by decide) ?_
                              exact e_i hX hF dX10_stackFault_267 (by first | exact ⟨congrArg (fun x => some (vI x)) ((zq_S (by omega) (by omega)).1 ⟨h258, trivial⟩), keepR.nd.tr keepR.cm, fun _ => zq_E⟩ | exact ⟨congrArg (fun x => some (vI x)) ((zq_S (by omega) (by omega)).2 (fun zq_q => h258 zq_q.1)), keepR.nd.tr keepR.cm, fun zq_h => absurd (zq_h.symm.trans ((zq_S (by omega) (by omega)).2 (fun zq_q => h258 zq_q.1))) (by decide)⟩)
                          · exfalso; omega
                        · exfalso; omega
                      · exfalso; omega
        · exfalso; omega
    · refine w_bipush hX dX10_stackFault_47 rfl (by decide) ?_
      exact e_i hX hF dX10_stackFault_49 ⟨by rw [skM, it_f (by omega), it_t (by omega)], keepR.rf D, fun zq_h => by rw [skM, it_f (by omega), it_t (by omega)] at zq_h; omega⟩
  · refine w_bipush hX dX10_stackFault_23 rfl (by decide) ?_
    exact e_i hX hF dX10_stackFault_25 ⟨by rw [skM, it_t (by omega)], keepR.rf D, fun zq_h => by rw [skM, it_t (by omega)] at zq_h; omega⟩

set_option maxRecDepth 100000 in
set_option maxHeartbeats 4000000 in
theorem r_sf10 (D : Dd) (hF0 : FM D) (k u : Int) (hk : 0 ≤ k ∧ k < D 279 11) (hu : 0 ≤ u ∧ u < 16) (hN : (D 283 (D 279 10 + k).toNat) = 10) (ha : 0 ≤ (D 284 (D 279 10 + k).toNat) ∧ (D 284 (D 279 10 + k).toNat) ≤ 256) (hd : 0 ≤ D 287 k.toNat ∧ D 287 k.toNat ≤ 64) (hdp : ∀ v : Nat, (v : Int) ≤ u → 0 ≤ D 291 v ∧ D 291 v ≤ 10000) : MC 2 yX10_stackFault cX10_stackFault 7 (some .int) [vR 279, vI k, vI u] D (fun r D2 => some (vI (skM D k u 10 ((D 284 (D 279 10 + k).toNat)) ((D 285 (D 279 10 + k).toNat)))) = r ∧ keepR D D2 ∧ (skM D k u 10 ((D 284 (D 279 10 + k).toNat)) ((D 285 (D 279 10 + k).toNat)) = 0 → skMD D k u 10 ((D 284 (D 279 10 + k).toNat)) ((D 285 (D 279 10 + k).toNat)) = D2)) := by
  refine MC.mk [vR 279, vI k, vI u, vN, vN, vN, vN] (by decide) (Nat.le_of_ble_eq_true rfl) rfl (fun X Q hX hF hok hol => ?_)
  have zq_F := hF0
  unfold FM at hF0
  have zq_t := tk_in (10)
  have zq_l := lf_in (10)
  have zq_g : tgM 10 k ((D 284 (D 279 10 + k).toNat)) ((D 285 (D 279 10 + k).toNat)) (D 279 11) = [(D 284 (D 279 10 + k).toNat)] := by unfold tgM; rw [if_pos (by omega)]
  have zq_m : mrF D 10 ((D 284 (D 279 10 + k).toNat)) = 0 := by unfold mrF; rw [if_neg (by omega)]
  have zq_u := hdp u.toNat (by omega)
  have zq_S : ¬ D 287 k.toNat < tk 10 → ¬ 64 < (D 287 k.toNat - tk 10 + lf 10) → (cmLM (D 287 k.toNat - tk 10 + lf 10) (ndM D u ((D 287 k.toNat - tk 10 + lf 10) + mrF D 10 ((D 284 (D 279 10 + k).toNat)))) [(D 284 (D 279 10 + k).toNat)] → skM D k u 10 ((D 284 (D 279 10 + k).toNat)) ((D 285 (D 279 10 + k).toNat)) = 0) ∧ (¬ cmLM (D 287 k.toNat - tk 10 + lf 10) (ndM D u ((D 287 k.toNat - tk 10 + lf 10) + mrF D 10 ((D 284 (D 279 10 + k).toNat)))) [(D 284 (D 279 10 + k).toNat)] → skM D k u 10 ((D 284 (D 279 10 + k).toNat)) ((D 285 (D 279 10 + k).toNat)) = 10) := by
    intro zq_1 zq_2
    constructor
    · intro zq_L; rw [skM, it_f zq_1, it_f zq_2, zq_g, it_f (fun zq_q => zq_q zq_L)]
    · intro zq_L; rw [skM, it_f zq_1, it_f zq_2, zq_g, it_t zq_L]
  have zq_E : skMD D k u 10 ((D 284 (D 279 10 + k).toNat)) ((D 285 (D 279 10 + k).toNat)) = cmEM (D 287 k.toNat - tk 10 + lf 10) (ndM D u ((D 287 k.toNat - tk 10 + lf 10) + mrF D 10 ((D 284 (D 279 10 + k).toNat)))) [(D 284 (D 279 10 + k).toNat)] := by rw [skMD, zq_g]
  refine w_aload_n (i := 0) hX dX10_stackFault_0 rfl rfl rfl ?_
  refine w_iload_n (i := 1) hX dX10_stackFault_1 rfl rfl rfl ?_
  refine c_V hX ml_RX10_128 cl9 dX10_stackFault_2 rfl (r_numberAt D zq_F k hk) rfl rfl rfl (by decide) (Nat.le_of_ble_eq_true rfl) ?_
  rintro _ _ ⟨rfl, rfl⟩ -
  rw [hN]
  all_goals try dsimp only [Option.toList, List.cons_append, List.nil_append]
  · refine w_istore_n (i := 3) hX dX10_stackFault_5 rfl rfl (by decide) ?_
    dsimp only [st1X, st2X, klX_I, klX_L, klX_R, klX_S, klX_N]
    refine w_aload_n (i := 0) hX dX10_stackFault_6 rfl rfl rfl ?_
    refine w_getR (j := 12) hX cl9 fl_RX10_31_9 rfl (by decide) rfl rfl dX10_stackFault_7 rfl ?_
    refine w_iload_n (i := 1) hX dX10_stackFault_10 rfl rfl rfl ?_
    refine w_iald hX rfl (by omega) (by omega) dX10_stackFault_11 rfl ?_
    refine w_istore hX dX10_stackFault_12 rfl (by decide) ?_
    dsimp only [st1X, st2X, klX_I, klX_L, klX_R, klX_S, klX_N]
    refine w_iload_n (i := 3) hX dX10_stackFault_14 rfl rfl rfl ?_
    refine c_S hX ml_RX10_160 dX10_stackFault_15 rfl (r_taken D 10) rfl rfl (by decide) (Nat.le_of_ble_eq_true rfl) ?_
    rintro _ _ ⟨rfl, rfl⟩ -
    all_goals try dsimp only [Option.toList, List.cons_append, List.nil_append]
    refine w_iload hX dX10_stackFault_18 rfl rfl ?_
    refine w_icmp_le (tgt := 26) hX dX10_stackFault_20 rfl (by decide) (fun h20 => ?_) (fun h20 => ?_)
    · refine w_iload hX dX10_stackFault_26 rfl rfl ?_
      refine w_iload_n (i := 3) hX dX10_stackFault_28 rfl rfl rfl ?_
      refine c_S hX ml_RX10_160 dX10_stackFault_29 rfl (r_taken D 10) rfl rfl (by decide) (Nat.le_of_ble_eq_true rfl) ?_
      rintro _ _ ⟨rfl, rfl⟩ -
      all_goals try dsimp only [Option.toList, List.cons_append, List.nil_append]
      refine w_isub hX dX10_stackFault_32 rfl (by omega) ?_
      refine w_iload_n (i := 3) hX dX10_stackFault_33 rfl rfl rfl ?_
      refine c_S hX ml_RX10_163 dX10_stackFault_34 rfl (r_left D 10 (by omega)) rfl rfl (by decide) (Nat.le_of_ble_eq_true rfl) ?_
      rintro _ _ ⟨rfl, rfl⟩ -
      all_goals try dsimp only [Option.toList, List.cons_append, List.nil_append]
      refine w_iadd hX dX10_stackFault_37 rfl (by omega) ?_
      refine w_istore hX dX10_stackFault_38 rfl (by decide) ?_
      dsimp only [st1X, st2X, klX_I, klX_L, klX_R, klX_S, klX_N]
      refine w_iload hX dX10_stackFault_40 rfl rfl ?_
      refine w_bipush hX dX10_stackFault_42 rfl (by decide) ?_
      refine w_icmp_le (tgt := 50) hX dX10_stackFault_44 rfl (by decide) (fun h44 => ?_) (fun h44 => ?_)
      · refine w_iload_n (i := 3) hX dX10_stackFault_50 rfl rfl rfl ?_
        refine w_bipush hX dX10_stackFault_51 rfl (by decide) ?_
        refine w_icmp_eq (tgt := 62) hX dX10_stackFault_53 rfl (by decide) (fun h53 => absurd h53 (by decide)) (fun _ => ?_)
        refine w_iload_n (i := 3) hX dX10_stackFault_56 rfl rfl rfl ?_
        refine w_bipush hX dX10_stackFault_57 rfl (by decide) ?_
        refine w_icmp_ne (tgt := 81) hX dX10_stackFault_59 rfl (by decide) (fun _ => ?_) (fun h59 => absurd (by decide) h59)
        refine w_iconst hX dX10_stackFault_81 rfl (by decide) ?_
        refine w_istore hX dX10_stackFault_82 rfl (by decide) ?_
        dsimp only [st1X, st2X, klX_I, klX_L, klX_R, klX_S, klX_N]
        refine w_aload_n (i := 0) hX dX10_stackFault_84 rfl rfl rfl ?_
        refine w_getR (j := 16) hX cl9 fl_RX10_44_9 rfl (by decide) rfl rfl dX10_stackFault_85 rfl ?_
        refine w_iload_n (i := 2) hX dX10_stackFault_88 rfl rfl rfl ?_
        refine w_iload hX dX10_stackFault_89 rfl rfl ?_
        refine w_iload hX dX10_stackFault_91 rfl rfl ?_
        refine w_iadd hX dX10_stackFault_93 rfl (by omega) ?_
        refine w_aload_n (i := 0) hX dX10_stackFault_94 rfl rfl rfl ?_
        refine w_getR (j := 16) hX cl9 fl_RX10_44_9 rfl (by decide) rfl rfl dX10_stackFault_95 rfl ?_
        refine w_iload_n (i := 2) hX dX10_stackFault_98 rfl rfl rfl ?_
        refine w_iald hX rfl (by omega) (by omega) dX10_stackFault_99 rfl ?_
        refine w_icmp_le (tgt := 111) hX dX10_stackFault_100 rfl (by decide) (fun h100 => ?_) (fun h100 => ?_)
        · refine w_aload_n (i := 0) hX dX10_stackFault_111 rfl rfl rfl ?_
          refine w_getR (j := 16) hX cl9 fl_RX10_44_9 rfl (by decide) rfl rfl dX10_stackFault_112 rfl ?_
          refine w_iload_n (i := 2) hX dX10_stackFault_115 rfl rfl rfl ?_
          refine w_iald hX rfl (by omega) (by omega) dX10_stackFault_116 rfl ?_
          refine w_iast hX rfl (by omega) (by omega) dX10_stackFault_117 rfl ?_
          rw [show upD D 291 u.toNat _ = ndM D u ((D 287 k.toNat - tk 10 + lf 10) + mrF D 10 ((D 284 (D 279 10 + k).toNat))) by unfold ndM; rw [zq_m]; first | rw [if_pos (by omega)] | rw [if_neg (by omega)]]
          refine w_iconst hX dX10_stackFault_118 rfl (by decide) ?_
          refine w_istore hX dX10_stackFault_119 rfl (by decide) ?_
          dsimp only [st1X, st2X, klX_I, klX_L, klX_R, klX_S, klX_N]
          refine w_iload_n (i := 3) hX dX10_stackFault_121 rfl rfl rfl ?_
          refine w_bipush hX dX10_stackFault_122 rfl (by decide) ?_
          refine w_icmp_eq (tgt := 150) hX dX10_stackFault_124 rfl (by decide) (fun _ => ?_) (fun h124 => absurd (by decide) h124)
          refine w_iload_n (i := 3) hX dX10_stackFault_150 rfl rfl rfl ?_
          refine w_bipush hX dX10_stackFault_151 rfl (by decide) ?_
          refine w_icmp_eq (tgt := 168) hX dX10_stackFault_153 rfl (by decide) (fun _ => ?_) (fun h153 => absurd (by decide) h153)
          refine w_aload_n (i := 0) hX dX10_stackFault_168 rfl rfl rfl ?_
          refine w_aload_n (i := 0) hX dX10_stackFault_169 rfl rfl rfl ?_
          refine w_getR (j := 7) hX cl9 fl_RX10_22_9 rfl (by decide) rfl rfl dX10_stackFault_170 rfl ?_
          refine w_aload_n (i := 0) hX dX10_stackFault_173 rfl rfl rfl ?_
          refine w_getI (j := 10) hX cl9 fl_RX10_125_9 rfl (by decide) rfl dX10_stackFault_174 rfl ?_
          rw [keepR.nd _ _ (by decide) (by decide)]
          refine w_iload_n (i := 1) hX dX10_stackFault_177 rfl rfl rfl ?_
          refine w_iadd hX dX10_stackFault_178 rfl (by omega) ?_
          refine w_iald hX rfl (by omega) (by omega) dX10_stackFault_179 rfl ?_
          first | (rw [keepR.nd _ _ (by decide) (by decide)]) | skip
          refine w_iload hX dX10_stackFault_180 rfl rfl ?_
          refine c_V hX ml_RX10_166 cl9 dX10_stackFault_182 rfl (r_comes _ ((D 284 (D 279 10 + k).toNat)) _ (by omega) (by omega)) rfl rfl rfl (by decide) (Nat.le_of_ble_eq_true rfl) ?_
          rintro _ _ ⟨rfl, rfl⟩ -
          all_goals try dsimp only [Option.toList, List.cons_append, List.nil_append]
          refine w_if_eq (tgt := 197) hX dX10_stackFault_185 rfl (by decide) (fun h185 => ?_) (fun h185 => ?_)
          · rw [b2_0] at h185
            refine w_iconst hX dX10_stackFault_197 rfl (by decide) ?_
            refine w_istore hX dX10_stackFault_198 rfl (by decide) ?_
            dsimp only [st1X, st2X, klX_I, klX_L, klX_R, klX_S, klX_N]
            refine w_iload_n (i := 3) hX dX10_stackFault_200 rfl rfl rfl ?_
            refine w_bipush hX dX10_stackFault_201 rfl (by decide) ?_
            refine w_icmp_ne (tgt := 238) hX dX10_stackFault_203 rfl (by decide) (fun _ => ?_) (fun h203 => absurd (by decide) h203)
            refine w_iload_n (i := 3) hX dX10_stackFault_238 rfl rfl rfl ?_
            refine w_bipush hX dX10_stackFault_239 rfl (by decide) ?_
            refine w_icmp_ne (tgt := 256) hX dX10_stackFault_241 rfl (by decide) (fun _ => ?_) (fun h241 => absurd (by decide) h241)
            refine w_iload hX dX10_stackFault_256 rfl rfl ?_
            refine w_if_eq (tgt := 265) hX dX10_stackFault_258 rfl (by decide) (fun _ => ?_) (fun h258 => absurd (by decide) h258)
            refine w_bipush hX dX10_stackFault_265 rfl (by decide) ?_
            exact e_i hX hF dX10_stackFault_267 (by first | exact ⟨congrArg (fun x => some (vI x)) ((zq_S (by omega) (by omega)).1 ⟨h185, trivial⟩), keepR.nd.tr keepR.cm, fun _ => zq_E⟩ | exact ⟨congrArg (fun x => some (vI x)) ((zq_S (by omega) (by omega)).2 (fun zq_q => h185 zq_q.1)), keepR.nd.tr keepR.cm, fun zq_h => absurd (zq_h.symm.trans ((zq_S (by omega) (by omega)).2 (fun zq_q => h185 zq_q.1))) (by decide)⟩)
          · rw [b2_n] at h185
            refine w_iload hX dX10_stackFault_188 rfl rfl ?_
            refine w_if_eq (tgt := 197) hX dX10_stackFault_190 rfl (by decide) (fun h190 => absurd h190 (by decide)) (fun _ => ?_)
            refine w_iconst hX dX10_stackFault_193 rfl (by decide) ?_
            refine w_goto (tgt := 198) hX dX10_stackFault_194 (by decide) ?_
            refine w_istore hX dX10_stackFault_198 rfl (by decide) ?_
            dsimp only [st1X, st2X, klX_I, klX_L, klX_R, klX_S, klX_N]
            refine w_iload_n (i := 3) hX dX10_stackFault_200 rfl rfl rfl ?_
            refine w_bipush hX dX10_stackFault_201 rfl (by decide) ?_
            refine w_icmp_ne (tgt := 238) hX dX10_stackFault_203 rfl (by decide) (fun _ => ?_) (fun h203 => absurd (by decide) h203)
            refine w_iload_n (i := 3) hX dX10_stackFault_238 rfl rfl rfl ?_
            refine w_bipush hX dX10_stackFault_239 rfl (by decide) ?_
            refine w_icmp_ne (tgt := 256) hX dX10_stackFault_241 rfl (by decide) (fun _ => ?_) (fun h241 => absurd (by decide) h241)
            refine w_iload hX dX10_stackFault_256 rfl rfl ?_
            refine w_if_eq (tgt := 265) hX dX10_stackFault_258 rfl (by decide) (fun h258 => absurd h258 (by decide)) (fun _ => ?_)
            refine w_iconst hX dX10_stackFault_261 rfl (by decide) ?_
            refine w_goto (tgt := 267) hX dX10_stackFault_262 (by decide) ?_
            exact e_i hX hF dX10_stackFault_267 (by first | exact ⟨congrArg (fun x => some (vI x)) ((zq_S (by omega) (by omega)).1 ⟨h185, trivial⟩), keepR.nd.tr keepR.cm, fun _ => zq_E⟩ | exact ⟨congrArg (fun x => some (vI x)) ((zq_S (by omega) (by omega)).2 (fun zq_q => h185 zq_q.1)), keepR.nd.tr keepR.cm, fun zq_h => absurd (zq_h.symm.trans ((zq_S (by omega) (by omega)).2 (fun zq_q => h185 zq_q.1))) (by decide)⟩)
        · refine w_iload hX dX10_stackFault_103 rfl rfl ?_
          refine w_iload hX dX10_stackFault_105 rfl rfl ?_
          refine w_iadd hX dX10_stackFault_107 rfl (by omega) ?_
          refine w_goto (tgt := 117) hX dX10_stackFault_108 (by decide) ?_
          refine w_iast hX rfl (by omega) (by omega) dX10_stackFault_117 rfl ?_
          rw [show upD D 291 u.toNat _ = ndM D u ((D 287 k.toNat - tk 10 + lf 10) + mrF D 10 ((D 284 (D 279 10 + k).toNat))) by unfold ndM; rw [zq_m]; first | rw [if_pos (by omega)] | rw [if_neg (by omega)]]
          refine w_iconst hX dX10_stackFault_118 rfl (by decide) ?_
          refine w_istore hX dX10_stackFault_119 rfl (by decide) ?_
          dsimp only [st1X, st2X, klX_I, klX_L, klX_R, klX_S, klX_N]
          refine w_iload_n (i := 3) hX dX10_stackFault_121 rfl rfl rfl ?_
          refine w_bipush hX dX10_stackFault_122 rfl (by decide) ?_
          refine w_icmp_eq (tgt := 150) hX dX10_stackFault_124 rfl (by decide) (fun _ => ?_) (fun h124 => absurd (by decide) h124)
          refine w_iload_n (i := 3) hX dX10_stackFault_150 rfl rfl rfl ?_
          refine w_bipush hX dX10_stackFault_151 rfl (by decide) ?_
          refine w_icmp_eq (tgt := 168) hX dX10_stackFault_153 rfl (by decide) (fun _ => ?_) (fun h153 => absurd (by decide) h153)
          refine w_aload_n (i := 0) hX dX10_stackFault_168 rfl rfl rfl ?_
          refine w_aload_n (i := 0) hX dX10_stackFault_169 rfl rfl rfl ?_
          refine w_getR (j := 7) hX cl9 fl_RX10_22_9 rfl (by decide) rfl rfl dX10_stackFault_170 rfl ?_
          refine w_aload_n (i := 0) hX dX10_stackFault_173 rfl rfl rfl ?_
          refine w_getI (j := 10) hX cl9 fl_RX10_125_9 rfl (by decide) rfl dX10_stackFault_174 rfl ?_
          rw [keepR.nd _ _ (by decide) (by decide)]
          refine w_iload_n (i := 1) hX dX10_stackFault_177 rfl rfl rfl ?_
          refine w_iadd hX dX10_stackFault_178 rfl (by omega) ?_
          refine w_iald hX rfl (by omega) (by omega) dX10_stackFault_179 rfl ?_
          first | (rw [keepR.nd _ _ (by decide) (by decide)]) | skip
          refine w_iload hX dX10_stackFault_180 rfl rfl ?_
          refine c_V hX ml_RX10_166 cl9 dX10_stackFault_182 rfl (r_comes _ ((D 284 (D 279 10 + k).toNat)) _ (by omega) (by omega)) rfl rfl rfl (by decide) (Nat.le_of_ble_eq_true rfl) ?_
          rintro _ _ ⟨rfl, rfl⟩ -
          all_goals try dsimp only [Option.toList, List.cons_append, List.nil_append]
          refine w_if_eq (tgt := 197) hX dX10_stackFault_185 rfl (by decide) (fun h185 => ?_) (fun h185 => ?_)
          · rw [b2_0] at h185
            refine w_iconst hX dX10_stackFault_197 rfl (by decide) ?_
            refine w_istore hX dX10_stackFault_198 rfl (by decide) ?_
            dsimp only [st1X, st2X, klX_I, klX_L, klX_R, klX_S, klX_N]
            refine w_iload_n (i := 3) hX dX10_stackFault_200 rfl rfl rfl ?_
            refine w_bipush hX dX10_stackFault_201 rfl (by decide) ?_
            refine w_icmp_ne (tgt := 238) hX dX10_stackFault_203 rfl (by decide) (fun _ => ?_) (fun h203 => absurd (by decide) h203)
            refine w_iload_n (i := 3) hX dX10_stackFault_238 rfl rfl rfl ?_
            refine w_bipush hX dX10_stackFault_239 rfl (by decide) ?_
            refine w_icmp_ne (tgt := 256) hX dX10_stackFault_241 rfl (by decide) (fun _ => ?_) (fun h241 => absurd (by decide) h241)
            refine w_iload hX dX10_stackFault_256 rfl rfl ?_
            refine w_if_eq (tgt := 265) hX dX10_stackFault_258 rfl (by decide) (fun _ => ?_) (fun h258 => absurd (by decide) h258)
            refine w_bipush hX dX10_stackFault_265 rfl (by decide) ?_
            exact e_i hX hF dX10_stackFault_267 (by first | exact ⟨congrArg (fun x => some (vI x)) ((zq_S (by omega) (by omega)).1 ⟨h185, trivial⟩), keepR.nd.tr keepR.cm, fun _ => zq_E⟩ | exact ⟨congrArg (fun x => some (vI x)) ((zq_S (by omega) (by omega)).2 (fun zq_q => h185 zq_q.1)), keepR.nd.tr keepR.cm, fun zq_h => absurd (zq_h.symm.trans ((zq_S (by omega) (by omega)).2 (fun zq_q => h185 zq_q.1))) (by decide)⟩)
          · rw [b2_n] at h185
            refine w_iload hX dX10_stackFault_188 rfl rfl ?_
            refine w_if_eq (tgt := 197) hX dX10_stackFault_190 rfl (by decide) (fun h190 => absurd h190 (by decide)) (fun _ => ?_)
            refine w_iconst hX dX10_stackFault_193 rfl (by decide) ?_
            refine w_goto (tgt := 198) hX dX10_stackFault_194 (by decide) ?_
            refine w_istore hX dX10_stackFault_198 rfl (by decide) ?_
            dsimp only [st1X, st2X, klX_I, klX_L, klX_R, klX_S, klX_N]
            refine w_iload_n (i := 3) hX dX10_stackFault_200 rfl rfl rfl ?_
            refine w_bipush hX dX10_stackFault_201 rfl (by decide) ?_
            refine w_icmp_ne (tgt := 238) hX dX10_stackFault_203 rfl (by decide) (fun _ => ?_) (fun h203 => absurd (by decide) h203)
            refine w_iload_n (i := 3) hX dX10_stackFault_238 rfl rfl rfl ?_
            refine w_bipush hX dX10_stackFault_239 rfl (by decide) ?_
            refine w_icmp_ne (tgt := 256) hX dX10_stackFault_241 rfl (by decide) (fun _ => ?_) (fun h241 => absurd (by decide) h241)
            refine w_iload hX dX10_stackFault_256 rfl rfl ?_
            refine w_if_eq (tgt := 265) hX dX10_stackFault_258 rfl (by decide) (fun h258 => absurd h258 (by decide)) (fun _ => ?_)
            refine w_iconst hX dX10_stackFault_261 rfl (by decide) ?_
            refine w_goto (tgt := 267) hX dX10_stackFault_262 (by decide) ?_
            exact e_i hX hF dX10_stackFault_267 (by first | exact ⟨congrArg (fun x => some (vI x)) ((zq_S (by omega) (by omega)).1 ⟨h185, trivial⟩), keepR.nd.tr keepR.cm, fun _ => zq_E⟩ | exact ⟨congrArg (fun x => some (vI x)) ((zq_S (by omega) (by omega)).2 (fun zq_q => h185 zq_q.1)), keepR.nd.tr keepR.cm, fun zq_h => absurd (zq_h.symm.trans ((zq_S (by omega) (by omega)).2 (fun zq_q => h185 zq_q.1))) (by decide)⟩)
      · refine w_bipush hX dX10_stackFault_47 rfl (by decide) ?_
        exact e_i hX hF dX10_stackFault_49 ⟨by rw [skM, it_f (by omega), it_t (by omega)], keepR.rf D, fun zq_h => by rw [skM, it_f (by omega), it_t (by omega)] at zq_h; omega⟩
    · refine w_bipush hX dX10_stackFault_23 rfl (by decide) ?_
      exact e_i hX hF dX10_stackFault_25 ⟨by rw [skM, it_t (by omega)], keepR.rf D, fun zq_h => by rw [skM, it_t (by omega)] at zq_h; omega⟩

set_option maxRecDepth 100000 in
set_option maxHeartbeats 4000000 in
theorem r_sf14 (D : Dd) (hF0 : FM D) (k u : Int) (hk : 0 ≤ k ∧ k < D 279 11) (hu : 0 ≤ u ∧ u < 16) (hN : (D 283 (D 279 10 + k).toNat) = 14) (ha : 0 ≤ (D 284 (D 279 10 + k).toNat) ∧ (D 284 (D 279 10 + k).toNat) ≤ 256) (hd : 0 ≤ D 287 k.toNat ∧ D 287 k.toNat ≤ 64) (hdp : ∀ v : Nat, (v : Int) ≤ u → 0 ≤ D 291 v ∧ D 291 v ≤ 10000) : MC 2 yX10_stackFault cX10_stackFault 7 (some .int) [vR 279, vI k, vI u] D (fun r D2 => some (vI (skM D k u 14 ((D 284 (D 279 10 + k).toNat)) ((D 285 (D 279 10 + k).toNat)))) = r ∧ keepR D D2 ∧ (skM D k u 14 ((D 284 (D 279 10 + k).toNat)) ((D 285 (D 279 10 + k).toNat)) = 0 → skMD D k u 14 ((D 284 (D 279 10 + k).toNat)) ((D 285 (D 279 10 + k).toNat)) = D2)) := by
  refine MC.mk [vR 279, vI k, vI u, vN, vN, vN, vN] (by decide) (Nat.le_of_ble_eq_true rfl) rfl (fun X Q hX hF hok hol => ?_)
  have zq_F := hF0
  unfold FM at hF0
  have zq_t := tk_in (14)
  have zq_l := lf_in (14)
  have zq_g : tgM 14 k ((D 284 (D 279 10 + k).toNat)) ((D 285 (D 279 10 + k).toNat)) (D 279 11) = [(D 284 (D 279 10 + k).toNat)] := by unfold tgM; rw [if_pos (by omega)]
  have zq_m : mrF D 14 ((D 284 (D 279 10 + k).toNat)) = 0 := by unfold mrF; rw [if_neg (by omega)]
  have zq_u := hdp u.toNat (by omega)
  have zq_S : ¬ D 287 k.toNat < tk 14 → ¬ 64 < (D 287 k.toNat - tk 14 + lf 14) → (cmLM (D 287 k.toNat - tk 14 + lf 14) (ndM D u ((D 287 k.toNat - tk 14 + lf 14) + mrF D 14 ((D 284 (D 279 10 + k).toNat)))) [(D 284 (D 279 10 + k).toNat)] → skM D k u 14 ((D 284 (D 279 10 + k).toNat)) ((D 285 (D 279 10 + k).toNat)) = 0) ∧ (¬ cmLM (D 287 k.toNat - tk 14 + lf 14) (ndM D u ((D 287 k.toNat - tk 14 + lf 14) + mrF D 14 ((D 284 (D 279 10 + k).toNat)))) [(D 284 (D 279 10 + k).toNat)] → skM D k u 14 ((D 284 (D 279 10 + k).toNat)) ((D 285 (D 279 10 + k).toNat)) = 10) := by
    intro zq_1 zq_2
    constructor
    · intro zq_L; rw [skM, it_f zq_1, it_f zq_2, zq_g, it_f (fun zq_q => zq_q zq_L)]
    · intro zq_L; rw [skM, it_f zq_1, it_f zq_2, zq_g, it_t zq_L]
  have zq_E : skMD D k u 14 ((D 284 (D 279 10 + k).toNat)) ((D 285 (D 279 10 + k).toNat)) = cmEM (D 287 k.toNat - tk 14 + lf 14) (ndM D u ((D 287 k.toNat - tk 14 + lf 14) + mrF D 14 ((D 284 (D 279 10 + k).toNat)))) [(D 284 (D 279 10 + k).toNat)] := by rw [skMD, zq_g]
  refine w_aload_n (i := 0) hX dX10_stackFault_0 rfl rfl rfl ?_
  refine w_iload_n (i := 1) hX dX10_stackFault_1 rfl rfl rfl ?_
  refine c_V hX ml_RX10_128 cl9 dX10_stackFault_2 rfl (r_numberAt D zq_F k hk) rfl rfl rfl (by decide) (Nat.le_of_ble_eq_true rfl) ?_
  rintro _ _ ⟨rfl, rfl⟩ -
  rw [hN]
  all_goals try dsimp only [Option.toList, List.cons_append, List.nil_append]
  · refine w_istore_n (i := 3) hX dX10_stackFault_5 rfl rfl (by decide) ?_
    dsimp only [st1X, st2X, klX_I, klX_L, klX_R, klX_S, klX_N]
    refine w_aload_n (i := 0) hX dX10_stackFault_6 rfl rfl rfl ?_
    refine w_getR (j := 12) hX cl9 fl_RX10_31_9 rfl (by decide) rfl rfl dX10_stackFault_7 rfl ?_
    refine w_iload_n (i := 1) hX dX10_stackFault_10 rfl rfl rfl ?_
    refine w_iald hX rfl (by omega) (by omega) dX10_stackFault_11 rfl ?_
    refine w_istore hX dX10_stackFault_12 rfl (by decide) ?_
    dsimp only [st1X, st2X, klX_I, klX_L, klX_R, klX_S, klX_N]
    refine w_iload_n (i := 3) hX dX10_stackFault_14 rfl rfl rfl ?_
    refine c_S hX ml_RX10_160 dX10_stackFault_15 rfl (r_taken D 14) rfl rfl (by decide) (Nat.le_of_ble_eq_true rfl) ?_
    rintro _ _ ⟨rfl, rfl⟩ -
    all_goals try dsimp only [Option.toList, List.cons_append, List.nil_append]
    refine w_iload hX dX10_stackFault_18 rfl rfl ?_
    refine w_icmp_le (tgt := 26) hX dX10_stackFault_20 rfl (by decide) (fun h20 => ?_) (fun h20 => ?_)
    · refine w_iload hX dX10_stackFault_26 rfl rfl ?_
      refine w_iload_n (i := 3) hX dX10_stackFault_28 rfl rfl rfl ?_
      refine c_S hX ml_RX10_160 dX10_stackFault_29 rfl (r_taken D 14) rfl rfl (by decide) (Nat.le_of_ble_eq_true rfl) ?_
      rintro _ _ ⟨rfl, rfl⟩ -
      all_goals try dsimp only [Option.toList, List.cons_append, List.nil_append]
      refine w_isub hX dX10_stackFault_32 rfl (by omega) ?_
      refine w_iload_n (i := 3) hX dX10_stackFault_33 rfl rfl rfl ?_
      refine c_S hX ml_RX10_163 dX10_stackFault_34 rfl (r_left D 14 (by omega)) rfl rfl (by decide) (Nat.le_of_ble_eq_true rfl) ?_
      rintro _ _ ⟨rfl, rfl⟩ -
      all_goals try dsimp only [Option.toList, List.cons_append, List.nil_append]
      refine w_iadd hX dX10_stackFault_37 rfl (by omega) ?_
      refine w_istore hX dX10_stackFault_38 rfl (by decide) ?_
      dsimp only [st1X, st2X, klX_I, klX_L, klX_R, klX_S, klX_N]
      refine w_iload hX dX10_stackFault_40 rfl rfl ?_
      refine w_bipush hX dX10_stackFault_42 rfl (by decide) ?_
      refine w_icmp_le (tgt := 50) hX dX10_stackFault_44 rfl (by decide) (fun h44 => ?_) (fun h44 => ?_)
      · refine w_iload_n (i := 3) hX dX10_stackFault_50 rfl rfl rfl ?_
        refine w_bipush hX dX10_stackFault_51 rfl (by decide) ?_
        refine w_icmp_eq (tgt := 62) hX dX10_stackFault_53 rfl (by decide) (fun h53 => absurd h53 (by decide)) (fun _ => ?_)
        refine w_iload_n (i := 3) hX dX10_stackFault_56 rfl rfl rfl ?_
        refine w_bipush hX dX10_stackFault_57 rfl (by decide) ?_
        refine w_icmp_ne (tgt := 81) hX dX10_stackFault_59 rfl (by decide) (fun _ => ?_) (fun h59 => absurd (by decide) h59)
        refine w_iconst hX dX10_stackFault_81 rfl (by decide) ?_
        refine w_istore hX dX10_stackFault_82 rfl (by decide) ?_
        dsimp only [st1X, st2X, klX_I, klX_L, klX_R, klX_S, klX_N]
        refine w_aload_n (i := 0) hX dX10_stackFault_84 rfl rfl rfl ?_
        refine w_getR (j := 16) hX cl9 fl_RX10_44_9 rfl (by decide) rfl rfl dX10_stackFault_85 rfl ?_
        refine w_iload_n (i := 2) hX dX10_stackFault_88 rfl rfl rfl ?_
        refine w_iload hX dX10_stackFault_89 rfl rfl ?_
        refine w_iload hX dX10_stackFault_91 rfl rfl ?_
        refine w_iadd hX dX10_stackFault_93 rfl (by omega) ?_
        refine w_aload_n (i := 0) hX dX10_stackFault_94 rfl rfl rfl ?_
        refine w_getR (j := 16) hX cl9 fl_RX10_44_9 rfl (by decide) rfl rfl dX10_stackFault_95 rfl ?_
        refine w_iload_n (i := 2) hX dX10_stackFault_98 rfl rfl rfl ?_
        refine w_iald hX rfl (by omega) (by omega) dX10_stackFault_99 rfl ?_
        refine w_icmp_le (tgt := 111) hX dX10_stackFault_100 rfl (by decide) (fun h100 => ?_) (fun h100 => ?_)
        · refine w_aload_n (i := 0) hX dX10_stackFault_111 rfl rfl rfl ?_
          refine w_getR (j := 16) hX cl9 fl_RX10_44_9 rfl (by decide) rfl rfl dX10_stackFault_112 rfl ?_
          refine w_iload_n (i := 2) hX dX10_stackFault_115 rfl rfl rfl ?_
          refine w_iald hX rfl (by omega) (by omega) dX10_stackFault_116 rfl ?_
          refine w_iast hX rfl (by omega) (by omega) dX10_stackFault_117 rfl ?_
          rw [show upD D 291 u.toNat _ = ndM D u ((D 287 k.toNat - tk 14 + lf 14) + mrF D 14 ((D 284 (D 279 10 + k).toNat))) by unfold ndM; rw [zq_m]; first | rw [if_pos (by omega)] | rw [if_neg (by omega)]]
          refine w_iconst hX dX10_stackFault_118 rfl (by decide) ?_
          refine w_istore hX dX10_stackFault_119 rfl (by decide) ?_
          dsimp only [st1X, st2X, klX_I, klX_L, klX_R, klX_S, klX_N]
          refine w_iload_n (i := 3) hX dX10_stackFault_121 rfl rfl rfl ?_
          refine w_bipush hX dX10_stackFault_122 rfl (by decide) ?_
          refine w_icmp_eq (tgt := 150) hX dX10_stackFault_124 rfl (by decide) (fun h124 => absurd h124 (by decide)) (fun _ => ?_)
          refine w_iload_n (i := 3) hX dX10_stackFault_127 rfl rfl rfl ?_
          refine w_bipush hX dX10_stackFault_128 rfl (by decide) ?_
          refine w_icmp_eq (tgt := 150) hX dX10_stackFault_130 rfl (by decide) (fun _ => ?_) (fun h130 => absurd (by decide) h130)
          refine w_iload_n (i := 3) hX dX10_stackFault_150 rfl rfl rfl ?_
          refine w_bipush hX dX10_stackFault_151 rfl (by decide) ?_
          refine w_icmp_eq (tgt := 168) hX dX10_stackFault_153 rfl (by decide) (fun h153 => absurd h153 (by decide)) (fun _ => ?_)
          refine w_iload_n (i := 3) hX dX10_stackFault_156 rfl rfl rfl ?_
          refine w_bipush hX dX10_stackFault_157 rfl (by decide) ?_
          refine w_icmp_eq (tgt := 168) hX dX10_stackFault_159 rfl (by decide) (fun h159 => absurd h159 (by decide)) (fun _ => ?_)
          refine w_iload_n (i := 3) hX dX10_stackFault_162 rfl rfl rfl ?_
          refine w_bipush hX dX10_stackFault_163 rfl (by decide) ?_
          refine w_icmp_ne (tgt := 200) hX dX10_stackFault_165 rfl (by decide) (fun h165 => absurd h165 (by decide)) (fun _ => ?_)
          refine w_aload_n (i := 0) hX dX10_stackFault_168 rfl rfl rfl ?_
          refine w_aload_n (i := 0) hX dX10_stackFault_169 rfl rfl rfl ?_
          refine w_getR (j := 7) hX cl9 fl_RX10_22_9 rfl (by decide) rfl rfl dX10_stackFault_170 rfl ?_
          refine w_aload_n (i := 0) hX dX10_stackFault_173 rfl rfl rfl ?_
          refine w_getI (j := 10) hX cl9 fl_RX10_125_9 rfl (by decide) rfl dX10_stackFault_174 rfl ?_
          rw [keepR.nd _ _ (by decide) (by decide)]
          refine w_iload_n (i := 1) hX dX10_stackFault_177 rfl rfl rfl ?_
          refine w_iadd hX dX10_stackFault_178 rfl (by omega) ?_
          refine w_iald hX rfl (by omega) (by omega) dX10_stackFault_179 rfl ?_
          first | (rw [keepR.nd _ _ (by decide) (by decide)]) | skip
          refine w_iload hX dX10_stackFault_180 rfl rfl ?_
          refine c_V hX ml_RX10_166 cl9 dX10_stackFault_182 rfl (r_comes _ ((D 284 (D 279 10 + k).toNat)) _ (by omega) (by omega)) rfl rfl rfl (by decide) (Nat.le_of_ble_eq_true rfl) ?_
          rintro _ _ ⟨rfl, rfl⟩ -
          all_goals try dsimp only [Option.toList, List.cons_append, List.nil_append]
          refine w_if_eq (tgt := 197) hX dX10_stackFault_185 rfl (by decide) (fun h185 => ?_) (fun h185 => ?_)
          · rw [b2_0] at h185
            refine w_iconst hX dX10_stackFault_197 rfl (by decide) ?_
            refine w_istore hX dX10_stackFault_198 rfl (by decide) ?_
            dsimp only [st1X, st2X, klX_I, klX_L, klX_R, klX_S, klX_N]
            refine w_iload_n (i := 3) hX dX10_stackFault_200 rfl rfl rfl ?_
            refine w_bipush hX dX10_stackFault_201 rfl (by decide) ?_
            refine w_icmp_ne (tgt := 238) hX dX10_stackFault_203 rfl (by decide) (fun _ => ?_) (fun h203 => absurd (by decide) h203)
            refine w_iload_n (i := 3) hX dX10_stackFault_238 rfl rfl rfl ?_
            refine w_bipush hX dX10_stackFault_239 rfl (by decide) ?_
            refine w_icmp_ne (tgt := 256) hX dX10_stackFault_241 rfl (by decide) (fun _ => ?_) (fun h241 => absurd (by decide) h241)
            refine w_iload hX dX10_stackFault_256 rfl rfl ?_
            refine w_if_eq (tgt := 265) hX dX10_stackFault_258 rfl (by decide) (fun _ => ?_) (fun h258 => absurd (by decide) h258)
            refine w_bipush hX dX10_stackFault_265 rfl (by decide) ?_
            exact e_i hX hF dX10_stackFault_267 (by first | exact ⟨congrArg (fun x => some (vI x)) ((zq_S (by omega) (by omega)).1 ⟨h185, trivial⟩), keepR.nd.tr keepR.cm, fun _ => zq_E⟩ | exact ⟨congrArg (fun x => some (vI x)) ((zq_S (by omega) (by omega)).2 (fun zq_q => h185 zq_q.1)), keepR.nd.tr keepR.cm, fun zq_h => absurd (zq_h.symm.trans ((zq_S (by omega) (by omega)).2 (fun zq_q => h185 zq_q.1))) (by decide)⟩)
          · rw [b2_n] at h185
            refine w_iload hX dX10_stackFault_188 rfl rfl ?_
            refine w_if_eq (tgt := 197) hX dX10_stackFault_190 rfl (by decide) (fun h190 => absurd h190 (by decide)) (fun _ => ?_)
            refine w_iconst hX dX10_stackFault_193 rfl (by decide) ?_
            refine w_goto (tgt := 198) hX dX10_stackFault_194 (by decide) ?_
            refine w_istore hX dX10_stackFault_198 rfl (by decide) ?_
            dsimp only [st1X, st2X, klX_I, klX_L, klX_R, klX_S, klX_N]
            refine w_iload_n (i := 3) hX dX10_stackFault_200 rfl rfl rfl ?_
            refine w_bipush hX dX10_stackFault_201 rfl (by decide) ?_
            refine w_icmp_ne (tgt := 238) hX dX10_stackFault_203 rfl (by decide) (fun _ => ?_) (fun h203 => absurd (by decide) h203)
            refine w_iload_n (i := 3) hX dX10_stackFault_238 rfl rfl rfl ?_
            refine w_bipush hX dX10_stackFault_239 rfl (by decide) ?_
            refine w_icmp_ne (tgt := 256) hX dX10_stackFault_241 rfl (by decide) (fun _ => ?_) (fun h241 => absurd (by decide) h241)
            refine w_iload hX dX10_stackFault_256 rfl rfl ?_
            refine w_if_eq (tgt := 265) hX dX10_stackFault_258 rfl (by decide) (fun h258 => absurd h258 (by decide)) (fun _ => ?_)
            refine w_iconst hX dX10_stackFault_261 rfl (by decide) ?_
            refine w_goto (tgt := 267) hX dX10_stackFault_262 (by decide) ?_
            exact e_i hX hF dX10_stackFault_267 (by first | exact ⟨congrArg (fun x => some (vI x)) ((zq_S (by omega) (by omega)).1 ⟨h185, trivial⟩), keepR.nd.tr keepR.cm, fun _ => zq_E⟩ | exact ⟨congrArg (fun x => some (vI x)) ((zq_S (by omega) (by omega)).2 (fun zq_q => h185 zq_q.1)), keepR.nd.tr keepR.cm, fun zq_h => absurd (zq_h.symm.trans ((zq_S (by omega) (by omega)).2 (fun zq_q => h185 zq_q.1))) (by decide)⟩)
        · refine w_iload hX dX10_stackFault_103 rfl rfl ?_
          refine w_iload hX dX10_stackFault_105 rfl rfl ?_
          refine w_iadd hX dX10_stackFault_107 rfl (by omega) ?_
          refine w_goto (tgt := 117) hX dX10_stackFault_108 (by decide) ?_
          refine w_iast hX rfl (by omega) (by omega) dX10_stackFault_117 rfl ?_
          rw [show upD D 291 u.toNat _ = ndM D u ((D 287 k.toNat - tk 14 + lf 14) + mrF D 14 ((D 284 (D 279 10 + k).toNat))) by unfold ndM; rw [zq_m]; first | rw [if_pos (by omega)] | rw [if_neg (by omega)]]
          refine w_iconst hX dX10_stackFault_118 rfl (by decide) ?_
          refine w_istore hX dX10_stackFault_119 rfl (by decide) ?_
          dsimp only [st1X, st2X, klX_I, klX_L, klX_R, klX_S, klX_N]
          refine w_iload_n (i := 3) hX dX10_stackFault_121 rfl rfl rfl ?_
          refine w_bipush hX dX10_stackFault_122 rfl (by decide) ?_
          refine w_icmp_eq (tgt := 150) hX dX10_stackFault_124 rfl (by decide) (fun h124 => absurd h124 (by decide)) (fun _ => ?_)
          refine w_iload_n (i := 3) hX dX10_stackFault_127 rfl rfl rfl ?_
          refine w_bipush hX dX10_stackFault_128 rfl (by decide) ?_
          refine w_icmp_eq (tgt := 150) hX dX10_stackFault_130 rfl (by decide) (fun _ => ?_) (fun h130 => absurd (by decide) h130)
          refine w_iload_n (i := 3) hX dX10_stackFault_150 rfl rfl rfl ?_
          refine w_bipush hX dX10_stackFault_151 rfl (by decide) ?_
          refine w_icmp_eq (tgt := 168) hX dX10_stackFault_153 rfl (by decide) (fun h153 => absurd h153 (by decide)) (fun _ => ?_)
          refine w_iload_n (i := 3) hX dX10_stackFault_156 rfl rfl rfl ?_
          refine w_bipush hX dX10_stackFault_157 rfl (by decide) ?_
          refine w_icmp_eq (tgt := 168) hX dX10_stackFault_159 rfl (by decide) (fun h159 => absurd h159 (by decide)) (fun _ => ?_)
          refine w_iload_n (i := 3) hX dX10_stackFault_162 rfl rfl rfl ?_
          refine w_bipush hX dX10_stackFault_163 rfl (by decide) ?_
          refine w_icmp_ne (tgt := 200) hX dX10_stackFault_165 rfl (by decide) (fun h165 => absurd h165 (by decide)) (fun _ => ?_)
          refine w_aload_n (i := 0) hX dX10_stackFault_168 rfl rfl rfl ?_
          refine w_aload_n (i := 0) hX dX10_stackFault_169 rfl rfl rfl ?_
          refine w_getR (j := 7) hX cl9 fl_RX10_22_9 rfl (by decide) rfl rfl dX10_stackFault_170 rfl ?_
          refine w_aload_n (i := 0) hX dX10_stackFault_173 rfl rfl rfl ?_
          refine w_getI (j := 10) hX cl9 fl_RX10_125_9 rfl (by decide) rfl dX10_stackFault_174 rfl ?_
          rw [keepR.nd _ _ (by decide) (by decide)]
          refine w_iload_n (i := 1) hX dX10_stackFault_177 rfl rfl rfl ?_
          refine w_iadd hX dX10_stackFault_178 rfl (by omega) ?_
          refine w_iald hX rfl (by omega) (by omega) dX10_stackFault_179 rfl ?_
          first | (rw [keepR.nd _ _ (by decide) (by decide)]) | skip
          refine w_iload hX dX10_stackFault_180 rfl rfl ?_
          refine c_V hX ml_RX10_166 cl9 dX10_stackFault_182 rfl (r_comes _ ((D 284 (D 279 10 + k).toNat)) _ (by omega) (by omega)) rfl rfl rfl (by decide) (Nat.le_of_ble_eq_true rfl) ?_
          rintro _ _ ⟨rfl, rfl⟩ -
          all_goals try dsimp only [Option.toList, List.cons_append, List.nil_append]
          refine w_if_eq (tgt := 197) hX dX10_stackFault_185 rfl (by decide) (fun h185 => ?_) (fun h185 => ?_)
          · rw [b2_0] at h185
            refine w_iconst hX dX10_stackFault_197 rfl (by decide) ?_
            refine w_istore hX dX10_stackFault_198 rfl (by decide) ?_
            dsimp only [st1X, st2X, klX_I, klX_L, klX_R, klX_S, klX_N]
            refine w_iload_n (i := 3) hX dX10_stackFault_200 rfl rfl rfl ?_
            refine w_bipush hX dX10_stackFault_201 rfl (by decide) ?_
            refine w_icmp_ne (tgt := 238) hX dX10_stackFault_203 rfl (by decide) (fun _ => ?_) (fun h203 => absurd (by decide) h203)
            refine w_iload_n (i := 3) hX dX10_stackFault_238 rfl rfl rfl ?_
            refine w_bipush hX dX10_stackFault_239 rfl (by decide) ?_
            refine w_icmp_ne (tgt := 256) hX dX10_stackFault_241 rfl (by decide) (fun _ => ?_) (fun h241 => absurd (by decide) h241)
            refine w_iload hX dX10_stackFault_256 rfl rfl ?_
            refine w_if_eq (tgt := 265) hX dX10_stackFault_258 rfl (by decide) (fun _ => ?_) (fun h258 => absurd (by decide) h258)
            refine w_bipush hX dX10_stackFault_265 rfl (by decide) ?_
            exact e_i hX hF dX10_stackFault_267 (by first | exact ⟨congrArg (fun x => some (vI x)) ((zq_S (by omega) (by omega)).1 ⟨h185, trivial⟩), keepR.nd.tr keepR.cm, fun _ => zq_E⟩ | exact ⟨congrArg (fun x => some (vI x)) ((zq_S (by omega) (by omega)).2 (fun zq_q => h185 zq_q.1)), keepR.nd.tr keepR.cm, fun zq_h => absurd (zq_h.symm.trans ((zq_S (by omega) (by omega)).2 (fun zq_q => h185 zq_q.1))) (by decide)⟩)
          · rw [b2_n] at h185
            refine w_iload hX dX10_stackFault_188 rfl rfl ?_
            refine w_if_eq (tgt := 197) hX dX10_stackFault_190 rfl (by decide) (fun h190 => absurd h190 (by decide)) (fun _ => ?_)
            refine w_iconst hX dX10_stackFault_193 rfl (by decide) ?_
            refine w_goto (tgt := 198) hX dX10_stackFault_194 (by decide) ?_
            refine w_istore hX dX10_stackFault_198 rfl (by decide) ?_
            dsimp only [st1X, st2X, klX_I, klX_L, klX_R, klX_S, klX_N]
            refine w_iload_n (i := 3) hX dX10_stackFault_200 rfl rfl rfl ?_
            refine w_bipush hX dX10_stackFault_201 rfl (by decide) ?_
            refine w_icmp_ne (tgt := 238) hX dX10_stackFault_203 rfl (by decide) (fun _ => ?_) (fun h203 => absurd (by decide) h203)
            refine w_iload_n (i := 3) hX dX10_stackFault_238 rfl rfl rfl ?_
            refine w_bipush hX dX10_stackFault_239 rfl (by decide) ?_
            refine w_icmp_ne (tgt := 256) hX dX10_stackFault_241 rfl (by decide) (fun _ => ?_) (fun h241 => absurd (by decide) h241)
            refine w_iload hX dX10_stackFault_256 rfl rfl ?_
            refine w_if_eq (tgt := 265) hX dX10_stackFault_258 rfl (by decide) (fun h258 => absurd h258 (by decide)) (fun _ => ?_)
            refine w_iconst hX dX10_stackFault_261 rfl (by decide) ?_
            refine w_goto (tgt := 267) hX dX10_stackFault_262 (by decide) ?_
            exact e_i hX hF dX10_stackFault_267 (by first | exact ⟨congrArg (fun x => some (vI x)) ((zq_S (by omega) (by omega)).1 ⟨h185, trivial⟩), keepR.nd.tr keepR.cm, fun _ => zq_E⟩ | exact ⟨congrArg (fun x => some (vI x)) ((zq_S (by omega) (by omega)).2 (fun zq_q => h185 zq_q.1)), keepR.nd.tr keepR.cm, fun zq_h => absurd (zq_h.symm.trans ((zq_S (by omega) (by omega)).2 (fun zq_q => h185 zq_q.1))) (by decide)⟩)
      · refine w_bipush hX dX10_stackFault_47 rfl (by decide) ?_
        exact e_i hX hF dX10_stackFault_49 ⟨by rw [skM, it_f (by omega), it_t (by omega)], keepR.rf D, fun zq_h => by rw [skM, it_f (by omega), it_t (by omega)] at zq_h; omega⟩
    · refine w_bipush hX dX10_stackFault_23 rfl (by decide) ?_
      exact e_i hX hF dX10_stackFault_25 ⟨by rw [skM, it_t (by omega)], keepR.rf D, fun zq_h => by rw [skM, it_t (by omega)] at zq_h; omega⟩

set_option maxRecDepth 100000 in
set_option maxHeartbeats 4000000 in
theorem r_sf11 (D : Dd) (hF0 : FM D) (k u : Int) (hk : 0 ≤ k ∧ k < D 279 11) (hu : 0 ≤ u ∧ u < 16) (hN : (D 283 (D 279 10 + k).toNat) = 11) (ha : 0 ≤ (D 284 (D 279 10 + k).toNat) ∧ (D 284 (D 279 10 + k).toNat) ≤ 256) (hd : 0 ≤ D 287 k.toNat ∧ D 287 k.toNat ≤ 64) (hdp : ∀ v : Nat, (v : Int) ≤ u → 0 ≤ D 291 v ∧ D 291 v ≤ 10000) : MC 2 yX10_stackFault cX10_stackFault 7 (some .int) [vR 279, vI k, vI u] D (fun r D2 => some (vI (skM D k u 11 ((D 284 (D 279 10 + k).toNat)) ((D 285 (D 279 10 + k).toNat)))) = r ∧ keepR D D2 ∧ (skM D k u 11 ((D 284 (D 279 10 + k).toNat)) ((D 285 (D 279 10 + k).toNat)) = 0 → skMD D k u 11 ((D 284 (D 279 10 + k).toNat)) ((D 285 (D 279 10 + k).toNat)) = D2)) := by
  refine MC.mk [vR 279, vI k, vI u, vN, vN, vN, vN] (by decide) (Nat.le_of_ble_eq_true rfl) rfl (fun X Q hX hF hok hol => ?_)
  have zq_F := hF0
  unfold FM at hF0
  have zq_t := tk_in (11)
  have zq_l := lf_in (11)
  have zq_g : tgM 11 k ((D 284 (D 279 10 + k).toNat)) ((D 285 (D 279 10 + k).toNat)) (D 279 11) = [k + 1, (D 284 (D 279 10 + k).toNat)] := by unfold tgM; rw [if_neg (by omega), if_pos (by omega)]
  have zq_m : mrF D 11 ((D 284 (D 279 10 + k).toNat)) = 0 := by unfold mrF; rw [if_neg (by omega)]
  have zq_u := hdp u.toNat (by omega)
  have zq_S : ¬ D 287 k.toNat < tk 11 → ¬ 64 < (D 287 k.toNat - tk 11 + lf 11) → (cmLM (D 287 k.toNat - tk 11 + lf 11) (ndM D u ((D 287 k.toNat - tk 11 + lf 11) + mrF D 11 ((D 284 (D 279 10 + k).toNat)))) [k + 1, (D 284 (D 279 10 + k).toNat)] → skM D k u 11 ((D 284 (D 279 10 + k).toNat)) ((D 285 (D 279 10 + k).toNat)) = 0) ∧ (¬ cmLM (D 287 k.toNat - tk 11 + lf 11) (ndM D u ((D 287 k.toNat - tk 11 + lf 11) + mrF D 11 ((D 284 (D 279 10 + k).toNat)))) [k + 1, (D 284 (D 279 10 + k).toNat)] → skM D k u 11 ((D 284 (D 279 10 + k).toNat)) ((D 285 (D 279 10 + k).toNat)) = 10) := by
    intro zq_1 zq_2
    constructor
    · intro zq_L; rw [skM, it_f zq_1, it_f zq_2, zq_g, it_f (fun zq_q => zq_q zq_L)]
    · intro zq_L; rw [skM, it_f zq_1, it_f zq_2, zq_g, it_t zq_L]
  have zq_E : skMD D k u 11 ((D 284 (D 279 10 + k).toNat)) ((D 285 (D 279 10 + k).toNat)) = cmEM (D 287 k.toNat - tk 11 + lf 11) (ndM D u ((D 287 k.toNat - tk 11 + lf 11) + mrF D 11 ((D 284 (D 279 10 + k).toNat)))) [k + 1, (D 284 (D 279 10 + k).toNat)] := by rw [skMD, zq_g]
  refine w_aload_n (i := 0) hX dX10_stackFault_0 rfl rfl rfl ?_
  refine w_iload_n (i := 1) hX dX10_stackFault_1 rfl rfl rfl ?_
  refine c_V hX ml_RX10_128 cl9 dX10_stackFault_2 rfl (r_numberAt D zq_F k hk) rfl rfl rfl (by decide) (Nat.le_of_ble_eq_true rfl) ?_
  rintro _ _ ⟨rfl, rfl⟩ -
  rw [hN]
  all_goals try dsimp only [Option.toList, List.cons_append, List.nil_append]
  · refine w_istore_n (i := 3) hX dX10_stackFault_5 rfl rfl (by decide) ?_
    dsimp only [st1X, st2X, klX_I, klX_L, klX_R, klX_S, klX_N]
    refine w_aload_n (i := 0) hX dX10_stackFault_6 rfl rfl rfl ?_
    refine w_getR (j := 12) hX cl9 fl_RX10_31_9 rfl (by decide) rfl rfl dX10_stackFault_7 rfl ?_
    refine w_iload_n (i := 1) hX dX10_stackFault_10 rfl rfl rfl ?_
    refine w_iald hX rfl (by omega) (by omega) dX10_stackFault_11 rfl ?_
    refine w_istore hX dX10_stackFault_12 rfl (by decide) ?_
    dsimp only [st1X, st2X, klX_I, klX_L, klX_R, klX_S, klX_N]
    refine w_iload_n (i := 3) hX dX10_stackFault_14 rfl rfl rfl ?_
    refine c_S hX ml_RX10_160 dX10_stackFault_15 rfl (r_taken D 11) rfl rfl (by decide) (Nat.le_of_ble_eq_true rfl) ?_
    rintro _ _ ⟨rfl, rfl⟩ -
    all_goals try dsimp only [Option.toList, List.cons_append, List.nil_append]
    refine w_iload hX dX10_stackFault_18 rfl rfl ?_
    refine w_icmp_le (tgt := 26) hX dX10_stackFault_20 rfl (by decide) (fun h20 => ?_) (fun h20 => ?_)
    · refine w_iload hX dX10_stackFault_26 rfl rfl ?_
      refine w_iload_n (i := 3) hX dX10_stackFault_28 rfl rfl rfl ?_
      refine c_S hX ml_RX10_160 dX10_stackFault_29 rfl (r_taken D 11) rfl rfl (by decide) (Nat.le_of_ble_eq_true rfl) ?_
      rintro _ _ ⟨rfl, rfl⟩ -
      all_goals try dsimp only [Option.toList, List.cons_append, List.nil_append]
      refine w_isub hX dX10_stackFault_32 rfl (by omega) ?_
      refine w_iload_n (i := 3) hX dX10_stackFault_33 rfl rfl rfl ?_
      refine c_S hX ml_RX10_163 dX10_stackFault_34 rfl (r_left D 11 (by omega)) rfl rfl (by decide) (Nat.le_of_ble_eq_true rfl) ?_
      rintro _ _ ⟨rfl, rfl⟩ -
      all_goals try dsimp only [Option.toList, List.cons_append, List.nil_append]
      refine w_iadd hX dX10_stackFault_37 rfl (by omega) ?_
      refine w_istore hX dX10_stackFault_38 rfl (by decide) ?_
      dsimp only [st1X, st2X, klX_I, klX_L, klX_R, klX_S, klX_N]
      refine w_iload hX dX10_stackFault_40 rfl rfl ?_
      refine w_bipush hX dX10_stackFault_42 rfl (by decide) ?_
      refine w_icmp_le (tgt := 50) hX dX10_stackFault_44 rfl (by decide) (fun h44 => ?_) (fun h44 => ?_)
      · refine w_iload_n (i := 3) hX dX10_stackFault_50 rfl rfl rfl ?_
        refine w_bipush hX dX10_stackFault_51 rfl (by decide) ?_
        refine w_icmp_eq (tgt := 62) hX dX10_stackFault_53 rfl (by decide) (fun h53 => absurd h53 (by decide)) (fun _ => ?_)
        refine w_iload_n (i := 3) hX dX10_stackFault_56 rfl rfl rfl ?_
        refine w_bipush hX dX10_stackFault_57 rfl (by decide) ?_
        refine w_icmp_ne (tgt := 81) hX dX10_stackFault_59 rfl (by decide) (fun _ => ?_) (fun h59 => absurd (by decide) h59)
        refine w_iconst hX dX10_stackFault_81 rfl (by decide) ?_
        refine w_istore hX dX10_stackFault_82 rfl (by decide) ?_
        dsimp only [st1X, st2X, klX_I, klX_L, klX_R, klX_S, klX_N]
        refine w_aload_n (i := 0) hX dX10_stackFault_84 rfl rfl rfl ?_
        refine w_getR (j := 16) hX cl9 fl_RX10_44_9 rfl (by decide) rfl rfl dX10_stackFault_85 rfl ?_
        refine w_iload_n (i := 2) hX dX10_stackFault_88 rfl rfl rfl ?_
        refine w_iload hX dX10_stackFault_89 rfl rfl ?_
        refine w_iload hX dX10_stackFault_91 rfl rfl ?_
        refine w_iadd hX dX10_stackFault_93 rfl (by omega) ?_
        refine w_aload_n (i := 0) hX dX10_stackFault_94 rfl rfl rfl ?_
        refine w_getR (j := 16) hX cl9 fl_RX10_44_9 rfl (by decide) rfl rfl dX10_stackFault_95 rfl ?_
        refine w_iload_n (i := 2) hX dX10_stackFault_98 rfl rfl rfl ?_
        refine w_iald hX rfl (by omega) (by omega) dX10_stackFault_99 rfl ?_
        refine w_icmp_le (tgt := 111) hX dX10_stackFault_100 rfl (by decide) (fun h100 => ?_) (fun h100 => ?_)
        · refine w_aload_n (i := 0) hX dX10_stackFault_111 rfl rfl rfl ?_
          refine w_getR (j := 16) hX cl9 fl_RX10_44_9 rfl (by decide) rfl rfl dX10_stackFault_112 rfl ?_
          refine w_iload_n (i := 2) hX dX10_stackFault_115 rfl rfl rfl ?_
          refine w_iald hX rfl (by omega) (by omega) dX10_stackFault_116 rfl ?_
          refine w_iast hX rfl (by omega) (by omega) dX10_stackFault_117 rfl ?_
          rw [show upD D 291 u.toNat _ = ndM D u ((D 287 k.toNat - tk 11 + lf 11) + mrF D 11 ((D 284 (D 279 10 + k).toNat))) by unfold ndM; rw [zq_m]; first | rw [if_pos (by omega)] | rw [if_neg (by omega)]]
          refine w_iconst hX dX10_stackFault_118 rfl (by decide) ?_
          refine w_istore hX dX10_stackFault_119 rfl (by decide) ?_
          dsimp only [st1X, st2X, klX_I, klX_L, klX_R, klX_S, klX_N]
          refine w_iload_n (i := 3) hX dX10_stackFault_121 rfl rfl rfl ?_
          refine w_bipush hX dX10_stackFault_122 rfl (by decide) ?_
          refine w_icmp_eq (tgt := 150) hX dX10_stackFault_124 rfl (by decide) (fun h124 => absurd h124 (by decide)) (fun _ => ?_)
          refine w_iload_n (i := 3) hX dX10_stackFault_127 rfl rfl rfl ?_
          refine w_bipush hX dX10_stackFault_128 rfl (by decide) ?_
          refine w_icmp_eq (tgt := 150) hX dX10_stackFault_130 rfl (by decide) (fun h130 => absurd h130 (by decide)) (fun _ => ?_)
          refine w_iload_n (i := 3) hX dX10_stackFault_133 rfl rfl rfl ?_
          refine w_bipush hX dX10_stackFault_134 rfl (by decide) ?_
          refine w_icmp_eq (tgt := 150) hX dX10_stackFault_136 rfl (by decide) (fun h136 => absurd h136 (by decide)) (fun _ => ?_)
          refine w_aload_n (i := 0) hX dX10_stackFault_139 rfl rfl rfl ?_
          refine w_iload_n (i := 1) hX dX10_stackFault_140 rfl rfl rfl ?_
          refine w_iconst hX dX10_stackFault_141 rfl (by decide) ?_
          refine w_iadd hX dX10_stackFault_142 rfl (by omega) ?_
          refine w_iload hX dX10_stackFault_143 rfl rfl ?_
          refine c_V hX ml_RX10_166 cl9 dX10_stackFault_145 rfl (r_comes _ (k + 1) _ (by omega) (by omega)) rfl rfl rfl (by decide) (Nat.le_of_ble_eq_true rfl) ?_
          rintro _ _ ⟨rfl, rfl⟩ -
          all_goals try dsimp only [Option.toList, List.cons_append, List.nil_append]
          refine w_istore hX dX10_stackFault_148 rfl (by decide) ?_
          dsimp only [st1X, st2X, klX_I, klX_L, klX_R, klX_S, klX_N]
          refine w_iload_n (i := 3) hX dX10_stackFault_150 rfl rfl rfl ?_
          refine w_bipush hX dX10_stackFault_151 rfl (by decide) ?_
          refine w_icmp_eq (tgt := 168) hX dX10_stackFault_153 rfl (by decide) (fun h153 => absurd h153 (by decide)) (fun _ => ?_)
          refine w_iload_n (i := 3) hX dX10_stackFault_156 rfl rfl rfl ?_
          refine w_bipush hX dX10_stackFault_157 rfl (by decide) ?_
          refine w_icmp_eq (tgt := 168) hX dX10_stackFault_159 rfl (by decide) (fun _ => ?_) (fun h159 => absurd (by decide) h159)
          refine w_aload_n (i := 0) hX dX10_stackFault_168 rfl rfl rfl ?_
          refine w_aload_n (i := 0) hX dX10_stackFault_169 rfl rfl rfl ?_
          refine w_getR (j := 7) hX cl9 fl_RX10_22_9 rfl (by decide) rfl rfl dX10_stackFault_170 rfl ?_
          refine w_aload_n (i := 0) hX dX10_stackFault_173 rfl rfl rfl ?_
          refine w_getI (j := 10) hX cl9 fl_RX10_125_9 rfl (by decide) rfl dX10_stackFault_174 rfl ?_
          rw [(keepR.nd.tr keepR.cm) _ _ (by decide) (by decide)]
          refine w_iload_n (i := 1) hX dX10_stackFault_177 rfl rfl rfl ?_
          refine w_iadd hX dX10_stackFault_178 rfl (by omega) ?_
          refine w_iald hX rfl (by omega) (by omega) dX10_stackFault_179 rfl ?_
          first | (rw [(keepR.nd.tr keepR.cm) _ _ (by decide) (by decide)]) | skip
          refine w_iload hX dX10_stackFault_180 rfl rfl ?_
          refine c_V hX ml_RX10_166 cl9 dX10_stackFault_182 rfl (r_comes _ ((D 284 (D 279 10 + k).toNat)) _ (by omega) (by omega)) rfl rfl rfl (by decide) (Nat.le_of_ble_eq_true rfl) ?_
          rintro _ _ ⟨rfl, rfl⟩ -
          all_goals try dsimp only [Option.toList, List.cons_append, List.nil_append]
          refine w_if_eq (tgt := 197) hX dX10_stackFault_185 rfl (by decide) (fun h185 => ?_) (fun h185 => ?_)
          · rw [b2_0] at h185
            refine w_iconst hX dX10_stackFault_197 rfl (by decide) ?_
            refine w_istore hX dX10_stackFault_198 rfl (by decide) ?_
            dsimp only [st1X, st2X, klX_I, klX_L, klX_R, klX_S, klX_N]
            refine w_iload_n (i := 3) hX dX10_stackFault_200 rfl rfl rfl ?_
            refine w_bipush hX dX10_stackFault_201 rfl (by decide) ?_
            refine w_icmp_ne (tgt := 238) hX dX10_stackFault_203 rfl (by decide) (fun _ => ?_) (fun h203 => absurd (by decide) h203)
            refine w_iload_n (i := 3) hX dX10_stackFault_238 rfl rfl rfl ?_
            refine w_bipush hX dX10_stackFault_239 rfl (by decide) ?_
            refine w_icmp_ne (tgt := 256) hX dX10_stackFault_241 rfl (by decide) (fun _ => ?_) (fun h241 => absurd (by decide) h241)
            refine w_iload hX dX10_stackFault_256 rfl rfl ?_
            refine w_if_eq (tgt := 265) hX dX10_stackFault_258 rfl (by decide) (fun _ => ?_) (fun h258 => absurd (by decide) h258)
            refine w_bipush hX dX10_stackFault_265 rfl (by decide) ?_
            exact e_i hX hF dX10_stackFault_267 (by first | exact ⟨congrArg (fun x => some (vI x)) ((zq_S (by omega) (by omega)).1 ⟨h190, h185, trivial⟩), (keepR.nd.tr keepR.cm).tr keepR.cm, fun _ => zq_E⟩ | exact ⟨congrArg (fun x => some (vI x)) ((zq_S (by omega) (by omega)).2 (fun zq_q => h190 zq_q.1)), (keepR.nd.tr keepR.cm).tr keepR.cm, fun zq_h => absurd (zq_h.symm.trans ((zq_S (by omega) (by omega)).2 (fun zq_q => h190 zq_q.1))) (by decide)⟩ | exact ⟨congrArg (fun x => some (vI x)) ((zq_S (by omega) (by omega)).2 (fun zq_q => h185 zq_q.2.1)), (keepR.nd.tr keepR.cm).tr keepR.cm, fun zq_h => absurd (zq_h.symm.trans ((zq_S (by omega) (by omega)).2 (fun zq_q => h185 zq_q.2.1))) (by decide)⟩)
          · rw [b2_n] at h185
            refine w_iload hX dX10_stackFault_188 rfl rfl ?_
            refine w_if_eq (tgt := 197) hX dX10_stackFault_190 rfl (by decide) (fun h190 => ?_) (fun h190 => ?_)
            · rw [b2_0] at h190
              refine w_iconst hX dX10_stackFault_197 rfl (by decide) ?_
              refine w_istore hX dX10_stackFault_198 rfl (by decide) ?_
              dsimp only [st1X, st2X, klX_I, klX_L, klX_R, klX_S, klX_N]
              refine w_iload_n (i := 3) hX dX10_stackFault_200 rfl rfl rfl ?_
              refine w_bipush hX dX10_stackFault_201 rfl (by decide) ?_
              refine w_icmp_ne (tgt := 238) hX dX10_stackFault_203 rfl (by decide) (fun _ => ?_) (fun h203 => absurd (by decide) h203)
              refine w_iload_n (i := 3) hX dX10_stackFault_238 rfl rfl rfl ?_
              refine w_bipush hX dX10_stackFault_239 rfl (by decide) ?_
              refine w_icmp_ne (tgt := 256) hX dX10_stackFault_241 rfl (by decide) (fun _ => ?_) (fun h241 => absurd (by decide) h241)
              refine w_iload hX dX10_stackFault_256 rfl rfl ?_
              refine w_if_eq (tgt := 265) hX dX10_stackFault_258 rfl (by decide) (fun _ => ?_) (fun h258 => absurd (by decide) h258)
              refine w_bipush hX dX10_stackFault_265 rfl (by decide) ?_
              exact e_i hX hF dX10_stackFault_267 (by first | exact ⟨congrArg (fun x => some (vI x)) ((zq_S (by omega) (by omega)).1 ⟨h190, h185, trivial⟩), (keepR.nd.tr keepR.cm).tr keepR.cm, fun _ => zq_E⟩ | exact ⟨congrArg (fun x => some (vI x)) ((zq_S (by omega) (by omega)).2 (fun zq_q => h190 zq_q.1)), (keepR.nd.tr keepR.cm).tr keepR.cm, fun zq_h => absurd (zq_h.symm.trans ((zq_S (by omega) (by omega)).2 (fun zq_q => h190 zq_q.1))) (by decide)⟩ | exact ⟨congrArg (fun x => some (vI x)) ((zq_S (by omega) (by omega)).2 (fun zq_q => h185 zq_q.2.1)), (keepR.nd.tr keepR.cm).tr keepR.cm, fun zq_h => absurd (zq_h.symm.trans ((zq_S (by omega) (by omega)).2 (fun zq_q => h185 zq_q.2.1))) (by decide)⟩)
            · rw [b2_n] at h190
              refine w_iconst hX dX10_stackFault_193 rfl (by decide) ?_
              refine w_goto (tgt := 198) hX dX10_stackFault_194 (by decide) ?_
              refine w_istore hX dX10_stackFault_198 rfl (by decide) ?_
              dsimp only [st1X, st2X, klX_I, klX_L, klX_R, klX_S, klX_N]
              refine w_iload_n (i := 3) hX dX10_stackFault_200 rfl rfl rfl ?_
              refine w_bipush hX dX10_stackFault_201 rfl (by decide) ?_
              refine w_icmp_ne (tgt := 238) hX dX10_stackFault_203 rfl (by decide) (fun _ => ?_) (fun h203 => absurd (by decide) h203)
              refine w_iload_n (i := 3) hX dX10_stackFault_238 rfl rfl rfl ?_
              refine w_bipush hX dX10_stackFault_239 rfl (by decide) ?_
              refine w_icmp_ne (tgt := 256) hX dX10_stackFault_241 rfl (by decide) (fun _ => ?_) (fun h241 => absurd (by decide) h241)
              refine w_iload hX dX10_stackFault_256 rfl rfl ?_
              refine w_if_eq (tgt := 265) hX dX10_stackFault_258 rfl (by decide) (fun h258 => absurd h258 (by decide)) (fun _ => ?_)
              refine w_iconst hX dX10_stackFault_261 rfl (by decide) ?_
              refine w_goto (tgt := 267) hX dX10_stackFault_262 (by decide) ?_
              exact e_i hX hF dX10_stackFault_267 (by first | exact ⟨congrArg (fun x => some (vI x)) ((zq_S (by omega) (by omega)).1 ⟨h190, h185, trivial⟩), (keepR.nd.tr keepR.cm).tr keepR.cm, fun _ => zq_E⟩ | exact ⟨congrArg (fun x => some (vI x)) ((zq_S (by omega) (by omega)).2 (fun zq_q => h190 zq_q.1)), (keepR.nd.tr keepR.cm).tr keepR.cm, fun zq_h => absurd (zq_h.symm.trans ((zq_S (by omega) (by omega)).2 (fun zq_q => h190 zq_q.1))) (by decide)⟩ | exact ⟨congrArg (fun x => some (vI x)) ((zq_S (by omega) (by omega)).2 (fun zq_q => h185 zq_q.2.1)), (keepR.nd.tr keepR.cm).tr keepR.cm, fun zq_h => absurd (zq_h.symm.trans ((zq_S (by omega) (by omega)).2 (fun zq_q => h185 zq_q.2.1))) (by decide)⟩)
        · refine w_iload hX dX10_stackFault_103 rfl rfl ?_
          refine w_iload hX dX10_stackFault_105 rfl rfl ?_
          refine w_iadd hX dX10_stackFault_107 rfl (by omega) ?_
          refine w_goto (tgt := 117) hX dX10_stackFault_108 (by decide) ?_
          refine w_iast hX rfl (by omega) (by omega) dX10_stackFault_117 rfl ?_
          rw [show upD D 291 u.toNat _ = ndM D u ((D 287 k.toNat - tk 11 + lf 11) + mrF D 11 ((D 284 (D 279 10 + k).toNat))) by unfold ndM; rw [zq_m]; first | rw [if_pos (by omega)] | rw [if_neg (by omega)]]
          refine w_iconst hX dX10_stackFault_118 rfl (by decide) ?_
          refine w_istore hX dX10_stackFault_119 rfl (by decide) ?_
          dsimp only [st1X, st2X, klX_I, klX_L, klX_R, klX_S, klX_N]
          refine w_iload_n (i := 3) hX dX10_stackFault_121 rfl rfl rfl ?_
          refine w_bipush hX dX10_stackFault_122 rfl (by decide) ?_
          refine w_icmp_eq (tgt := 150) hX dX10_stackFault_124 rfl (by decide) (fun h124 => absurd h124 (by decide)) (fun _ => ?_)
          refine w_iload_n (i := 3) hX dX10_stackFault_127 rfl rfl rfl ?_
          refine w_bipush hX dX10_stackFault_128 rfl (by decide) ?_
          refine w_icmp_eq (tgt := 150) hX dX10_stackFault_130 rfl (by decide) (fun h130 => absurd h130 (by decide)) (fun _ => ?_)
          refine w_iload_n (i := 3) hX dX10_stackFault_133 rfl rfl rfl ?_
          refine w_bipush hX dX10_stackFault_134 rfl (by decide) ?_
          refine w_icmp_eq (tgt := 150) hX dX10_stackFault_136 rfl (by decide) (fun h136 => absurd h136 (by decide)) (fun _ => ?_)
          refine w_aload_n (i := 0) hX dX10_stackFault_139 rfl rfl rfl ?_
          refine w_iload_n (i := 1) hX dX10_stackFault_140 rfl rfl rfl ?_
          refine w_iconst hX dX10_stackFault_141 rfl (by decide) ?_
          refine w_iadd hX dX10_stackFault_142 rfl (by omega) ?_
          refine w_iload hX dX10_stackFault_143 rfl rfl ?_
          refine c_V hX ml_RX10_166 cl9 dX10_stackFault_145 rfl (r_comes _ (k + 1) _ (by omega) (by omega)) rfl rfl rfl (by decide) (Nat.le_of_ble_eq_true rfl) ?_
          rintro _ _ ⟨rfl, rfl⟩ -
          all_goals try dsimp only [Option.toList, List.cons_append, List.nil_append]
          refine w_istore hX dX10_stackFault_148 rfl (by decide) ?_
          dsimp only [st1X, st2X, klX_I, klX_L, klX_R, klX_S, klX_N]
          refine w_iload_n (i := 3) hX dX10_stackFault_150 rfl rfl rfl ?_
          refine w_bipush hX dX10_stackFault_151 rfl (by decide) ?_
          refine w_icmp_eq (tgt := 168) hX dX10_stackFault_153 rfl (by decide) (fun h153 => absurd h153 (by decide)) (fun _ => ?_)
          refine w_iload_n (i := 3) hX dX10_stackFault_156 rfl rfl rfl ?_
          refine w_bipush hX dX10_stackFault_157 rfl (by decide) ?_
          refine w_icmp_eq (tgt := 168) hX dX10_stackFault_159 rfl (by decide) (fun _ => ?_) (fun h159 => absurd (by decide) h159)
          refine w_aload_n (i := 0) hX dX10_stackFault_168 rfl rfl rfl ?_
          refine w_aload_n (i := 0) hX dX10_stackFault_169 rfl rfl rfl ?_
          refine w_getR (j := 7) hX cl9 fl_RX10_22_9 rfl (by decide) rfl rfl dX10_stackFault_170 rfl ?_
          refine w_aload_n (i := 0) hX dX10_stackFault_173 rfl rfl rfl ?_
          refine w_getI (j := 10) hX cl9 fl_RX10_125_9 rfl (by decide) rfl dX10_stackFault_174 rfl ?_
          rw [(keepR.nd.tr keepR.cm) _ _ (by decide) (by decide)]
          refine w_iload_n (i := 1) hX dX10_stackFault_177 rfl rfl rfl ?_
          refine w_iadd hX dX10_stackFault_178 rfl (by omega) ?_
          refine w_iald hX rfl (by omega) (by omega) dX10_stackFault_179 rfl ?_
          first | (rw [(keepR.nd.tr keepR.cm) _ _ (by decide) (by decide)]) | skip
          refine w_iload hX dX10_stackFault_180 rfl rfl ?_
          refine c_V hX ml_RX10_166 cl9 dX10_stackFault_182 rfl (r_comes _ ((D 284 (D 279 10 + k).toNat)) _ (by omega) (by omega)) rfl rfl rfl (by decide) (Nat.le_of_ble_eq_true rfl) ?_
          rintro _ _ ⟨rfl, rfl⟩ -
          all_goals try dsimp only [Option.toList, List.cons_append, List.nil_append]
          refine w_if_eq (tgt := 197) hX dX10_stackFault_185 rfl (by decide) (fun h185 => ?_) (fun h185 => ?_)
          · rw [b2_0] at h185
            refine w_iconst hX dX10_stackFault_197 rfl (by decide) ?_
            refine w_istore hX dX10_stackFault_198 rfl (by decide) ?_
            dsimp only [st1X, st2X, klX_I, klX_L, klX_R, klX_S, klX_N]
            refine w_iload_n (i := 3) hX dX10_stackFault_200 rfl rfl rfl ?_
            refine w_bipush hX dX10_stackFault_201 rfl (by decide) ?_
            refine w_icmp_ne (tgt := 238) hX dX10_stackFault_203 rfl (by decide) (fun _ => ?_) (fun h203 => absurd (by decide) h203)
            refine w_iload_n (i := 3) hX dX10_stackFault_238 rfl rfl rfl ?_
            refine w_bipush hX dX10_stackFault_239 rfl (by decide) ?_
            refine w_icmp_ne (tgt := 256) hX dX10_stackFault_241 rfl (by decide) (fun _ => ?_) (fun h241 => absurd (by decide) h241)
            refine w_iload hX dX10_stackFault_256 rfl rfl ?_
            refine w_if_eq (tgt := 265) hX dX10_stackFault_258 rfl (by decide) (fun _ => ?_) (fun h258 => absurd (by decide) h258)
            refine w_bipush hX dX10_stackFault_265 rfl (by decide) ?_
            exact e_i hX hF dX10_stackFault_267 (by first | exact ⟨congrArg (fun x => some (vI x)) ((zq_S (by omega) (by omega)).1 ⟨h190, h185, trivial⟩), (keepR.nd.tr keepR.cm).tr keepR.cm, fun _ => zq_E⟩ | exact ⟨congrArg (fun x => some (vI x)) ((zq_S (by omega) (by omega)).2 (fun zq_q => h190 zq_q.1)), (keepR.nd.tr keepR.cm).tr keepR.cm, fun zq_h => absurd (zq_h.symm.trans ((zq_S (by omega) (by omega)).2 (fun zq_q => h190 zq_q.1))) (by decide)⟩ | exact ⟨congrArg (fun x => some (vI x)) ((zq_S (by omega) (by omega)).2 (fun zq_q => h185 zq_q.2.1)), (keepR.nd.tr keepR.cm).tr keepR.cm, fun zq_h => absurd (zq_h.symm.trans ((zq_S (by omega) (by omega)).2 (fun zq_q => h185 zq_q.2.1))) (by decide)⟩)
          · rw [b2_n] at h185
            refine w_iload hX dX10_stackFault_188 rfl rfl ?_
            refine w_if_eq (tgt := 197) hX dX10_stackFault_190 rfl (by decide) (fun h190 => ?_) (fun h190 => ?_)
            · rw [b2_0] at h190
              refine w_iconst hX dX10_stackFault_197 rfl (by decide) ?_
              refine w_istore hX dX10_stackFault_198 rfl (by decide) ?_
              dsimp only [st1X, st2X, klX_I, klX_L, klX_R, klX_S, klX_N]
              refine w_iload_n (i := 3) hX dX10_stackFault_200 rfl rfl rfl ?_
              refine w_bipush hX dX10_stackFault_201 rfl (by decide) ?_
              refine w_icmp_ne (tgt := 238) hX dX10_stackFault_203 rfl (by decide) (fun _ => ?_) (fun h203 => absurd (by decide) h203)
              refine w_iload_n (i := 3) hX dX10_stackFault_238 rfl rfl rfl ?_
              refine w_bipush hX dX10_stackFault_239 rfl (by decide) ?_
              refine w_icmp_ne (tgt := 256) hX dX10_stackFault_241 rfl (by decide) (fun _ => ?_) (fun h241 => absurd (by decide) h241)
              refine w_iload hX dX10_stackFault_256 rfl rfl ?_
              refine w_if_eq (tgt := 265) hX dX10_stackFault_258 rfl (by decide) (fun _ => ?_) (fun h258 => absurd (by decide) h258)
              refine w_bipush hX dX10_stackFault_265 rfl (by decide) ?_
              exact e_i hX hF dX10_stackFault_267 (by first | exact ⟨congrArg (fun x => some (vI x)) ((zq_S (by omega) (by omega)).1 ⟨h190, h185, trivial⟩), (keepR.nd.tr keepR.cm).tr keepR.cm, fun _ => zq_E⟩ | exact ⟨congrArg (fun x => some (vI x)) ((zq_S (by omega) (by omega)).2 (fun zq_q => h190 zq_q.1)), (keepR.nd.tr keepR.cm).tr keepR.cm, fun zq_h => absurd (zq_h.symm.trans ((zq_S (by omega) (by omega)).2 (fun zq_q => h190 zq_q.1))) (by decide)⟩ | exact ⟨congrArg (fun x => some (vI x)) ((zq_S (by omega) (by omega)).2 (fun zq_q => h185 zq_q.2.1)), (keepR.nd.tr keepR.cm).tr keepR.cm, fun zq_h => absurd (zq_h.symm.trans ((zq_S (by omega) (by omega)).2 (fun zq_q => h185 zq_q.2.1))) (by decide)⟩)
            · rw [b2_n] at h190
              refine w_iconst hX dX10_stackFault_193 rfl (by decide) ?_
              refine w_goto (tgt := 198) hX dX10_stackFault_194 (by decide) ?_
              refine w_istore hX dX10_stackFault_198 rfl (by decide) ?_
              dsimp only [st1X, st2X, klX_I, klX_L, klX_R, klX_S, klX_N]
              refine w_iload_n (i := 3) hX dX10_stackFault_200 rfl rfl rfl ?_
              refine w_bipush hX dX10_stackFault_201 rfl (by decide) ?_
              refine w_icmp_ne (tgt := 238) hX dX10_stackFault_203 rfl (by decide) (fun _ => ?_) (fun h203 => absurd (by decide) h203)
              refine w_iload_n (i := 3) hX dX10_stackFault_238 rfl rfl rfl ?_
              refine w_bipush hX dX10_stackFault_239 rfl (by decide) ?_
              refine w_icmp_ne (tgt := 256) hX dX10_stackFault_241 rfl (by decide) (fun _ => ?_) (fun h241 => absurd (by decide) h241)
              refine w_iload hX dX10_stackFault_256 rfl rfl ?_
              refine w_if_eq (tgt := 265) hX dX10_stackFault_258 rfl (by decide) (fun h258 => absurd h258 (by decide)) (fun _ => ?_)
              refine w_iconst hX dX10_stackFault_261 rfl (by decide) ?_
              refine w_goto (tgt := 267) hX dX10_stackFault_262 (by decide) ?_
              exact e_i hX hF dX10_stackFault_267 (by first | exact ⟨congrArg (fun x => some (vI x)) ((zq_S (by omega) (by omega)).1 ⟨h190, h185, trivial⟩), (keepR.nd.tr keepR.cm).tr keepR.cm, fun _ => zq_E⟩ | exact ⟨congrArg (fun x => some (vI x)) ((zq_S (by omega) (by omega)).2 (fun zq_q => h190 zq_q.1)), (keepR.nd.tr keepR.cm).tr keepR.cm, fun zq_h => absurd (zq_h.symm.trans ((zq_S (by omega) (by omega)).2 (fun zq_q => h190 zq_q.1))) (by decide)⟩ | exact ⟨congrArg (fun x => some (vI x)) ((zq_S (by omega) (by omega)).2 (fun zq_q => h185 zq_q.2.1)), (keepR.nd.tr keepR.cm).tr keepR.cm, fun zq_h => absurd (zq_h.symm.trans ((zq_S (by omega) (by omega)).2 (fun zq_q => h185 zq_q.2.1))) (by decide)⟩)
      · refine w_bipush hX dX10_stackFault_47 rfl (by decide) ?_
        exact e_i hX hF dX10_stackFault_49 ⟨by rw [skM, it_f (by omega), it_t (by omega)], keepR.rf D, fun zq_h => by rw [skM, it_f (by omega), it_t (by omega)] at zq_h; omega⟩
    · refine w_bipush hX dX10_stackFault_23 rfl (by decide) ?_
      exact e_i hX hF dX10_stackFault_25 ⟨by rw [skM, it_t (by omega)], keepR.rf D, fun zq_h => by rw [skM, it_t (by omega)] at zq_h; omega⟩

set_option maxRecDepth 100000 in
set_option maxHeartbeats 4000000 in
theorem r_sf13 (D : Dd) (hF0 : FM D) (k u : Int) (hk : 0 ≤ k ∧ k < D 279 11) (hu : 0 ≤ u ∧ u < 16) (hN : (D 283 (D 279 10 + k).toNat) = 13) (ha : 0 ≤ (D 285 (D 279 10 + k).toNat) ∧ (D 285 (D 279 10 + k).toNat) ≤ 256) (hd : 0 ≤ D 287 k.toNat ∧ D 287 k.toNat ≤ 64) (hdp : ∀ v : Nat, (v : Int) ≤ u → 0 ≤ D 291 v ∧ D 291 v ≤ 10000) : MC 2 yX10_stackFault cX10_stackFault 7 (some .int) [vR 279, vI k, vI u] D (fun r D2 => some (vI (skM D k u 13 ((D 284 (D 279 10 + k).toNat)) ((D 285 (D 279 10 + k).toNat)))) = r ∧ keepR D D2 ∧ (skM D k u 13 ((D 284 (D 279 10 + k).toNat)) ((D 285 (D 279 10 + k).toNat)) = 0 → skMD D k u 13 ((D 284 (D 279 10 + k).toNat)) ((D 285 (D 279 10 + k).toNat)) = D2)) := by
  refine MC.mk [vR 279, vI k, vI u, vN, vN, vN, vN] (by decide) (Nat.le_of_ble_eq_true rfl) rfl (fun X Q hX hF hok hol => ?_)
  have zq_F := hF0
  unfold FM at hF0
  have zq_t := tk_in (13)
  have zq_l := lf_in (13)
  have zq_g : tgM 13 k ((D 284 (D 279 10 + k).toNat)) ((D 285 (D 279 10 + k).toNat)) (D 279 11) = [k + 1, (D 285 (D 279 10 + k).toNat)] := by unfold tgM; rw [if_neg (by omega), if_neg (by omega), if_pos (by omega)]
  have zq_m : mrF D 13 ((D 284 (D 279 10 + k).toNat)) = 0 := by unfold mrF; rw [if_neg (by omega)]
  have zq_u := hdp u.toNat (by omega)
  have zq_S : ¬ D 287 k.toNat < tk 13 → ¬ 64 < (D 287 k.toNat - tk 13 + lf 13) → (cmLM (D 287 k.toNat - tk 13 + lf 13) (ndM D u ((D 287 k.toNat - tk 13 + lf 13) + mrF D 13 ((D 284 (D 279 10 + k).toNat)))) [k + 1, (D 285 (D 279 10 + k).toNat)] → skM D k u 13 ((D 284 (D 279 10 + k).toNat)) ((D 285 (D 279 10 + k).toNat)) = 0) ∧ (¬ cmLM (D 287 k.toNat - tk 13 + lf 13) (ndM D u ((D 287 k.toNat - tk 13 + lf 13) + mrF D 13 ((D 284 (D 279 10 + k).toNat)))) [k + 1, (D 285 (D 279 10 + k).toNat)] → skM D k u 13 ((D 284 (D 279 10 + k).toNat)) ((D 285 (D 279 10 + k).toNat)) = 10) := by
    intro zq_1 zq_2
    constructor
    · intro zq_L; rw [skM, it_f zq_1, it_f zq_2, zq_g, it_f (fun zq_q => zq_q zq_L)]
    · intro zq_L; rw [skM, it_f zq_1, it_f zq_2, zq_g, it_t zq_L]
  have zq_E : skMD D k u 13 ((D 284 (D 279 10 + k).toNat)) ((D 285 (D 279 10 + k).toNat)) = cmEM (D 287 k.toNat - tk 13 + lf 13) (ndM D u ((D 287 k.toNat - tk 13 + lf 13) + mrF D 13 ((D 284 (D 279 10 + k).toNat)))) [k + 1, (D 285 (D 279 10 + k).toNat)] := by rw [skMD, zq_g]
  refine w_aload_n (i := 0) hX dX10_stackFault_0 rfl rfl rfl ?_
  refine w_iload_n (i := 1) hX dX10_stackFault_1 rfl rfl rfl ?_
  refine c_V hX ml_RX10_128 cl9 dX10_stackFault_2 rfl (r_numberAt D zq_F k hk) rfl rfl rfl (by decide) (Nat.le_of_ble_eq_true rfl) ?_
  rintro _ _ ⟨rfl, rfl⟩ -
  rw [hN]
  all_goals try dsimp only [Option.toList, List.cons_append, List.nil_append]
  · refine w_istore_n (i := 3) hX dX10_stackFault_5 rfl rfl (by decide) ?_
    dsimp only [st1X, st2X, klX_I, klX_L, klX_R, klX_S, klX_N]
    refine w_aload_n (i := 0) hX dX10_stackFault_6 rfl rfl rfl ?_
    refine w_getR (j := 12) hX cl9 fl_RX10_31_9 rfl (by decide) rfl rfl dX10_stackFault_7 rfl ?_
    refine w_iload_n (i := 1) hX dX10_stackFault_10 rfl rfl rfl ?_
    refine w_iald hX rfl (by omega) (by omega) dX10_stackFault_11 rfl ?_
    refine w_istore hX dX10_stackFault_12 rfl (by decide) ?_
    dsimp only [st1X, st2X, klX_I, klX_L, klX_R, klX_S, klX_N]
    refine w_iload_n (i := 3) hX dX10_stackFault_14 rfl rfl rfl ?_
    refine c_S hX ml_RX10_160 dX10_stackFault_15 rfl (r_taken D 13) rfl rfl (by decide) (Nat.le_of_ble_eq_true rfl) ?_
    rintro _ _ ⟨rfl, rfl⟩ -
    all_goals try dsimp only [Option.toList, List.cons_append, List.nil_append]
    refine w_iload hX dX10_stackFault_18 rfl rfl ?_
    refine w_icmp_le (tgt := 26) hX dX10_stackFault_20 rfl (by decide) (fun h20 => ?_) (fun h20 => ?_)
    · refine w_iload hX dX10_stackFault_26 rfl rfl ?_
      refine w_iload_n (i := 3) hX dX10_stackFault_28 rfl rfl rfl ?_
      refine c_S hX ml_RX10_160 dX10_stackFault_29 rfl (r_taken D 13) rfl rfl (by decide) (Nat.le_of_ble_eq_true rfl) ?_
      rintro _ _ ⟨rfl, rfl⟩ -
      all_goals try dsimp only [Option.toList, List.cons_append, List.nil_append]
      refine w_isub hX dX10_stackFault_32 rfl (by omega) ?_
      refine w_iload_n (i := 3) hX dX10_stackFault_33 rfl rfl rfl ?_
      refine c_S hX ml_RX10_163 dX10_stackFault_34 rfl (r_left D 13 (by omega)) rfl rfl (by decide) (Nat.le_of_ble_eq_true rfl) ?_
      rintro _ _ ⟨rfl, rfl⟩ -
      all_goals try dsimp only [Option.toList, List.cons_append, List.nil_append]
      refine w_iadd hX dX10_stackFault_37 rfl (by omega) ?_
      refine w_istore hX dX10_stackFault_38 rfl (by decide) ?_
      dsimp only [st1X, st2X, klX_I, klX_L, klX_R, klX_S, klX_N]
      refine w_iload hX dX10_stackFault_40 rfl rfl ?_
      refine w_bipush hX dX10_stackFault_42 rfl (by decide) ?_
      refine w_icmp_le (tgt := 50) hX dX10_stackFault_44 rfl (by decide) (fun h44 => ?_) (fun h44 => ?_)
      · refine w_iload_n (i := 3) hX dX10_stackFault_50 rfl rfl rfl ?_
        refine w_bipush hX dX10_stackFault_51 rfl (by decide) ?_
        refine w_icmp_eq (tgt := 62) hX dX10_stackFault_53 rfl (by decide) (fun h53 => absurd h53 (by decide)) (fun _ => ?_)
        refine w_iload_n (i := 3) hX dX10_stackFault_56 rfl rfl rfl ?_
        refine w_bipush hX dX10_stackFault_57 rfl (by decide) ?_
        refine w_icmp_ne (tgt := 81) hX dX10_stackFault_59 rfl (by decide) (fun _ => ?_) (fun h59 => absurd (by decide) h59)
        refine w_iconst hX dX10_stackFault_81 rfl (by decide) ?_
        refine w_istore hX dX10_stackFault_82 rfl (by decide) ?_
        dsimp only [st1X, st2X, klX_I, klX_L, klX_R, klX_S, klX_N]
        refine w_aload_n (i := 0) hX dX10_stackFault_84 rfl rfl rfl ?_
        refine w_getR (j := 16) hX cl9 fl_RX10_44_9 rfl (by decide) rfl rfl dX10_stackFault_85 rfl ?_
        refine w_iload_n (i := 2) hX dX10_stackFault_88 rfl rfl rfl ?_
        refine w_iload hX dX10_stackFault_89 rfl rfl ?_
        refine w_iload hX dX10_stackFault_91 rfl rfl ?_
        refine w_iadd hX dX10_stackFault_93 rfl (by omega) ?_
        refine w_aload_n (i := 0) hX dX10_stackFault_94 rfl rfl rfl ?_
        refine w_getR (j := 16) hX cl9 fl_RX10_44_9 rfl (by decide) rfl rfl dX10_stackFault_95 rfl ?_
        refine w_iload_n (i := 2) hX dX10_stackFault_98 rfl rfl rfl ?_
        refine w_iald hX rfl (by omega) (by omega) dX10_stackFault_99 rfl ?_
        refine w_icmp_le (tgt := 111) hX dX10_stackFault_100 rfl (by decide) (fun h100 => ?_) (fun h100 => ?_)
        · refine w_aload_n (i := 0) hX dX10_stackFault_111 rfl rfl rfl ?_
          refine w_getR (j := 16) hX cl9 fl_RX10_44_9 rfl (by decide) rfl rfl dX10_stackFault_112 rfl ?_
          refine w_iload_n (i := 2) hX dX10_stackFault_115 rfl rfl rfl ?_
          refine w_iald hX rfl (by omega) (by omega) dX10_stackFault_116 rfl ?_
          refine w_iast hX rfl (by omega) (by omega) dX10_stackFault_117 rfl ?_
          rw [show upD D 291 u.toNat _ = ndM D u ((D 287 k.toNat - tk 13 + lf 13) + mrF D 13 ((D 284 (D 279 10 + k).toNat))) by unfold ndM; rw [zq_m]; first | rw [if_pos (by omega)] | rw [if_neg (by omega)]]
          refine w_iconst hX dX10_stackFault_118 rfl (by decide) ?_
          refine w_istore hX dX10_stackFault_119 rfl (by decide) ?_
          dsimp only [st1X, st2X, klX_I, klX_L, klX_R, klX_S, klX_N]
          refine w_iload_n (i := 3) hX dX10_stackFault_121 rfl rfl rfl ?_
          refine w_bipush hX dX10_stackFault_122 rfl (by decide) ?_
          refine w_icmp_eq (tgt := 150) hX dX10_stackFault_124 rfl (by decide) (fun h124 => absurd h124 (by decide)) (fun _ => ?_)
          refine w_iload_n (i := 3) hX dX10_stackFault_127 rfl rfl rfl ?_
          refine w_bipush hX dX10_stackFault_128 rfl (by decide) ?_
          refine w_icmp_eq (tgt := 150) hX dX10_stackFault_130 rfl (by decide) (fun h130 => absurd h130 (by decide)) (fun _ => ?_)
          refine w_iload_n (i := 3) hX dX10_stackFault_133 rfl rfl rfl ?_
          refine w_bipush hX dX10_stackFault_134 rfl (by decide) ?_
          refine w_icmp_eq (tgt := 150) hX dX10_stackFault_136 rfl (by decide) (fun h136 => absurd h136 (by decide)) (fun _ => ?_)
          refine w_aload_n (i := 0) hX dX10_stackFault_139 rfl rfl rfl ?_
          refine w_iload_n (i := 1) hX dX10_stackFault_140 rfl rfl rfl ?_
          refine w_iconst hX dX10_stackFault_141 rfl (by decide) ?_
          refine w_iadd hX dX10_stackFault_142 rfl (by omega) ?_
          refine w_iload hX dX10_stackFault_143 rfl rfl ?_
          refine c_V hX ml_RX10_166 cl9 dX10_stackFault_145 rfl (r_comes _ (k + 1) _ (by omega) (by omega)) rfl rfl rfl (by decide) (Nat.le_of_ble_eq_true rfl) ?_
          rintro _ _ ⟨rfl, rfl⟩ -
          all_goals try dsimp only [Option.toList, List.cons_append, List.nil_append]
          refine w_istore hX dX10_stackFault_148 rfl (by decide) ?_
          dsimp only [st1X, st2X, klX_I, klX_L, klX_R, klX_S, klX_N]
          refine w_iload_n (i := 3) hX dX10_stackFault_150 rfl rfl rfl ?_
          refine w_bipush hX dX10_stackFault_151 rfl (by decide) ?_
          refine w_icmp_eq (tgt := 168) hX dX10_stackFault_153 rfl (by decide) (fun h153 => absurd h153 (by decide)) (fun _ => ?_)
          refine w_iload_n (i := 3) hX dX10_stackFault_156 rfl rfl rfl ?_
          refine w_bipush hX dX10_stackFault_157 rfl (by decide) ?_
          refine w_icmp_eq (tgt := 168) hX dX10_stackFault_159 rfl (by decide) (fun h159 => absurd h159 (by decide)) (fun _ => ?_)
          refine w_iload_n (i := 3) hX dX10_stackFault_162 rfl rfl rfl ?_
          refine w_bipush hX dX10_stackFault_163 rfl (by decide) ?_
          refine w_icmp_ne (tgt := 200) hX dX10_stackFault_165 rfl (by decide) (fun _ => ?_) (fun h165 => absurd (by decide) h165)
          refine w_iload_n (i := 3) hX dX10_stackFault_200 rfl rfl rfl ?_
          refine w_bipush hX dX10_stackFault_201 rfl (by decide) ?_
          refine w_icmp_ne (tgt := 238) hX dX10_stackFault_203 rfl (by decide) (fun h203 => absurd h203 (by decide)) (fun _ => ?_)
          refine w_aload_n (i := 0) hX dX10_stackFault_206 rfl rfl rfl ?_
          refine w_aload_n (i := 0) hX dX10_stackFault_207 rfl rfl rfl ?_
          refine w_getR (j := 8) hX cl9 fl_RX10_25_9 rfl (by decide) rfl rfl dX10_stackFault_208 rfl ?_
          refine w_aload_n (i := 0) hX dX10_stackFault_211 rfl rfl rfl ?_
          refine w_getI (j := 10) hX cl9 fl_RX10_125_9 rfl (by decide) rfl dX10_stackFault_212 rfl ?_
          rw [(keepR.nd.tr keepR.cm) _ _ (by decide) (by decide)]
          refine w_iload_n (i := 1) hX dX10_stackFault_215 rfl rfl rfl ?_
          refine w_iadd hX dX10_stackFault_216 rfl (by omega) ?_
          refine w_iald hX rfl (by omega) (by omega) dX10_stackFault_217 rfl ?_
          first | (rw [(keepR.nd.tr keepR.cm) _ _ (by decide) (by decide)]) | skip
          refine w_iload hX dX10_stackFault_218 rfl rfl ?_
          refine c_V hX ml_RX10_166 cl9 dX10_stackFault_220 rfl (r_comes _ ((D 285 (D 279 10 + k).toNat)) _ (by omega) (by omega)) rfl rfl rfl (by decide) (Nat.le_of_ble_eq_true rfl) ?_
          rintro _ _ ⟨rfl, rfl⟩ -
          all_goals try dsimp only [Option.toList, List.cons_append, List.nil_append]
          refine w_if_eq (tgt := 235) hX dX10_stackFault_223 rfl (by decide) (fun h223 => ?_) (fun h223 => ?_)
          · rw [b2_0] at h223
            refine w_iconst hX dX10_stackFault_235 rfl (by decide) ?_
            refine w_istore hX dX10_stackFault_236 rfl (by decide) ?_
            dsimp only [st1X, st2X, klX_I, klX_L, klX_R, klX_S, klX_N]
            refine w_iload_n (i := 3) hX dX10_stackFault_238 rfl rfl rfl ?_
            refine w_bipush hX dX10_stackFault_239 rfl (by decide) ?_
            refine w_icmp_ne (tgt := 256) hX dX10_stackFault_241 rfl (by decide) (fun _ => ?_) (fun h241 => absurd (by decide) h241)
            refine w_iload hX dX10_stackFault_256 rfl rfl ?_
            refine w_if_eq (tgt := 265) hX dX10_stackFault_258 rfl (by decide) (fun _ => ?_) (fun h258 => absurd (by decide) h258)
            refine w_bipush hX dX10_stackFault_265 rfl (by decide) ?_
            exact e_i hX hF dX10_stackFault_267 (by first | exact ⟨congrArg (fun x => some (vI x)) ((zq_S (by omega) (by omega)).1 ⟨h228, h223, trivial⟩), (keepR.nd.tr keepR.cm).tr keepR.cm, fun _ => zq_E⟩ | exact ⟨congrArg (fun x => some (vI x)) ((zq_S (by omega) (by omega)).2 (fun zq_q => h228 zq_q.1)), (keepR.nd.tr keepR.cm).tr keepR.cm, fun zq_h => absurd (zq_h.symm.trans ((zq_S (by omega) (by omega)).2 (fun zq_q => h228 zq_q.1))) (by decide)⟩ | exact ⟨congrArg (fun x => some (vI x)) ((zq_S (by omega) (by omega)).2 (fun zq_q => h223 zq_q.2.1)), (keepR.nd.tr keepR.cm).tr keepR.cm, fun zq_h => absurd (zq_h.symm.trans ((zq_S (by omega) (by omega)).2 (fun zq_q => h223 zq_q.2.1))) (by decide)⟩)
          · rw [b2_n] at h223
            refine w_iload hX dX10_stackFault_226 rfl rfl ?_
            refine w_if_eq (tgt := 235) hX dX10_stackFault_228 rfl (by decide) (fun h228 => ?_) (fun h228 => ?_)
            · rw [b2_0] at h228
              refine w_iconst hX dX10_stackFault_235 rfl (by decide) ?_
              refine w_istore hX dX10_stackFault_236 rfl (by decide) ?_
              dsimp only [st1X, st2X, klX_I, klX_L, klX_R, klX_S, klX_N]
              refine w_iload_n (i := 3) hX dX10_stackFault_238 rfl rfl rfl ?_
              refine w_bipush hX dX10_stackFault_239 rfl (by decide) ?_
              refine w_icmp_ne (tgt := 256) hX dX10_stackFault_241 rfl (by decide) (fun _ => ?_) (fun h241 => absurd (by decide) h241)
              refine w_iload hX dX10_stackFault_256 rfl rfl ?_
              refine w_if_eq (tgt := 265) hX dX10_stackFault_258 rfl (by decide) (fun _ => ?_) (fun h258 => absurd (by decide) h258)
              refine w_bipush hX dX10_stackFault_265 rfl (by decide) ?_
              exact e_i hX hF dX10_stackFault_267 (by first | exact ⟨congrArg (fun x => some (vI x)) ((zq_S (by omega) (by omega)).1 ⟨h228, h223, trivial⟩), (keepR.nd.tr keepR.cm).tr keepR.cm, fun _ => zq_E⟩ | exact ⟨congrArg (fun x => some (vI x)) ((zq_S (by omega) (by omega)).2 (fun zq_q => h228 zq_q.1)), (keepR.nd.tr keepR.cm).tr keepR.cm, fun zq_h => absurd (zq_h.symm.trans ((zq_S (by omega) (by omega)).2 (fun zq_q => h228 zq_q.1))) (by decide)⟩ | exact ⟨congrArg (fun x => some (vI x)) ((zq_S (by omega) (by omega)).2 (fun zq_q => h223 zq_q.2.1)), (keepR.nd.tr keepR.cm).tr keepR.cm, fun zq_h => absurd (zq_h.symm.trans ((zq_S (by omega) (by omega)).2 (fun zq_q => h223 zq_q.2.1))) (by decide)⟩)
            · rw [b2_n] at h228
              refine w_iconst hX dX10_stackFault_231 rfl (by decide) ?_
              refine w_goto (tgt := 236) hX dX10_stackFault_232 (by decide) ?_
              refine w_istore hX dX10_stackFault_236 rfl (by decide) ?_
              dsimp only [st1X, st2X, klX_I, klX_L, klX_R, klX_S, klX_N]
              refine w_iload_n (i := 3) hX dX10_stackFault_238 rfl rfl rfl ?_
              refine w_bipush hX dX10_stackFault_239 rfl (by decide) ?_
              refine w_icmp_ne (tgt := 256) hX dX10_stackFault_241 rfl (by decide) (fun _ => ?_) (fun h241 => absurd (by decide) h241)
              refine w_iload hX dX10_stackFault_256 rfl rfl ?_
              refine w_if_eq (tgt := 265) hX dX10_stackFault_258 rfl (by decide) (fun h258 => absurd h258 (by decide)) (fun _ => ?_)
              refine w_iconst hX dX10_stackFault_261 rfl (by decide) ?_
              refine w_goto (tgt := 267) hX dX10_stackFault_262 (by decide) ?_
              exact e_i hX hF dX10_stackFault_267 (by first | exact ⟨congrArg (fun x => some (vI x)) ((zq_S (by omega) (by omega)).1 ⟨h228, h223, trivial⟩), (keepR.nd.tr keepR.cm).tr keepR.cm, fun _ => zq_E⟩ | exact ⟨congrArg (fun x => some (vI x)) ((zq_S (by omega) (by omega)).2 (fun zq_q => h228 zq_q.1)), (keepR.nd.tr keepR.cm).tr keepR.cm, fun zq_h => absurd (zq_h.symm.trans ((zq_S (by omega) (by omega)).2 (fun zq_q => h228 zq_q.1))) (by decide)⟩ | exact ⟨congrArg (fun x => some (vI x)) ((zq_S (by omega) (by omega)).2 (fun zq_q => h223 zq_q.2.1)), (keepR.nd.tr keepR.cm).tr keepR.cm, fun zq_h => absurd (zq_h.symm.trans ((zq_S (by omega) (by omega)).2 (fun zq_q => h223 zq_q.2.1))) (by decide)⟩)
        · refine w_iload hX dX10_stackFault_103 rfl rfl ?_
          refine w_iload hX dX10_stackFault_105 rfl rfl ?_
          refine w_iadd hX dX10_stackFault_107 rfl (by omega) ?_
          refine w_goto (tgt := 117) hX dX10_stackFault_108 (by decide) ?_
          refine w_iast hX rfl (by omega) (by omega) dX10_stackFault_117 rfl ?_
          rw [show upD D 291 u.toNat _ = ndM D u ((D 287 k.toNat - tk 13 + lf 13) + mrF D 13 ((D 284 (D 279 10 + k).toNat))) by unfold ndM; rw [zq_m]; first | rw [if_pos (by omega)] | rw [if_neg (by omega)]]
          refine w_iconst hX dX10_stackFault_118 rfl (by decide) ?_
          refine w_istore hX dX10_stackFault_119 rfl (by decide) ?_
          dsimp only [st1X, st2X, klX_I, klX_L, klX_R, klX_S, klX_N]
          refine w_iload_n (i := 3) hX dX10_stackFault_121 rfl rfl rfl ?_
          refine w_bipush hX dX10_stackFault_122 rfl (by decide) ?_
          refine w_icmp_eq (tgt := 150) hX dX10_stackFault_124 rfl (by decide) (fun h124 => absurd h124 (by decide)) (fun _ => ?_)
          refine w_iload_n (i := 3) hX dX10_stackFault_127 rfl rfl rfl ?_
          refine w_bipush hX dX10_stackFault_128 rfl (by decide) ?_
          refine w_icmp_eq (tgt := 150) hX dX10_stackFault_130 rfl (by decide) (fun h130 => absurd h130 (by decide)) (fun _ => ?_)
          refine w_iload_n (i := 3) hX dX10_stackFault_133 rfl rfl rfl ?_
          refine w_bipush hX dX10_stackFault_134 rfl (by decide) ?_
          refine w_icmp_eq (tgt := 150) hX dX10_stackFault_136 rfl (by decide) (fun h136 => absurd h136 (by decide)) (fun _ => ?_)
          refine w_aload_n (i := 0) hX dX10_stackFault_139 rfl rfl rfl ?_
          refine w_iload_n (i := 1) hX dX10_stackFault_140 rfl rfl rfl ?_
          refine w_iconst hX dX10_stackFault_141 rfl (by decide) ?_
          refine w_iadd hX dX10_stackFault_142 rfl (by omega) ?_
          refine w_iload hX dX10_stackFault_143 rfl rfl ?_
          refine c_V hX ml_RX10_166 cl9 dX10_stackFault_145 rfl (r_comes _ (k + 1) _ (by omega) (by omega)) rfl rfl rfl (by decide) (Nat.le_of_ble_eq_true rfl) ?_
          rintro _ _ ⟨rfl, rfl⟩ -
          all_goals try dsimp only [Option.toList, List.cons_append, List.nil_append]
          refine w_istore hX dX10_stackFault_148 rfl (by decide) ?_
          dsimp only [st1X, st2X, klX_I, klX_L, klX_R, klX_S, klX_N]
          refine w_iload_n (i := 3) hX dX10_stackFault_150 rfl rfl rfl ?_
          refine w_bipush hX dX10_stackFault_151 rfl (by decide) ?_
          refine w_icmp_eq (tgt := 168) hX dX10_stackFault_153 rfl (by decide) (fun h153 => absurd h153 (by decide)) (fun _ => ?_)
          refine w_iload_n (i := 3) hX dX10_stackFault_156 rfl rfl rfl ?_
          refine w_bipush hX dX10_stackFault_157 rfl (by decide) ?_
          refine w_icmp_eq (tgt := 168) hX dX10_stackFault_159 rfl (by decide) (fun h159 => absurd h159 (by decide)) (fun _ => ?_)
          refine w_iload_n (i := 3) hX dX10_stackFault_162 rfl rfl rfl ?_
          refine w_bipush hX dX10_stackFault_163 rfl (by decide) ?_
          refine w_icmp_ne (tgt := 200) hX dX10_stackFault_165 rfl (by decide) (fun _ => ?_) (fun h165 => absurd (by decide) h165)
          refine w_iload_n (i := 3) hX dX10_stackFault_200 rfl rfl rfl ?_
          refine w_bipush hX dX10_stackFault_201 rfl (by decide) ?_
          refine w_icmp_ne (tgt := 238) hX dX10_stackFault_203 rfl (by decide) (fun h203 => absurd h203 (by decide)) (fun _ => ?_)
          refine w_aload_n (i := 0) hX dX10_stackFault_206 rfl rfl rfl ?_
          refine w_aload_n (i := 0) hX dX10_stackFault_207 rfl rfl rfl ?_
          refine w_getR (j := 8) hX cl9 fl_RX10_25_9 rfl (by decide) rfl rfl dX10_stackFault_208 rfl ?_
          refine w_aload_n (i := 0) hX dX10_stackFault_211 rfl rfl rfl ?_
          refine w_getI (j := 10) hX cl9 fl_RX10_125_9 rfl (by decide) rfl dX10_stackFault_212 rfl ?_
          rw [(keepR.nd.tr keepR.cm) _ _ (by decide) (by decide)]
          refine w_iload_n (i := 1) hX dX10_stackFault_215 rfl rfl rfl ?_
          refine w_iadd hX dX10_stackFault_216 rfl (by omega) ?_
          refine w_iald hX rfl (by omega) (by omega) dX10_stackFault_217 rfl ?_
          first | (rw [(keepR.nd.tr keepR.cm) _ _ (by decide) (by decide)]) | skip
          refine w_iload hX dX10_stackFault_218 rfl rfl ?_
          refine c_V hX ml_RX10_166 cl9 dX10_stackFault_220 rfl (r_comes _ ((D 285 (D 279 10 + k).toNat)) _ (by omega) (by omega)) rfl rfl rfl (by decide) (Nat.le_of_ble_eq_true rfl) ?_
          rintro _ _ ⟨rfl, rfl⟩ -
          all_goals try dsimp only [Option.toList, List.cons_append, List.nil_append]
          refine w_if_eq (tgt := 235) hX dX10_stackFault_223 rfl (by decide) (fun h223 => ?_) (fun h223 => ?_)
          · rw [b2_0] at h223
            refine w_iconst hX dX10_stackFault_235 rfl (by decide) ?_
            refine w_istore hX dX10_stackFault_236 rfl (by decide) ?_
            dsimp only [st1X, st2X, klX_I, klX_L, klX_R, klX_S, klX_N]
            refine w_iload_n (i := 3) hX dX10_stackFault_238 rfl rfl rfl ?_
            refine w_bipush hX dX10_stackFault_239 rfl (by decide) ?_
            refine w_icmp_ne (tgt := 256) hX dX10_stackFault_241 rfl (by decide) (fun _ => ?_) (fun h241 => absurd (by decide) h241)
            refine w_iload hX dX10_stackFault_256 rfl rfl ?_
            refine w_if_eq (tgt := 265) hX dX10_stackFault_258 rfl (by decide) (fun _ => ?_) (fun h258 => absurd (by decide) h258)
            refine w_bipush hX dX10_stackFault_265 rfl (by decide) ?_
            exact e_i hX hF dX10_stackFault_267 (by first | exact ⟨congrArg (fun x => some (vI x)) ((zq_S (by omega) (by omega)).1 ⟨h228, h223, trivial⟩), (keepR.nd.tr keepR.cm).tr keepR.cm, fun _ => zq_E⟩ | exact ⟨congrArg (fun x => some (vI x)) ((zq_S (by omega) (by omega)).2 (fun zq_q => h228 zq_q.1)), (keepR.nd.tr keepR.cm).tr keepR.cm, fun zq_h => absurd (zq_h.symm.trans ((zq_S (by omega) (by omega)).2 (fun zq_q => h228 zq_q.1))) (by decide)⟩ | exact ⟨congrArg (fun x => some (vI x)) ((zq_S (by omega) (by omega)).2 (fun zq_q => h223 zq_q.2.1)), (keepR.nd.tr keepR.cm).tr keepR.cm, fun zq_h => absurd (zq_h.symm.trans ((zq_S (by omega) (by omega)).2 (fun zq_q => h223 zq_q.2.1))) (by decide)⟩)
          · rw [b2_n] at h223
            refine w_iload hX dX10_stackFault_226 rfl rfl ?_
            refine w_if_eq (tgt := 235) hX dX10_stackFault_228 rfl (by decide) (fun h228 => ?_) (fun h228 => ?_)
            · rw [b2_0] at h228
              refine w_iconst hX dX10_stackFault_235 rfl (by decide) ?_
              refine w_istore hX dX10_stackFault_236 rfl (by decide) ?_
              dsimp only [st1X, st2X, klX_I, klX_L, klX_R, klX_S, klX_N]
              refine w_iload_n (i := 3) hX dX10_stackFault_238 rfl rfl rfl ?_
              refine w_bipush hX dX10_stackFault_239 rfl (by decide) ?_
              refine w_icmp_ne (tgt := 256) hX dX10_stackFault_241 rfl (by decide) (fun _ => ?_) (fun h241 => absurd (by decide) h241)
              refine w_iload hX dX10_stackFault_256 rfl rfl ?_
              refine w_if_eq (tgt := 265) hX dX10_stackFault_258 rfl (by decide) (fun _ => ?_) (fun h258 => absurd (by decide) h258)
              refine w_bipush hX dX10_stackFault_265 rfl (by decide) ?_
              exact e_i hX hF dX10_stackFault_267 (by first | exact ⟨congrArg (fun x => some (vI x)) ((zq_S (by omega) (by omega)).1 ⟨h228, h223, trivial⟩), (keepR.nd.tr keepR.cm).tr keepR.cm, fun _ => zq_E⟩ | exact ⟨congrArg (fun x => some (vI x)) ((zq_S (by omega) (by omega)).2 (fun zq_q => h228 zq_q.1)), (keepR.nd.tr keepR.cm).tr keepR.cm, fun zq_h => absurd (zq_h.symm.trans ((zq_S (by omega) (by omega)).2 (fun zq_q => h228 zq_q.1))) (by decide)⟩ | exact ⟨congrArg (fun x => some (vI x)) ((zq_S (by omega) (by omega)).2 (fun zq_q => h223 zq_q.2.1)), (keepR.nd.tr keepR.cm).tr keepR.cm, fun zq_h => absurd (zq_h.symm.trans ((zq_S (by omega) (by omega)).2 (fun zq_q => h223 zq_q.2.1))) (by decide)⟩)
            · rw [b2_n] at h228
              refine w_iconst hX dX10_stackFault_231 rfl (by decide) ?_
              refine w_goto (tgt := 236) hX dX10_stackFault_232 (by decide) ?_
              refine w_istore hX dX10_stackFault_236 rfl (by decide) ?_
              dsimp only [st1X, st2X, klX_I, klX_L, klX_R, klX_S, klX_N]
              refine w_iload_n (i := 3) hX dX10_stackFault_238 rfl rfl rfl ?_
              refine w_bipush hX dX10_stackFault_239 rfl (by decide) ?_
              refine w_icmp_ne (tgt := 256) hX dX10_stackFault_241 rfl (by decide) (fun _ => ?_) (fun h241 => absurd (by decide) h241)
              refine w_iload hX dX10_stackFault_256 rfl rfl ?_
              refine w_if_eq (tgt := 265) hX dX10_stackFault_258 rfl (by decide) (fun h258 => absurd h258 (by decide)) (fun _ => ?_)
              refine w_iconst hX dX10_stackFault_261 rfl (by decide) ?_
              refine w_goto (tgt := 267) hX dX10_stackFault_262 (by decide) ?_
              exact e_i hX hF dX10_stackFault_267 (by first | exact ⟨congrArg (fun x => some (vI x)) ((zq_S (by omega) (by omega)).1 ⟨h228, h223, trivial⟩), (keepR.nd.tr keepR.cm).tr keepR.cm, fun _ => zq_E⟩ | exact ⟨congrArg (fun x => some (vI x)) ((zq_S (by omega) (by omega)).2 (fun zq_q => h228 zq_q.1)), (keepR.nd.tr keepR.cm).tr keepR.cm, fun zq_h => absurd (zq_h.symm.trans ((zq_S (by omega) (by omega)).2 (fun zq_q => h228 zq_q.1))) (by decide)⟩ | exact ⟨congrArg (fun x => some (vI x)) ((zq_S (by omega) (by omega)).2 (fun zq_q => h223 zq_q.2.1)), (keepR.nd.tr keepR.cm).tr keepR.cm, fun zq_h => absurd (zq_h.symm.trans ((zq_S (by omega) (by omega)).2 (fun zq_q => h223 zq_q.2.1))) (by decide)⟩)
      · refine w_bipush hX dX10_stackFault_47 rfl (by decide) ?_
        exact e_i hX hF dX10_stackFault_49 ⟨by rw [skM, it_f (by omega), it_t (by omega)], keepR.rf D, fun zq_h => by rw [skM, it_f (by omega), it_t (by omega)] at zq_h; omega⟩
    · refine w_bipush hX dX10_stackFault_23 rfl (by decide) ?_
      exact e_i hX hF dX10_stackFault_25 ⟨by rw [skM, it_t (by omega)], keepR.rf D, fun zq_h => by rw [skM, it_t (by omega)] at zq_h; omega⟩

set_option maxRecDepth 100000 in
set_option maxHeartbeats 4000000 in
theorem r_sf15 (D : Dd) (hF0 : FM D) (k u : Int) (hk : 0 ≤ k ∧ k < D 279 11) (hu : 0 ≤ u ∧ u < 16) (hN : (D 283 (D 279 10 + k).toNat) = 15) (ha : 0 ≤ (D 284 (D 279 10 + k).toNat) ∧ (D 284 (D 279 10 + k).toNat) < u) (hd : 0 ≤ D 287 k.toNat ∧ D 287 k.toNat ≤ 64) (hdp : ∀ v : Nat, (v : Int) ≤ u → 0 ≤ D 291 v ∧ D 291 v ≤ 10000) : MC 2 yX10_stackFault cX10_stackFault 7 (some .int) [vR 279, vI k, vI u] D (fun r D2 => some (vI (skM D k u 15 ((D 284 (D 279 10 + k).toNat)) ((D 285 (D 279 10 + k).toNat)))) = r ∧ keepR D D2 ∧ (skM D k u 15 ((D 284 (D 279 10 + k).toNat)) ((D 285 (D 279 10 + k).toNat)) = 0 → skMD D k u 15 ((D 284 (D 279 10 + k).toNat)) ((D 285 (D 279 10 + k).toNat)) = D2)) := by
  refine MC.mk [vR 279, vI k, vI u, vN, vN, vN, vN] (by decide) (Nat.le_of_ble_eq_true rfl) rfl (fun X Q hX hF hok hol => ?_)
  have zq_F := hF0
  unfold FM at hF0
  have zq_t := tk_in (15)
  have zq_l := lf_in (15)
  have zq_g : tgM 15 k ((D 284 (D 279 10 + k).toNat)) ((D 285 (D 279 10 + k).toNat)) (D 279 11) = [k + 1] := by unfold tgM; rw [if_neg (by omega), if_neg (by omega), if_neg (by omega), if_neg (by omega)]
  have zq_m : mrF D 15 ((D 284 (D 279 10 + k).toNat)) = D 291 ((D 284 (D 279 10 + k).toNat)).toNat := by unfold mrF; rw [if_pos (by omega)]
  have zq_u := hdp u.toNat (by omega)
  have zq_a := hdp ((D 284 (D 279 10 + k).toNat)).toNat (by have zq_q := ha; omega)
  have zq_S : ¬ D 287 k.toNat < tk 15 → ¬ 64 < (D 287 k.toNat - tk 15 + lf 15) → (cmLM (D 287 k.toNat - tk 15 + lf 15) (ndM D u ((D 287 k.toNat - tk 15 + lf 15) + mrF D 15 ((D 284 (D 279 10 + k).toNat)))) [k + 1] → skM D k u 15 ((D 284 (D 279 10 + k).toNat)) ((D 285 (D 279 10 + k).toNat)) = 0) ∧ (¬ cmLM (D 287 k.toNat - tk 15 + lf 15) (ndM D u ((D 287 k.toNat - tk 15 + lf 15) + mrF D 15 ((D 284 (D 279 10 + k).toNat)))) [k + 1] → skM D k u 15 ((D 284 (D 279 10 + k).toNat)) ((D 285 (D 279 10 + k).toNat)) = 10) := by
    intro zq_1 zq_2
    constructor
    · intro zq_L; rw [skM, it_f zq_1, it_f zq_2, zq_g, it_f (fun zq_q => zq_q zq_L)]
    · intro zq_L; rw [skM, it_f zq_1, it_f zq_2, zq_g, it_t zq_L]
  have zq_E : skMD D k u 15 ((D 284 (D 279 10 + k).toNat)) ((D 285 (D 279 10 + k).toNat)) = cmEM (D 287 k.toNat - tk 15 + lf 15) (ndM D u ((D 287 k.toNat - tk 15 + lf 15) + mrF D 15 ((D 284 (D 279 10 + k).toNat)))) [k + 1] := by rw [skMD, zq_g]
  refine w_aload_n (i := 0) hX dX10_stackFault_0 rfl rfl rfl ?_
  refine w_iload_n (i := 1) hX dX10_stackFault_1 rfl rfl rfl ?_
  refine c_V hX ml_RX10_128 cl9 dX10_stackFault_2 rfl (r_numberAt D zq_F k hk) rfl rfl rfl (by decide) (Nat.le_of_ble_eq_true rfl) ?_
  rintro _ _ ⟨rfl, rfl⟩ -
  rw [hN]
  all_goals try dsimp only [Option.toList, List.cons_append, List.nil_append]
  · refine w_istore_n (i := 3) hX dX10_stackFault_5 rfl rfl (by decide) ?_
    dsimp only [st1X, st2X, klX_I, klX_L, klX_R, klX_S, klX_N]
    refine w_aload_n (i := 0) hX dX10_stackFault_6 rfl rfl rfl ?_
    refine w_getR (j := 12) hX cl9 fl_RX10_31_9 rfl (by decide) rfl rfl dX10_stackFault_7 rfl ?_
    refine w_iload_n (i := 1) hX dX10_stackFault_10 rfl rfl rfl ?_
    refine w_iald hX rfl (by omega) (by omega) dX10_stackFault_11 rfl ?_
    refine w_istore hX dX10_stackFault_12 rfl (by decide) ?_
    dsimp only [st1X, st2X, klX_I, klX_L, klX_R, klX_S, klX_N]
    refine w_iload_n (i := 3) hX dX10_stackFault_14 rfl rfl rfl ?_
    refine c_S hX ml_RX10_160 dX10_stackFault_15 rfl (r_taken D 15) rfl rfl (by decide) (Nat.le_of_ble_eq_true rfl) ?_
    rintro _ _ ⟨rfl, rfl⟩ -
    all_goals try dsimp only [Option.toList, List.cons_append, List.nil_append]
    refine w_iload hX dX10_stackFault_18 rfl rfl ?_
    refine w_icmp_le (tgt := 26) hX dX10_stackFault_20 rfl (by decide) (fun h20 => ?_) (fun h20 => ?_)
    · refine w_iload hX dX10_stackFault_26 rfl rfl ?_
      refine w_iload_n (i := 3) hX dX10_stackFault_28 rfl rfl rfl ?_
      refine c_S hX ml_RX10_160 dX10_stackFault_29 rfl (r_taken D 15) rfl rfl (by decide) (Nat.le_of_ble_eq_true rfl) ?_
      rintro _ _ ⟨rfl, rfl⟩ -
      all_goals try dsimp only [Option.toList, List.cons_append, List.nil_append]
      refine w_isub hX dX10_stackFault_32 rfl (by omega) ?_
      refine w_iload_n (i := 3) hX dX10_stackFault_33 rfl rfl rfl ?_
      refine c_S hX ml_RX10_163 dX10_stackFault_34 rfl (r_left D 15 (by omega)) rfl rfl (by decide) (Nat.le_of_ble_eq_true rfl) ?_
      rintro _ _ ⟨rfl, rfl⟩ -
      all_goals try dsimp only [Option.toList, List.cons_append, List.nil_append]
      refine w_iadd hX dX10_stackFault_37 rfl (by omega) ?_
      refine w_istore hX dX10_stackFault_38 rfl (by decide) ?_
      dsimp only [st1X, st2X, klX_I, klX_L, klX_R, klX_S, klX_N]
      refine w_iload hX dX10_stackFault_40 rfl rfl ?_
      refine w_bipush hX dX10_stackFault_42 rfl (by decide) ?_
      refine w_icmp_le (tgt := 50) hX dX10_stackFault_44 rfl (by decide) (fun h44 => ?_) (fun h44 => ?_)
      · refine w_iload_n (i := 3) hX dX10_stackFault_50 rfl rfl rfl ?_
        refine w_bipush hX dX10_stackFault_51 rfl (by decide) ?_
        refine w_icmp_eq (tgt := 62) hX dX10_stackFault_53 rfl (by decide) (fun _ => ?_) (fun h53 => absurd (by decide) h53)
        refine w_aload_n (i := 0) hX dX10_stackFault_62 rfl rfl rfl ?_
        refine w_getR (j := 16) hX cl9 fl_RX10_44_9 rfl (by decide) rfl rfl dX10_stackFault_63 rfl ?_
        refine w_aload_n (i := 0) hX dX10_stackFault_66 rfl rfl rfl ?_
        refine w_getR (j := 7) hX cl9 fl_RX10_22_9 rfl (by decide) rfl rfl dX10_stackFault_67 rfl ?_
        refine w_aload_n (i := 0) hX dX10_stackFault_70 rfl rfl rfl ?_
        refine w_getI (j := 10) hX cl9 fl_RX10_125_9 rfl (by decide) rfl dX10_stackFault_71 rfl ?_
        refine w_iload_n (i := 1) hX dX10_stackFault_74 rfl rfl rfl ?_
        refine w_iadd hX dX10_stackFault_75 rfl (by omega) ?_
        refine w_iald hX rfl (by omega) (by omega) dX10_stackFault_76 rfl ?_
        refine w_iald hX rfl (by have zq_q := ha; omega) (by have zq_q := ha; omega) dX10_stackFault_77 rfl ?_
        refine w_goto (tgt := 82) hX dX10_stackFault_78 (by decide) ?_
        refine w_istore hX dX10_stackFault_82 rfl (by decide) ?_
        dsimp only [st1X, st2X, klX_I, klX_L, klX_R, klX_S, klX_N]
        refine w_aload_n (i := 0) hX dX10_stackFault_84 rfl rfl rfl ?_
        refine w_getR (j := 16) hX cl9 fl_RX10_44_9 rfl (by decide) rfl rfl dX10_stackFault_85 rfl ?_
        refine w_iload_n (i := 2) hX dX10_stackFault_88 rfl rfl rfl ?_
        refine w_iload hX dX10_stackFault_89 rfl rfl ?_
        refine w_iload hX dX10_stackFault_91 rfl rfl ?_
        refine w_iadd hX dX10_stackFault_93 rfl (by omega) ?_
        refine w_aload_n (i := 0) hX dX10_stackFault_94 rfl rfl rfl ?_
        refine w_getR (j := 16) hX cl9 fl_RX10_44_9 rfl (by decide) rfl rfl dX10_stackFault_95 rfl ?_
        refine w_iload_n (i := 2) hX dX10_stackFault_98 rfl rfl rfl ?_
        refine w_iald hX rfl (by omega) (by omega) dX10_stackFault_99 rfl ?_
        refine w_icmp_le (tgt := 111) hX dX10_stackFault_100 rfl (by decide) (fun h100 => ?_) (fun h100 => ?_)
        · refine w_aload_n (i := 0) hX dX10_stackFault_111 rfl rfl rfl ?_
          refine w_getR (j := 16) hX cl9 fl_RX10_44_9 rfl (by decide) rfl rfl dX10_stackFault_112 rfl ?_
          refine w_iload_n (i := 2) hX dX10_stackFault_115 rfl rfl rfl ?_
          refine w_iald hX rfl (by omega) (by omega) dX10_stackFault_116 rfl ?_
          refine w_iast hX rfl (by omega) (by omega) dX10_stackFault_117 rfl ?_
          rw [show upD D 291 u.toNat _ = ndM D u ((D 287 k.toNat - tk 15 + lf 15) + mrF D 15 ((D 284 (D 279 10 + k).toNat))) by unfold ndM; rw [zq_m]; first | rw [if_pos (by omega)] | rw [if_neg (by omega)]]
          refine w_iconst hX dX10_stackFault_118 rfl (by decide) ?_
          refine w_istore hX dX10_stackFault_119 rfl (by decide) ?_
          dsimp only [st1X, st2X, klX_I, klX_L, klX_R, klX_S, klX_N]
          refine w_iload_n (i := 3) hX dX10_stackFault_121 rfl rfl rfl ?_
          refine w_bipush hX dX10_stackFault_122 rfl (by decide) ?_
          refine w_icmp_eq (tgt := 150) hX dX10_stackFault_124 rfl (by decide) (fun h124 => absurd h124 (by decide)) (fun _ => ?_)
          refine w_iload_n (i := 3) hX dX10_stackFault_127 rfl rfl rfl ?_
          refine w_bipush hX dX10_stackFault_128 rfl (by decide) ?_
          refine w_icmp_eq (tgt := 150) hX dX10_stackFault_130 rfl (by decide) (fun h130 => absurd h130 (by decide)) (fun _ => ?_)
          refine w_iload_n (i := 3) hX dX10_stackFault_133 rfl rfl rfl ?_
          refine w_bipush hX dX10_stackFault_134 rfl (by decide) ?_
          refine w_icmp_eq (tgt := 150) hX dX10_stackFault_136 rfl (by decide) (fun h136 => absurd h136 (by decide)) (fun _ => ?_)
          refine w_aload_n (i := 0) hX dX10_stackFault_139 rfl rfl rfl ?_
          refine w_iload_n (i := 1) hX dX10_stackFault_140 rfl rfl rfl ?_
          refine w_iconst hX dX10_stackFault_141 rfl (by decide) ?_
          refine w_iadd hX dX10_stackFault_142 rfl (by omega) ?_
          refine w_iload hX dX10_stackFault_143 rfl rfl ?_
          refine c_V hX ml_RX10_166 cl9 dX10_stackFault_145 rfl (r_comes _ (k + 1) _ (by omega) (by omega)) rfl rfl rfl (by decide) (Nat.le_of_ble_eq_true rfl) ?_
          rintro _ _ ⟨rfl, rfl⟩ -
          all_goals try dsimp only [Option.toList, List.cons_append, List.nil_append]
          refine w_istore hX dX10_stackFault_148 rfl (by decide) ?_
          dsimp only [st1X, st2X, klX_I, klX_L, klX_R, klX_S, klX_N]
          refine w_iload_n (i := 3) hX dX10_stackFault_150 rfl rfl rfl ?_
          refine w_bipush hX dX10_stackFault_151 rfl (by decide) ?_
          refine w_icmp_eq (tgt := 168) hX dX10_stackFault_153 rfl (by decide) (fun h153 => absurd h153 (by decide)) (fun _ => ?_)
          refine w_iload_n (i := 3) hX dX10_stackFault_156 rfl rfl rfl ?_
          refine w_bipush hX dX10_stackFault_157 rfl (by decide) ?_
          refine w_icmp_eq (tgt := 168) hX dX10_stackFault_159 rfl (by decide) (fun h159 => absurd h159 (by decide)) (fun _ => ?_)
          refine w_iload_n (i := 3) hX dX10_stackFault_162 rfl rfl rfl ?_
          refine w_bipush hX dX10_stackFault_163 rfl (by decide) ?_
          refine w_icmp_ne (tgt := 200) hX dX10_stackFault_165 rfl (by decide) (fun _ => ?_) (fun h165 => absurd (by decide) h165)
          refine w_iload_n (i := 3) hX dX10_stackFault_200 rfl rfl rfl ?_
          refine w_bipush hX dX10_stackFault_201 rfl (by decide) ?_
          refine w_icmp_ne (tgt := 238) hX dX10_stackFault_203 rfl (by decide) (fun _ => ?_) (fun h203 => absurd (by decide) h203)
          refine w_iload_n (i := 3) hX dX10_stackFault_238 rfl rfl rfl ?_
          refine w_bipush hX dX10_stackFault_239 rfl (by decide) ?_
          refine w_icmp_ne (tgt := 256) hX dX10_stackFault_241 rfl (by decide) (fun _ => ?_) (fun h241 => absurd (by decide) h241)
          refine w_iload hX dX10_stackFault_256 rfl rfl ?_
          refine w_if_eq (tgt := 265) hX dX10_stackFault_258 rfl (by decide) (fun h258 => ?_) (fun h258 => ?_)
          · rw [b2_0] at h258
            refine w_bipush hX dX10_stackFault_265 rfl (by decide) ?_
            exact e_i hX hF dX10_stackFault_267 (by first | exact ⟨congrArg (fun x => some (vI x)) ((zq_S (by omega) (by omega)).1 ⟨h258, trivial⟩), keepR.nd.tr keepR.cm, fun _ => zq_E⟩ | exact ⟨congrArg (fun x => some (vI x)) ((zq_S (by omega) (by omega)).2 (fun zq_q => h258 zq_q.1)), keepR.nd.tr keepR.cm, fun zq_h => absurd (zq_h.symm.trans ((zq_S (by omega) (by omega)).2 (fun zq_q => h258 zq_q.1))) (by decide)⟩)
          · rw [b2_n] at h258
            refine w_iconst hX dX10_stackFault_261 rfl (by decide) ?_
            refine w_goto (tgt := 267) hX dX10_stackFault_262 (by decide) ?_
            exact e_i hX hF dX10_stackFault_267 (by first | exact ⟨congrArg (fun x => some (vI x)) ((zq_S (by omega) (by omega)).1 ⟨h258, trivial⟩), keepR.nd.tr keepR.cm, fun _ => zq_E⟩ | exact ⟨congrArg (fun x => some (vI x)) ((zq_S (by omega) (by omega)).2 (fun zq_q => h258 zq_q.1)), keepR.nd.tr keepR.cm, fun zq_h => absurd (zq_h.symm.trans ((zq_S (by omega) (by omega)).2 (fun zq_q => h258 zq_q.1))) (by decide)⟩)
        · refine w_iload hX dX10_stackFault_103 rfl rfl ?_
          refine w_iload hX dX10_stackFault_105 rfl rfl ?_
          refine w_iadd hX dX10_stackFault_107 rfl (by omega) ?_
          refine w_goto (tgt := 117) hX dX10_stackFault_108 (by decide) ?_
          refine w_iast hX rfl (by omega) (by omega) dX10_stackFault_117 rfl ?_
          rw [show upD D 291 u.toNat _ = ndM D u ((D 287 k.toNat - tk 15 + lf 15) + mrF D 15 ((D 284 (D 279 10 + k).toNat))) by unfold ndM; rw [zq_m]; first | rw [if_pos (by omega)] | rw [if_neg (by omega)]]
          refine w_iconst hX dX10_stackFault_118 rfl (by decide) ?_
          refine w_istore hX dX10_stackFault_119 rfl (by decide) ?_
          dsimp only [st1X, st2X, klX_I, klX_L, klX_R, klX_S, klX_N]
          refine w_iload_n (i := 3) hX dX10_stackFault_121 rfl rfl rfl ?_
          refine w_bipush hX dX10_stackFault_122 rfl (by decide) ?_
          refine w_icmp_eq (tgt := 150) hX dX10_stackFault_124 rfl (by decide) (fun h124 => absurd h124 (by decide)) (fun _ => ?_)
          refine w_iload_n (i := 3) hX dX10_stackFault_127 rfl rfl rfl ?_
          refine w_bipush hX dX10_stackFault_128 rfl (by decide) ?_
          refine w_icmp_eq (tgt := 150) hX dX10_stackFault_130 rfl (by decide) (fun h130 => absurd h130 (by decide)) (fun _ => ?_)
          refine w_iload_n (i := 3) hX dX10_stackFault_133 rfl rfl rfl ?_
          refine w_bipush hX dX10_stackFault_134 rfl (by decide) ?_
          refine w_icmp_eq (tgt := 150) hX dX10_stackFault_136 rfl (by decide) (fun h136 => absurd h136 (by decide)) (fun _ => ?_)
          refine w_aload_n (i := 0) hX dX10_stackFault_139 rfl rfl rfl ?_
          refine w_iload_n (i := 1) hX dX10_stackFault_140 rfl rfl rfl ?_
          refine w_iconst hX dX10_stackFault_141 rfl (by decide) ?_
          refine w_iadd hX dX10_stackFault_142 rfl (by omega) ?_
          refine w_iload hX dX10_stackFault_143 rfl rfl ?_
          refine c_V hX ml_RX10_166 cl9 dX10_stackFault_145 rfl (r_comes _ (k + 1) _ (by omega) (by omega)) rfl rfl rfl (by decide) (Nat.le_of_ble_eq_true rfl) ?_
          rintro _ _ ⟨rfl, rfl⟩ -
          all_goals try dsimp only [Option.toList, List.cons_append, List.nil_append]
          refine w_istore hX dX10_stackFault_148 rfl (by decide) ?_
          dsimp only [st1X, st2X, klX_I, klX_L, klX_R, klX_S, klX_N]
          refine w_iload_n (i := 3) hX dX10_stackFault_150 rfl rfl rfl ?_
          refine w_bipush hX dX10_stackFault_151 rfl (by decide) ?_
          refine w_icmp_eq (tgt := 168) hX dX10_stackFault_153 rfl (by decide) (fun h153 => absurd h153 (by decide)) (fun _ => ?_)
          refine w_iload_n (i := 3) hX dX10_stackFault_156 rfl rfl rfl ?_
          refine w_bipush hX dX10_stackFault_157 rfl (by decide) ?_
          refine w_icmp_eq (tgt := 168) hX dX10_stackFault_159 rfl (by decide) (fun h159 => absurd h159 (by decide)) (fun _ => ?_)
          refine w_iload_n (i := 3) hX dX10_stackFault_162 rfl rfl rfl ?_
          refine w_bipush hX dX10_stackFault_163 rfl (by decide) ?_
          refine w_icmp_ne (tgt := 200) hX dX10_stackFault_165 rfl (by decide) (fun _ => ?_) (fun h165 => absurd (by decide) h165)
          refine w_iload_n (i := 3) hX dX10_stackFault_200 rfl rfl rfl ?_
          refine w_bipush hX dX10_stackFault_201 rfl (by decide) ?_
          refine w_icmp_ne (tgt := 238) hX dX10_stackFault_203 rfl (by decide) (fun _ => ?_) (fun h203 => absurd (by decide) h203)
          refine w_iload_n (i := 3) hX dX10_stackFault_238 rfl rfl rfl ?_
          refine w_bipush hX dX10_stackFault_239 rfl (by decide) ?_
          refine w_icmp_ne (tgt := 256) hX dX10_stackFault_241 rfl (by decide) (fun _ => ?_) (fun h241 => absurd (by decide) h241)
          refine w_iload hX dX10_stackFault_256 rfl rfl ?_
          refine w_if_eq (tgt := 265) hX dX10_stackFault_258 rfl (by decide) (fun h258 => ?_) (fun h258 => ?_)
          · rw [b2_0] at h258
            refine w_bipush hX dX10_stackFault_265 rfl (by decide) ?_
            exact e_i hX hF dX10_stackFault_267 (by first | exact ⟨congrArg (fun x => some (vI x)) ((zq_S (by omega) (by omega)).1 ⟨h258, trivial⟩), keepR.nd.tr keepR.cm, fun _ => zq_E⟩ | exact ⟨congrArg (fun x => some (vI x)) ((zq_S (by omega) (by omega)).2 (fun zq_q => h258 zq_q.1)), keepR.nd.tr keepR.cm, fun zq_h => absurd (zq_h.symm.trans ((zq_S (by omega) (by omega)).2 (fun zq_q => h258 zq_q.1))) (by decide)⟩)
          · rw [b2_n] at h258
            refine w_iconst hX dX10_stackFault_261 rfl (by decide) ?_
            refine w_goto (tgt := 267) hX dX10_stackFault_262 (by decide) ?_
            exact e_i hX hF dX10_stackFault_267 (by first | exact ⟨congrArg (fun x => some (vI x)) ((zq_S (by omega) (by omega)).1 ⟨h258, trivial⟩), keepR.nd.tr keepR.cm, fun _ => zq_E⟩ | exact ⟨congrArg (fun x => some (vI x)) ((zq_S (by omega) (by omega)).2 (fun zq_q => h258 zq_q.1)), keepR.nd.tr keepR.cm, fun zq_h => absurd (zq_h.symm.trans ((zq_S (by omega) (by omega)).2 (fun zq_q => h258 zq_q.1))) (by decide)⟩)
      · refine w_bipush hX dX10_stackFault_47 rfl (by decide) ?_
        exact e_i hX hF dX10_stackFault_49 ⟨by rw [skM, it_f (by omega), it_t (by omega)], keepR.rf D, fun zq_h => by rw [skM, it_f (by omega), it_t (by omega)] at zq_h; omega⟩
    · refine w_bipush hX dX10_stackFault_23 rfl (by decide) ?_
      exact e_i hX hF dX10_stackFault_25 ⟨by rw [skM, it_t (by omega)], keepR.rf D, fun zq_h => by rw [skM, it_t (by omega)] at zq_h; omega⟩

set_option maxRecDepth 100000 in
set_option maxHeartbeats 4000000 in
theorem r_sf16 (D : Dd) (hF0 : FM D) (k u : Int) (hk : 0 ≤ k ∧ k < D 279 11) (hu : 0 ≤ u ∧ u < 16) (hN : (D 283 (D 279 10 + k).toNat) = 16) (ha : 0 ≤ (D 284 (D 279 10 + k).toNat) ∧ (D 284 (D 279 10 + k).toNat) < u) (hd : 0 ≤ D 287 k.toNat ∧ D 287 k.toNat ≤ 64) (hdp : ∀ v : Nat, (v : Int) ≤ u → 0 ≤ D 291 v ∧ D 291 v ≤ 10000) : MC 2 yX10_stackFault cX10_stackFault 7 (some .int) [vR 279, vI k, vI u] D (fun r D2 => some (vI (skM D k u 16 ((D 284 (D 279 10 + k).toNat)) ((D 285 (D 279 10 + k).toNat)))) = r ∧ keepR D D2 ∧ (skM D k u 16 ((D 284 (D 279 10 + k).toNat)) ((D 285 (D 279 10 + k).toNat)) = 0 → skMD D k u 16 ((D 284 (D 279 10 + k).toNat)) ((D 285 (D 279 10 + k).toNat)) = D2)) := by
  refine MC.mk [vR 279, vI k, vI u, vN, vN, vN, vN] (by decide) (Nat.le_of_ble_eq_true rfl) rfl (fun X Q hX hF hok hol => ?_)
  have zq_F := hF0
  unfold FM at hF0
  have zq_t := tk_in (16)
  have zq_l := lf_in (16)
  have zq_g : tgM 16 k ((D 284 (D 279 10 + k).toNat)) ((D 285 (D 279 10 + k).toNat)) (D 279 11) = [k + 1] := by unfold tgM; rw [if_neg (by omega), if_neg (by omega), if_neg (by omega), if_neg (by omega)]
  have zq_m : mrF D 16 ((D 284 (D 279 10 + k).toNat)) = D 291 ((D 284 (D 279 10 + k).toNat)).toNat := by unfold mrF; rw [if_pos (by omega)]
  have zq_u := hdp u.toNat (by omega)
  have zq_a := hdp ((D 284 (D 279 10 + k).toNat)).toNat (by have zq_q := ha; omega)
  have zq_S : ¬ D 287 k.toNat < tk 16 → ¬ 64 < (D 287 k.toNat - tk 16 + lf 16) → (cmLM (D 287 k.toNat - tk 16 + lf 16) (ndM D u ((D 287 k.toNat - tk 16 + lf 16) + mrF D 16 ((D 284 (D 279 10 + k).toNat)))) [k + 1] → skM D k u 16 ((D 284 (D 279 10 + k).toNat)) ((D 285 (D 279 10 + k).toNat)) = 0) ∧ (¬ cmLM (D 287 k.toNat - tk 16 + lf 16) (ndM D u ((D 287 k.toNat - tk 16 + lf 16) + mrF D 16 ((D 284 (D 279 10 + k).toNat)))) [k + 1] → skM D k u 16 ((D 284 (D 279 10 + k).toNat)) ((D 285 (D 279 10 + k).toNat)) = 10) := by
    intro zq_1 zq_2
    constructor
    · intro zq_L; rw [skM, it_f zq_1, it_f zq_2, zq_g, it_f (fun zq_q => zq_q zq_L)]
    · intro zq_L; rw [skM, it_f zq_1, it_f zq_2, zq_g, it_t zq_L]
  have zq_E : skMD D k u 16 ((D 284 (D 279 10 + k).toNat)) ((D 285 (D 279 10 + k).toNat)) = cmEM (D 287 k.toNat - tk 16 + lf 16) (ndM D u ((D 287 k.toNat - tk 16 + lf 16) + mrF D 16 ((D 284 (D 279 10 + k).toNat)))) [k + 1] := by rw [skMD, zq_g]
  refine w_aload_n (i := 0) hX dX10_stackFault_0 rfl rfl rfl ?_
  refine w_iload_n (i := 1) hX dX10_stackFault_1 rfl rfl rfl ?_
  refine c_V hX ml_RX10_128 cl9 dX10_stackFault_2 rfl (r_numberAt D zq_F k hk) rfl rfl rfl (by decide) (Nat.le_of_ble_eq_true rfl) ?_
  rintro _ _ ⟨rfl, rfl⟩ -
  rw [hN]
  all_goals try dsimp only [Option.toList, List.cons_append, List.nil_append]
  · refine w_istore_n (i := 3) hX dX10_stackFault_5 rfl rfl (by decide) ?_
    dsimp only [st1X, st2X, klX_I, klX_L, klX_R, klX_S, klX_N]
    refine w_aload_n (i := 0) hX dX10_stackFault_6 rfl rfl rfl ?_
    refine w_getR (j := 12) hX cl9 fl_RX10_31_9 rfl (by decide) rfl rfl dX10_stackFault_7 rfl ?_
    refine w_iload_n (i := 1) hX dX10_stackFault_10 rfl rfl rfl ?_
    refine w_iald hX rfl (by omega) (by omega) dX10_stackFault_11 rfl ?_
    refine w_istore hX dX10_stackFault_12 rfl (by decide) ?_
    dsimp only [st1X, st2X, klX_I, klX_L, klX_R, klX_S, klX_N]
    refine w_iload_n (i := 3) hX dX10_stackFault_14 rfl rfl rfl ?_
    refine c_S hX ml_RX10_160 dX10_stackFault_15 rfl (r_taken D 16) rfl rfl (by decide) (Nat.le_of_ble_eq_true rfl) ?_
    rintro _ _ ⟨rfl, rfl⟩ -
    all_goals try dsimp only [Option.toList, List.cons_append, List.nil_append]
    refine w_iload hX dX10_stackFault_18 rfl rfl ?_
    refine w_icmp_le (tgt := 26) hX dX10_stackFault_20 rfl (by decide) (fun h20 => ?_) (fun h20 => ?_)
    · refine w_iload hX dX10_stackFault_26 rfl rfl ?_
      refine w_iload_n (i := 3) hX dX10_stackFault_28 rfl rfl rfl ?_
      refine c_S hX ml_RX10_160 dX10_stackFault_29 rfl (r_taken D 16) rfl rfl (by decide) (Nat.le_of_ble_eq_true rfl) ?_
      rintro _ _ ⟨rfl, rfl⟩ -
      all_goals try dsimp only [Option.toList, List.cons_append, List.nil_append]
      refine w_isub hX dX10_stackFault_32 rfl (by omega) ?_
      refine w_iload_n (i := 3) hX dX10_stackFault_33 rfl rfl rfl ?_
      refine c_S hX ml_RX10_163 dX10_stackFault_34 rfl (r_left D 16 (by omega)) rfl rfl (by decide) (Nat.le_of_ble_eq_true rfl) ?_
      rintro _ _ ⟨rfl, rfl⟩ -
      all_goals try dsimp only [Option.toList, List.cons_append, List.nil_append]
      refine w_iadd hX dX10_stackFault_37 rfl (by omega) ?_
      refine w_istore hX dX10_stackFault_38 rfl (by decide) ?_
      dsimp only [st1X, st2X, klX_I, klX_L, klX_R, klX_S, klX_N]
      refine w_iload hX dX10_stackFault_40 rfl rfl ?_
      refine w_bipush hX dX10_stackFault_42 rfl (by decide) ?_
      refine w_icmp_le (tgt := 50) hX dX10_stackFault_44 rfl (by decide) (fun h44 => ?_) (fun h44 => ?_)
      · refine w_iload_n (i := 3) hX dX10_stackFault_50 rfl rfl rfl ?_
        refine w_bipush hX dX10_stackFault_51 rfl (by decide) ?_
        refine w_icmp_eq (tgt := 62) hX dX10_stackFault_53 rfl (by decide) (fun h53 => absurd h53 (by decide)) (fun _ => ?_)
        refine w_iload_n (i := 3) hX dX10_stackFault_56 rfl rfl rfl ?_
        refine w_bipush hX dX10_stackFault_57 rfl (by decide) ?_
        refine w_icmp_ne (tgt := 81) hX dX10_stackFault_59 rfl (by decide) (fun h59 => absurd h59 (by decide)) (fun _ => ?_)
        refine w_aload_n (i := 0) hX dX10_stackFault_62 rfl rfl rfl ?_
        refine w_getR (j := 16) hX cl9 fl_RX10_44_9 rfl (by decide) rfl rfl dX10_stackFault_63 rfl ?_
        refine w_aload_n (i := 0) hX dX10_stackFault_66 rfl rfl rfl ?_
        refine w_getR (j := 7) hX cl9 fl_RX10_22_9 rfl (by decide) rfl rfl dX10_stackFault_67 rfl ?_
        refine w_aload_n (i := 0) hX dX10_stackFault_70 rfl rfl rfl ?_
        refine w_getI (j := 10) hX cl9 fl_RX10_125_9 rfl (by decide) rfl dX10_stackFault_71 rfl ?_
        refine w_iload_n (i := 1) hX dX10_stackFault_74 rfl rfl rfl ?_
        refine w_iadd hX dX10_stackFault_75 rfl (by omega) ?_
        refine w_iald hX rfl (by omega) (by omega) dX10_stackFault_76 rfl ?_
        refine w_iald hX rfl (by have zq_q := ha; omega) (by have zq_q := ha; omega) dX10_stackFault_77 rfl ?_
        refine w_goto (tgt := 82) hX dX10_stackFault_78 (by decide) ?_
        refine w_istore hX dX10_stackFault_82 rfl (by decide) ?_
        dsimp only [st1X, st2X, klX_I, klX_L, klX_R, klX_S, klX_N]
        refine w_aload_n (i := 0) hX dX10_stackFault_84 rfl rfl rfl ?_
        refine w_getR (j := 16) hX cl9 fl_RX10_44_9 rfl (by decide) rfl rfl dX10_stackFault_85 rfl ?_
        refine w_iload_n (i := 2) hX dX10_stackFault_88 rfl rfl rfl ?_
        refine w_iload hX dX10_stackFault_89 rfl rfl ?_
        refine w_iload hX dX10_stackFault_91 rfl rfl ?_
        refine w_iadd hX dX10_stackFault_93 rfl (by omega) ?_
        refine w_aload_n (i := 0) hX dX10_stackFault_94 rfl rfl rfl ?_
        refine w_getR (j := 16) hX cl9 fl_RX10_44_9 rfl (by decide) rfl rfl dX10_stackFault_95 rfl ?_
        refine w_iload_n (i := 2) hX dX10_stackFault_98 rfl rfl rfl ?_
        refine w_iald hX rfl (by omega) (by omega) dX10_stackFault_99 rfl ?_
        refine w_icmp_le (tgt := 111) hX dX10_stackFault_100 rfl (by decide) (fun h100 => ?_) (fun h100 => ?_)
        · refine w_aload_n (i := 0) hX dX10_stackFault_111 rfl rfl rfl ?_
          refine w_getR (j := 16) hX cl9 fl_RX10_44_9 rfl (by decide) rfl rfl dX10_stackFault_112 rfl ?_
          refine w_iload_n (i := 2) hX dX10_stackFault_115 rfl rfl rfl ?_
          refine w_iald hX rfl (by omega) (by omega) dX10_stackFault_116 rfl ?_
          refine w_iast hX rfl (by omega) (by omega) dX10_stackFault_117 rfl ?_
          rw [show upD D 291 u.toNat _ = ndM D u ((D 287 k.toNat - tk 16 + lf 16) + mrF D 16 ((D 284 (D 279 10 + k).toNat))) by unfold ndM; rw [zq_m]; first | rw [if_pos (by omega)] | rw [if_neg (by omega)]]
          refine w_iconst hX dX10_stackFault_118 rfl (by decide) ?_
          refine w_istore hX dX10_stackFault_119 rfl (by decide) ?_
          dsimp only [st1X, st2X, klX_I, klX_L, klX_R, klX_S, klX_N]
          refine w_iload_n (i := 3) hX dX10_stackFault_121 rfl rfl rfl ?_
          refine w_bipush hX dX10_stackFault_122 rfl (by decide) ?_
          refine w_icmp_eq (tgt := 150) hX dX10_stackFault_124 rfl (by decide) (fun h124 => absurd h124 (by decide)) (fun _ => ?_)
          refine w_iload_n (i := 3) hX dX10_stackFault_127 rfl rfl rfl ?_
          refine w_bipush hX dX10_stackFault_128 rfl (by decide) ?_
          refine w_icmp_eq (tgt := 150) hX dX10_stackFault_130 rfl (by decide) (fun h130 => absurd h130 (by decide)) (fun _ => ?_)
          refine w_iload_n (i := 3) hX dX10_stackFault_133 rfl rfl rfl ?_
          refine w_bipush hX dX10_stackFault_134 rfl (by decide) ?_
          refine w_icmp_eq (tgt := 150) hX dX10_stackFault_136 rfl (by decide) (fun h136 => absurd h136 (by decide)) (fun _ => ?_)
          refine w_aload_n (i := 0) hX dX10_stackFault_139 rfl rfl rfl ?_
          refine w_iload_n (i := 1) hX dX10_stackFault_140 rfl rfl rfl ?_
          refine w_iconst hX dX10_stackFault_141 rfl (by decide) ?_
          refine w_iadd hX dX10_stackFault_142 rfl (by omega) ?_
          refine w_iload hX dX10_stackFault_143 rfl rfl ?_
          refine c_V hX ml_RX10_166 cl9 dX10_stackFault_145 rfl (r_comes _ (k + 1) _ (by omega) (by omega)) rfl rfl rfl (by decide) (Nat.le_of_ble_eq_true rfl) ?_
          rintro _ _ ⟨rfl, rfl⟩ -
          all_goals try dsimp only [Option.toList, List.cons_append, List.nil_append]
          refine w_istore hX dX10_stackFault_148 rfl (by decide) ?_
          dsimp only [st1X, st2X, klX_I, klX_L, klX_R, klX_S, klX_N]
          refine w_iload_n (i := 3) hX dX10_stackFault_150 rfl rfl rfl ?_
          refine w_bipush hX dX10_stackFault_151 rfl (by decide) ?_
          refine w_icmp_eq (tgt := 168) hX dX10_stackFault_153 rfl (by decide) (fun h153 => absurd h153 (by decide)) (fun _ => ?_)
          refine w_iload_n (i := 3) hX dX10_stackFault_156 rfl rfl rfl ?_
          refine w_bipush hX dX10_stackFault_157 rfl (by decide) ?_
          refine w_icmp_eq (tgt := 168) hX dX10_stackFault_159 rfl (by decide) (fun h159 => absurd h159 (by decide)) (fun _ => ?_)
          refine w_iload_n (i := 3) hX dX10_stackFault_162 rfl rfl rfl ?_
          refine w_bipush hX dX10_stackFault_163 rfl (by decide) ?_
          refine w_icmp_ne (tgt := 200) hX dX10_stackFault_165 rfl (by decide) (fun _ => ?_) (fun h165 => absurd (by decide) h165)
          refine w_iload_n (i := 3) hX dX10_stackFault_200 rfl rfl rfl ?_
          refine w_bipush hX dX10_stackFault_201 rfl (by decide) ?_
          refine w_icmp_ne (tgt := 238) hX dX10_stackFault_203 rfl (by decide) (fun _ => ?_) (fun h203 => absurd (by decide) h203)
          refine w_iload_n (i := 3) hX dX10_stackFault_238 rfl rfl rfl ?_
          refine w_bipush hX dX10_stackFault_239 rfl (by decide) ?_
          refine w_icmp_ne (tgt := 256) hX dX10_stackFault_241 rfl (by decide) (fun _ => ?_) (fun h241 => absurd (by decide) h241)
          refine w_iload hX dX10_stackFault_256 rfl rfl ?_
          refine w_if_eq (tgt := 265) hX dX10_stackFault_258 rfl (by decide) (fun h258 => ?_) (fun h258 => ?_)
          · rw [b2_0] at h258
            refine w_bipush hX dX10_stackFault_265 rfl (by decide) ?_
            exact e_i hX hF dX10_stackFault_267 (by first | exact ⟨congrArg (fun x => some (vI x)) ((zq_S (by omega) (by omega)).1 ⟨h258, trivial⟩), keepR.nd.tr keepR.cm, fun _ => zq_E⟩ | exact ⟨congrArg (fun x => some (vI x)) ((zq_S (by omega) (by omega)).2 (fun zq_q => h258 zq_q.1)), keepR.nd.tr keepR.cm, fun zq_h => absurd (zq_h.symm.trans ((zq_S (by omega) (by omega)).2 (fun zq_q => h258 zq_q.1))) (by decide)⟩)
          · rw [b2_n] at h258
            refine w_iconst hX dX10_stackFault_261 rfl (by decide) ?_
            refine w_goto (tgt := 267) hX dX10_stackFault_262 (by decide) ?_
            exact e_i hX hF dX10_stackFault_267 (by first | exact ⟨congrArg (fun x => some (vI x)) ((zq_S (by omega) (by omega)).1 ⟨h258, trivial⟩), keepR.nd.tr keepR.cm, fun _ => zq_E⟩ | exact ⟨congrArg (fun x => some (vI x)) ((zq_S (by omega) (by omega)).2 (fun zq_q => h258 zq_q.1)), keepR.nd.tr keepR.cm, fun zq_h => absurd (zq_h.symm.trans ((zq_S (by omega) (by omega)).2 (fun zq_q => h258 zq_q.1))) (by decide)⟩)
        · refine w_iload hX dX10_stackFault_103 rfl rfl ?_
          refine w_iload hX dX10_stackFault_105 rfl rfl ?_
          refine w_iadd hX dX10_stackFault_107 rfl (by omega) ?_
          refine w_goto (tgt := 117) hX dX10_stackFault_108 (by decide) ?_
          refine w_iast hX rfl (by omega) (by omega) dX10_stackFault_117 rfl ?_
          rw [show upD D 291 u.toNat _ = ndM D u ((D 287 k.toNat - tk 16 + lf 16) + mrF D 16 ((D 284 (D 279 10 + k).toNat))) by unfold ndM; rw [zq_m]; first | rw [if_pos (by omega)] | rw [if_neg (by omega)]]
          refine w_iconst hX dX10_stackFault_118 rfl (by decide) ?_
          refine w_istore hX dX10_stackFault_119 rfl (by decide) ?_
          dsimp only [st1X, st2X, klX_I, klX_L, klX_R, klX_S, klX_N]
          refine w_iload_n (i := 3) hX dX10_stackFault_121 rfl rfl rfl ?_
          refine w_bipush hX dX10_stackFault_122 rfl (by decide) ?_
          refine w_icmp_eq (tgt := 150) hX dX10_stackFault_124 rfl (by decide) (fun h124 => absurd h124 (by decide)) (fun _ => ?_)
          refine w_iload_n (i := 3) hX dX10_stackFault_127 rfl rfl rfl ?_
          refine w_bipush hX dX10_stackFault_128 rfl (by decide) ?_
          refine w_icmp_eq (tgt := 150) hX dX10_stackFault_130 rfl (by decide) (fun h130 => absurd h130 (by decide)) (fun _ => ?_)
          refine w_iload_n (i := 3) hX dX10_stackFault_133 rfl rfl rfl ?_
          refine w_bipush hX dX10_stackFault_134 rfl (by decide) ?_
          refine w_icmp_eq (tgt := 150) hX dX10_stackFault_136 rfl (by decide) (fun h136 => absurd h136 (by decide)) (fun _ => ?_)
          refine w_aload_n (i := 0) hX dX10_stackFault_139 rfl rfl rfl ?_
          refine w_iload_n (i := 1) hX dX10_stackFault_140 rfl rfl rfl ?_
          refine w_iconst hX dX10_stackFault_141 rfl (by decide) ?_
          refine w_iadd hX dX10_stackFault_142 rfl (by omega) ?_
          refine w_iload hX dX10_stackFault_143 rfl rfl ?_
          refine c_V hX ml_RX10_166 cl9 dX10_stackFault_145 rfl (r_comes _ (k + 1) _ (by omega) (by omega)) rfl rfl rfl (by decide) (Nat.le_of_ble_eq_true rfl) ?_
          rintro _ _ ⟨rfl, rfl⟩ -
          all_goals try dsimp only [Option.toList, List.cons_append, List.nil_append]
          refine w_istore hX dX10_stackFault_148 rfl (by decide) ?_
          dsimp only [st1X, st2X, klX_I, klX_L, klX_R, klX_S, klX_N]
          refine w_iload_n (i := 3) hX dX10_stackFault_150 rfl rfl rfl ?_
          refine w_bipush hX dX10_stackFault_151 rfl (by decide) ?_
          refine w_icmp_eq (tgt := 168) hX dX10_stackFault_153 rfl (by decide) (fun h153 => absurd h153 (by decide)) (fun _ => ?_)
          refine w_iload_n (i := 3) hX dX10_stackFault_156 rfl rfl rfl ?_
          refine w_bipush hX dX10_stackFault_157 rfl (by decide) ?_
          refine w_icmp_eq (tgt := 168) hX dX10_stackFault_159 rfl (by decide) (fun h159 => absurd h159 (by decide)) (fun _ => ?_)
          refine w_iload_n (i := 3) hX dX10_stackFault_162 rfl rfl rfl ?_
          refine w_bipush hX dX10_stackFault_163 rfl (by decide) ?_
          refine w_icmp_ne (tgt := 200) hX dX10_stackFault_165 rfl (by decide) (fun _ => ?_) (fun h165 => absurd (by decide) h165)
          refine w_iload_n (i := 3) hX dX10_stackFault_200 rfl rfl rfl ?_
          refine w_bipush hX dX10_stackFault_201 rfl (by decide) ?_
          refine w_icmp_ne (tgt := 238) hX dX10_stackFault_203 rfl (by decide) (fun _ => ?_) (fun h203 => absurd (by decide) h203)
          refine w_iload_n (i := 3) hX dX10_stackFault_238 rfl rfl rfl ?_
          refine w_bipush hX dX10_stackFault_239 rfl (by decide) ?_
          refine w_icmp_ne (tgt := 256) hX dX10_stackFault_241 rfl (by decide) (fun _ => ?_) (fun h241 => absurd (by decide) h241)
          refine w_iload hX dX10_stackFault_256 rfl rfl ?_
          refine w_if_eq (tgt := 265) hX dX10_stackFault_258 rfl (by decide) (fun h258 => ?_) (fun h258 => ?_)
          · rw [b2_0] at h258
            refine w_bipush hX dX10_stackFault_265 rfl (by decide) ?_
            exact e_i hX hF dX10_stackFault_267 (by first | exact ⟨congrArg (fun x => some (vI x)) ((zq_S (by omega) (by omega)).1 ⟨h258, trivial⟩), keepR.nd.tr keepR.cm, fun _ => zq_E⟩ | exact ⟨congrArg (fun x => some (vI x)) ((zq_S (by omega) (by omega)).2 (fun zq_q => h258 zq_q.1)), keepR.nd.tr keepR.cm, fun zq_h => absurd (zq_h.symm.trans ((zq_S (by omega) (by omega)).2 (fun zq_q => h258 zq_q.1))) (by decide)⟩)
          · rw [b2_n] at h258
            refine w_iconst hX dX10_stackFault_261 rfl (by decide) ?_
            refine w_goto (tgt := 267) hX dX10_stackFault_262 (by decide) ?_
            exact e_i hX hF dX10_stackFault_267 (by first | exact ⟨congrArg (fun x => some (vI x)) ((zq_S (by omega) (by omega)).1 ⟨h258, trivial⟩), keepR.nd.tr keepR.cm, fun _ => zq_E⟩ | exact ⟨congrArg (fun x => some (vI x)) ((zq_S (by omega) (by omega)).2 (fun zq_q => h258 zq_q.1)), keepR.nd.tr keepR.cm, fun zq_h => absurd (zq_h.symm.trans ((zq_S (by omega) (by omega)).2 (fun zq_q => h258 zq_q.1))) (by decide)⟩)
      · refine w_bipush hX dX10_stackFault_47 rfl (by decide) ?_
        exact e_i hX hF dX10_stackFault_49 ⟨by rw [skM, it_f (by omega), it_t (by omega)], keepR.rf D, fun zq_h => by rw [skM, it_f (by omega), it_t (by omega)] at zq_h; omega⟩
    · refine w_bipush hX dX10_stackFault_23 rfl (by decide) ?_
      exact e_i hX hF dX10_stackFault_25 ⟨by rw [skM, it_t (by omega)], keepR.rf D, fun zq_h => by rw [skM, it_t (by omega)] at zq_h; omega⟩

set_option maxRecDepth 100000 in
set_option maxHeartbeats 4000000 in
theorem r_sf18 (D : Dd) (hF0 : FM D) (k u : Int) (hk : 0 ≤ k ∧ k < D 279 11) (hu : 0 ≤ u ∧ u < 16) (hN : (D 283 (D 279 10 + k).toNat) = 18)  (hd : 0 ≤ D 287 k.toNat ∧ D 287 k.toNat ≤ 64) (hdp : ∀ v : Nat, (v : Int) ≤ u → 0 ≤ D 291 v ∧ D 291 v ≤ 10000) : MC 2 yX10_stackFault cX10_stackFault 7 (some .int) [vR 279, vI k, vI u] D (fun r D2 => some (vI (skM D k u 18 ((D 284 (D 279 10 + k).toNat)) ((D 285 (D 279 10 + k).toNat)))) = r ∧ keepR D D2 ∧ (skM D k u 18 ((D 284 (D 279 10 + k).toNat)) ((D 285 (D 279 10 + k).toNat)) = 0 → skMD D k u 18 ((D 284 (D 279 10 + k).toNat)) ((D 285 (D 279 10 + k).toNat)) = D2)) := by
  refine MC.mk [vR 279, vI k, vI u, vN, vN, vN, vN] (by decide) (Nat.le_of_ble_eq_true rfl) rfl (fun X Q hX hF hok hol => ?_)
  have zq_F := hF0
  unfold FM at hF0
  have zq_t := tk_in (18)
  have zq_l := lf_in (18)
  have zq_g : tgM 18 k ((D 284 (D 279 10 + k).toNat)) ((D 285 (D 279 10 + k).toNat)) (D 279 11) = [D 279 11] := by unfold tgM; rw [if_neg (by omega), if_neg (by omega), if_neg (by omega), if_pos (by omega)]
  have zq_m : mrF D 18 ((D 284 (D 279 10 + k).toNat)) = 0 := by unfold mrF; rw [if_neg (by omega)]
  have zq_u := hdp u.toNat (by omega)
  have zq_S : ¬ D 287 k.toNat < tk 18 → ¬ 64 < (D 287 k.toNat - tk 18 + lf 18) → (cmLM (D 287 k.toNat - tk 18 + lf 18) (ndM D u ((D 287 k.toNat - tk 18 + lf 18) + mrF D 18 ((D 284 (D 279 10 + k).toNat)))) [D 279 11] → skM D k u 18 ((D 284 (D 279 10 + k).toNat)) ((D 285 (D 279 10 + k).toNat)) = 0) ∧ (¬ cmLM (D 287 k.toNat - tk 18 + lf 18) (ndM D u ((D 287 k.toNat - tk 18 + lf 18) + mrF D 18 ((D 284 (D 279 10 + k).toNat)))) [D 279 11] → skM D k u 18 ((D 284 (D 279 10 + k).toNat)) ((D 285 (D 279 10 + k).toNat)) = 10) := by
    intro zq_1 zq_2
    constructor
    · intro zq_L; rw [skM, it_f zq_1, it_f zq_2, zq_g, it_f (fun zq_q => zq_q zq_L)]
    · intro zq_L; rw [skM, it_f zq_1, it_f zq_2, zq_g, it_t zq_L]
  have zq_E : skMD D k u 18 ((D 284 (D 279 10 + k).toNat)) ((D 285 (D 279 10 + k).toNat)) = cmEM (D 287 k.toNat - tk 18 + lf 18) (ndM D u ((D 287 k.toNat - tk 18 + lf 18) + mrF D 18 ((D 284 (D 279 10 + k).toNat)))) [D 279 11] := by rw [skMD, zq_g]
  refine w_aload_n (i := 0) hX dX10_stackFault_0 rfl rfl rfl ?_
  refine w_iload_n (i := 1) hX dX10_stackFault_1 rfl rfl rfl ?_
  refine c_V hX ml_RX10_128 cl9 dX10_stackFault_2 rfl (r_numberAt D zq_F k hk) rfl rfl rfl (by decide) (Nat.le_of_ble_eq_true rfl) ?_
  rintro _ _ ⟨rfl, rfl⟩ -
  rw [hN]
  all_goals try dsimp only [Option.toList, List.cons_append, List.nil_append]
  · refine w_istore_n (i := 3) hX dX10_stackFault_5 rfl rfl (by decide) ?_
    dsimp only [st1X, st2X, klX_I, klX_L, klX_R, klX_S, klX_N]
    refine w_aload_n (i := 0) hX dX10_stackFault_6 rfl rfl rfl ?_
    refine w_getR (j := 12) hX cl9 fl_RX10_31_9 rfl (by decide) rfl rfl dX10_stackFault_7 rfl ?_
    refine w_iload_n (i := 1) hX dX10_stackFault_10 rfl rfl rfl ?_
    refine w_iald hX rfl (by omega) (by omega) dX10_stackFault_11 rfl ?_
    refine w_istore hX dX10_stackFault_12 rfl (by decide) ?_
    dsimp only [st1X, st2X, klX_I, klX_L, klX_R, klX_S, klX_N]
    refine w_iload_n (i := 3) hX dX10_stackFault_14 rfl rfl rfl ?_
    refine c_S hX ml_RX10_160 dX10_stackFault_15 rfl (r_taken D 18) rfl rfl (by decide) (Nat.le_of_ble_eq_true rfl) ?_
    rintro _ _ ⟨rfl, rfl⟩ -
    all_goals try dsimp only [Option.toList, List.cons_append, List.nil_append]
    refine w_iload hX dX10_stackFault_18 rfl rfl ?_
    refine w_icmp_le (tgt := 26) hX dX10_stackFault_20 rfl (by decide) (fun h20 => ?_) (fun h20 => ?_)
    · refine w_iload hX dX10_stackFault_26 rfl rfl ?_
      refine w_iload_n (i := 3) hX dX10_stackFault_28 rfl rfl rfl ?_
      refine c_S hX ml_RX10_160 dX10_stackFault_29 rfl (r_taken D 18) rfl rfl (by decide) (Nat.le_of_ble_eq_true rfl) ?_
      rintro _ _ ⟨rfl, rfl⟩ -
      all_goals try dsimp only [Option.toList, List.cons_append, List.nil_append]
      refine w_isub hX dX10_stackFault_32 rfl (by omega) ?_
      refine w_iload_n (i := 3) hX dX10_stackFault_33 rfl rfl rfl ?_
      refine c_S hX ml_RX10_163 dX10_stackFault_34 rfl (r_left D 18 (by omega)) rfl rfl (by decide) (Nat.le_of_ble_eq_true rfl) ?_
      rintro _ _ ⟨rfl, rfl⟩ -
      all_goals try dsimp only [Option.toList, List.cons_append, List.nil_append]
      refine w_iadd hX dX10_stackFault_37 rfl (by omega) ?_
      refine w_istore hX dX10_stackFault_38 rfl (by decide) ?_
      dsimp only [st1X, st2X, klX_I, klX_L, klX_R, klX_S, klX_N]
      refine w_iload hX dX10_stackFault_40 rfl rfl ?_
      refine w_bipush hX dX10_stackFault_42 rfl (by decide) ?_
      refine w_icmp_le (tgt := 50) hX dX10_stackFault_44 rfl (by decide) (fun h44 => ?_) (fun h44 => ?_)
      · refine w_iload_n (i := 3) hX dX10_stackFault_50 rfl rfl rfl ?_
        refine w_bipush hX dX10_stackFault_51 rfl (by decide) ?_
        refine w_icmp_eq (tgt := 62) hX dX10_stackFault_53 rfl (by decide) (fun h53 => absurd h53 (by decide)) (fun _ => ?_)
        refine w_iload_n (i := 3) hX dX10_stackFault_56 rfl rfl rfl ?_
        refine w_bipush hX dX10_stackFault_57 rfl (by decide) ?_
        refine w_icmp_ne (tgt := 81) hX dX10_stackFault_59 rfl (by decide) (fun _ => ?_) (fun h59 => absurd (by decide) h59)
        refine w_iconst hX dX10_stackFault_81 rfl (by decide) ?_
        refine w_istore hX dX10_stackFault_82 rfl (by decide) ?_
        dsimp only [st1X, st2X, klX_I, klX_L, klX_R, klX_S, klX_N]
        refine w_aload_n (i := 0) hX dX10_stackFault_84 rfl rfl rfl ?_
        refine w_getR (j := 16) hX cl9 fl_RX10_44_9 rfl (by decide) rfl rfl dX10_stackFault_85 rfl ?_
        refine w_iload_n (i := 2) hX dX10_stackFault_88 rfl rfl rfl ?_
        refine w_iload hX dX10_stackFault_89 rfl rfl ?_
        refine w_iload hX dX10_stackFault_91 rfl rfl ?_
        refine w_iadd hX dX10_stackFault_93 rfl (by omega) ?_
        refine w_aload_n (i := 0) hX dX10_stackFault_94 rfl rfl rfl ?_
        refine w_getR (j := 16) hX cl9 fl_RX10_44_9 rfl (by decide) rfl rfl dX10_stackFault_95 rfl ?_
        refine w_iload_n (i := 2) hX dX10_stackFault_98 rfl rfl rfl ?_
        refine w_iald hX rfl (by omega) (by omega) dX10_stackFault_99 rfl ?_
        refine w_icmp_le (tgt := 111) hX dX10_stackFault_100 rfl (by decide) (fun h100 => ?_) (fun h100 => ?_)
        · refine w_aload_n (i := 0) hX dX10_stackFault_111 rfl rfl rfl ?_
          refine w_getR (j := 16) hX cl9 fl_RX10_44_9 rfl (by decide) rfl rfl dX10_stackFault_112 rfl ?_
          refine w_iload_n (i := 2) hX dX10_stackFault_115 rfl rfl rfl ?_
          refine w_iald hX rfl (by omega) (by omega) dX10_stackFault_116 rfl ?_
          refine w_iast hX rfl (by omega) (by omega) dX10_stackFault_117 rfl ?_
          rw [show upD D 291 u.toNat _ = ndM D u ((D 287 k.toNat - tk 18 + lf 18) + mrF D 18 ((D 284 (D 279 10 + k).toNat))) by unfold ndM; rw [zq_m]; first | rw [if_pos (by omega)] | rw [if_neg (by omega)]]
          refine w_iconst hX dX10_stackFault_118 rfl (by decide) ?_
          refine w_istore hX dX10_stackFault_119 rfl (by decide) ?_
          dsimp only [st1X, st2X, klX_I, klX_L, klX_R, klX_S, klX_N]
          refine w_iload_n (i := 3) hX dX10_stackFault_121 rfl rfl rfl ?_
          refine w_bipush hX dX10_stackFault_122 rfl (by decide) ?_
          refine w_icmp_eq (tgt := 150) hX dX10_stackFault_124 rfl (by decide) (fun h124 => absurd h124 (by decide)) (fun _ => ?_)
          refine w_iload_n (i := 3) hX dX10_stackFault_127 rfl rfl rfl ?_
          refine w_bipush hX dX10_stackFault_128 rfl (by decide) ?_
          refine w_icmp_eq (tgt := 150) hX dX10_stackFault_130 rfl (by decide) (fun h130 => absurd h130 (by decide)) (fun _ => ?_)
          refine w_iload_n (i := 3) hX dX10_stackFault_133 rfl rfl rfl ?_
          refine w_bipush hX dX10_stackFault_134 rfl (by decide) ?_
          refine w_icmp_eq (tgt := 150) hX dX10_stackFault_136 rfl (by decide) (fun _ => ?_) (fun h136 => absurd (by decide) h136)
          refine w_iload_n (i := 3) hX dX10_stackFault_150 rfl rfl rfl ?_
          refine w_bipush hX dX10_stackFault_151 rfl (by decide) ?_
          refine w_icmp_eq (tgt := 168) hX dX10_stackFault_153 rfl (by decide) (fun h153 => absurd h153 (by decide)) (fun _ => ?_)
          refine w_iload_n (i := 3) hX dX10_stackFault_156 rfl rfl rfl ?_
          refine w_bipush hX dX10_stackFault_157 rfl (by decide) ?_
          refine w_icmp_eq (tgt := 168) hX dX10_stackFault_159 rfl (by decide) (fun h159 => absurd h159 (by decide)) (fun _ => ?_)
          refine w_iload_n (i := 3) hX dX10_stackFault_162 rfl rfl rfl ?_
          refine w_bipush hX dX10_stackFault_163 rfl (by decide) ?_
          refine w_icmp_ne (tgt := 200) hX dX10_stackFault_165 rfl (by decide) (fun _ => ?_) (fun h165 => absurd (by decide) h165)
          refine w_iload_n (i := 3) hX dX10_stackFault_200 rfl rfl rfl ?_
          refine w_bipush hX dX10_stackFault_201 rfl (by decide) ?_
          refine w_icmp_ne (tgt := 238) hX dX10_stackFault_203 rfl (by decide) (fun _ => ?_) (fun h203 => absurd (by decide) h203)
          refine w_iload_n (i := 3) hX dX10_stackFault_238 rfl rfl rfl ?_
          refine w_bipush hX dX10_stackFault_239 rfl (by decide) ?_
          refine w_icmp_ne (tgt := 256) hX dX10_stackFault_241 rfl (by decide) (fun h241 => absurd h241 (by decide)) (fun _ => ?_)
          refine w_iload hX dX10_stackFault_244 rfl rfl ?_
          refine w_if_ne (tgt := 253) hX dX10_stackFault_246 rfl (by decide) (fun h246 => ?_) (fun h246 => ?_)
          · refine w_iconst hX dX10_stackFault_253 rfl (by decide) ?_
            refine w_istore hX dX10_stackFault_254 rfl (by decide) ?_
            dsimp only [st1X, st2X, klX_I, klX_L, klX_R, klX_S, klX_N]
            refine w_iload hX dX10_stackFault_256 rfl rfl ?_
            refine w_if_eq (tgt := 265) hX dX10_stackFault_258 rfl (by decide) (fun _ => ?_) (fun h258 => absurd (by decide) h258)
            refine w_bipush hX dX10_stackFault_265 rfl (by decide) ?_
            exact e_i hX hF dX10_stackFault_267 (by first | exact ⟨congrArg (fun x => some (vI x)) ((zq_S (by omega) (by omega)).1 ⟨Or.inl ⟨by rw [keepR.nd _ _ (by decide) (by decide)], Classical.not_not.mp h246⟩, trivial⟩), keepR.nd, fun _ => (zq_E.trans (by simp only [cmEM, cmMD]; rw [if_neg (fun zq_q => zq_q.1 (by rw [keepR.nd _ _ (by decide) (by decide)]))]))⟩ | exact ⟨congrArg (fun x => some (vI x)) ((zq_S (by omega) (by omega)).2 (fun zq_q => by rcases zq_q.1 with zq_x | zq_x; exact h246 zq_x.2; exact zq_x.1 (by rw [keepR.nd _ _ (by decide) (by decide)]))), keepR.nd, fun zq_h => absurd (zq_h.symm.trans ((zq_S (by omega) (by omega)).2 (fun zq_q => by rcases zq_q.1 with zq_x | zq_x; exact h246 zq_x.2; exact zq_x.1 (by rw [keepR.nd _ _ (by decide) (by decide)])))) (by decide)⟩)
          · refine w_iconst hX dX10_stackFault_249 rfl (by decide) ?_
            refine w_goto (tgt := 254) hX dX10_stackFault_250 (by decide) ?_
            refine w_istore hX dX10_stackFault_254 rfl (by decide) ?_
            dsimp only [st1X, st2X, klX_I, klX_L, klX_R, klX_S, klX_N]
            refine w_iload hX dX10_stackFault_256 rfl rfl ?_
            refine w_if_eq (tgt := 265) hX dX10_stackFault_258 rfl (by decide) (fun h258 => absurd h258 (by decide)) (fun _ => ?_)
            refine w_iconst hX dX10_stackFault_261 rfl (by decide) ?_
            refine w_goto (tgt := 267) hX dX10_stackFault_262 (by decide) ?_
            exact e_i hX hF dX10_stackFault_267 (by first | exact ⟨congrArg (fun x => some (vI x)) ((zq_S (by omega) (by omega)).1 ⟨Or.inl ⟨by rw [keepR.nd _ _ (by decide) (by decide)], Classical.not_not.mp h246⟩, trivial⟩), keepR.nd, fun _ => (zq_E.trans (by simp only [cmEM, cmMD]; rw [if_neg (fun zq_q => zq_q.1 (by rw [keepR.nd _ _ (by decide) (by decide)]))]))⟩ | exact ⟨congrArg (fun x => some (vI x)) ((zq_S (by omega) (by omega)).2 (fun zq_q => by rcases zq_q.1 with zq_x | zq_x; exact h246 zq_x.2; exact zq_x.1 (by rw [keepR.nd _ _ (by decide) (by decide)]))), keepR.nd, fun zq_h => absurd (zq_h.symm.trans ((zq_S (by omega) (by omega)).2 (fun zq_q => by rcases zq_q.1 with zq_x | zq_x; exact h246 zq_x.2; exact zq_x.1 (by rw [keepR.nd _ _ (by decide) (by decide)])))) (by decide)⟩)
        · refine w_iload hX dX10_stackFault_103 rfl rfl ?_
          refine w_iload hX dX10_stackFault_105 rfl rfl ?_
          refine w_iadd hX dX10_stackFault_107 rfl (by omega) ?_
          refine w_goto (tgt := 117) hX dX10_stackFault_108 (by decide) ?_
          refine w_iast hX rfl (by omega) (by omega) dX10_stackFault_117 rfl ?_
          rw [show upD D 291 u.toNat _ = ndM D u ((D 287 k.toNat - tk 18 + lf 18) + mrF D 18 ((D 284 (D 279 10 + k).toNat))) by unfold ndM; rw [zq_m]; first | rw [if_pos (by omega)] | rw [if_neg (by omega)]]
          refine w_iconst hX dX10_stackFault_118 rfl (by decide) ?_
          refine w_istore hX dX10_stackFault_119 rfl (by decide) ?_
          dsimp only [st1X, st2X, klX_I, klX_L, klX_R, klX_S, klX_N]
          refine w_iload_n (i := 3) hX dX10_stackFault_121 rfl rfl rfl ?_
          refine w_bipush hX dX10_stackFault_122 rfl (by decide) ?_
          refine w_icmp_eq (tgt := 150) hX dX10_stackFault_124 rfl (by decide) (fun h124 => absurd h124 (by decide)) (fun _ => ?_)
          refine w_iload_n (i := 3) hX dX10_stackFault_127 rfl rfl rfl ?_
          refine w_bipush hX dX10_stackFault_128 rfl (by decide) ?_
          refine w_icmp_eq (tgt := 150) hX dX10_stackFault_130 rfl (by decide) (fun h130 => absurd h130 (by decide)) (fun _ => ?_)
          refine w_iload_n (i := 3) hX dX10_stackFault_133 rfl rfl rfl ?_
          refine w_bipush hX dX10_stackFault_134 rfl (by decide) ?_
          refine w_icmp_eq (tgt := 150) hX dX10_stackFault_136 rfl (by decide) (fun _ => ?_) (fun h136 => absurd (by decide) h136)
          refine w_iload_n (i := 3) hX dX10_stackFault_150 rfl rfl rfl ?_
          refine w_bipush hX dX10_stackFault_151 rfl (by decide) ?_
          refine w_icmp_eq (tgt := 168) hX dX10_stackFault_153 rfl (by decide) (fun h153 => absurd h153 (by decide)) (fun _ => ?_)
          refine w_iload_n (i := 3) hX dX10_stackFault_156 rfl rfl rfl ?_
          refine w_bipush hX dX10_stackFault_157 rfl (by decide) ?_
          refine w_icmp_eq (tgt := 168) hX dX10_stackFault_159 rfl (by decide) (fun h159 => absurd h159 (by decide)) (fun _ => ?_)
          refine w_iload_n (i := 3) hX dX10_stackFault_162 rfl rfl rfl ?_
          refine w_bipush hX dX10_stackFault_163 rfl (by decide) ?_
          refine w_icmp_ne (tgt := 200) hX dX10_stackFault_165 rfl (by decide) (fun _ => ?_) (fun h165 => absurd (by decide) h165)
          refine w_iload_n (i := 3) hX dX10_stackFault_200 rfl rfl rfl ?_
          refine w_bipush hX dX10_stackFault_201 rfl (by decide) ?_
          refine w_icmp_ne (tgt := 238) hX dX10_stackFault_203 rfl (by decide) (fun _ => ?_) (fun h203 => absurd (by decide) h203)
          refine w_iload_n (i := 3) hX dX10_stackFault_238 rfl rfl rfl ?_
          refine w_bipush hX dX10_stackFault_239 rfl (by decide) ?_
          refine w_icmp_ne (tgt := 256) hX dX10_stackFault_241 rfl (by decide) (fun h241 => absurd h241 (by decide)) (fun _ => ?_)
          refine w_iload hX dX10_stackFault_244 rfl rfl ?_
          refine w_if_ne (tgt := 253) hX dX10_stackFault_246 rfl (by decide) (fun h246 => ?_) (fun h246 => ?_)
          · refine w_iconst hX dX10_stackFault_253 rfl (by decide) ?_
            refine w_istore hX dX10_stackFault_254 rfl (by decide) ?_
            dsimp only [st1X, st2X, klX_I, klX_L, klX_R, klX_S, klX_N]
            refine w_iload hX dX10_stackFault_256 rfl rfl ?_
            refine w_if_eq (tgt := 265) hX dX10_stackFault_258 rfl (by decide) (fun _ => ?_) (fun h258 => absurd (by decide) h258)
            refine w_bipush hX dX10_stackFault_265 rfl (by decide) ?_
            exact e_i hX hF dX10_stackFault_267 (by first | exact ⟨congrArg (fun x => some (vI x)) ((zq_S (by omega) (by omega)).1 ⟨Or.inl ⟨by rw [keepR.nd _ _ (by decide) (by decide)], Classical.not_not.mp h246⟩, trivial⟩), keepR.nd, fun _ => (zq_E.trans (by simp only [cmEM, cmMD]; rw [if_neg (fun zq_q => zq_q.1 (by rw [keepR.nd _ _ (by decide) (by decide)]))]))⟩ | exact ⟨congrArg (fun x => some (vI x)) ((zq_S (by omega) (by omega)).2 (fun zq_q => by rcases zq_q.1 with zq_x | zq_x; exact h246 zq_x.2; exact zq_x.1 (by rw [keepR.nd _ _ (by decide) (by decide)]))), keepR.nd, fun zq_h => absurd (zq_h.symm.trans ((zq_S (by omega) (by omega)).2 (fun zq_q => by rcases zq_q.1 with zq_x | zq_x; exact h246 zq_x.2; exact zq_x.1 (by rw [keepR.nd _ _ (by decide) (by decide)])))) (by decide)⟩)
          · refine w_iconst hX dX10_stackFault_249 rfl (by decide) ?_
            refine w_goto (tgt := 254) hX dX10_stackFault_250 (by decide) ?_
            refine w_istore hX dX10_stackFault_254 rfl (by decide) ?_
            dsimp only [st1X, st2X, klX_I, klX_L, klX_R, klX_S, klX_N]
            refine w_iload hX dX10_stackFault_256 rfl rfl ?_
            refine w_if_eq (tgt := 265) hX dX10_stackFault_258 rfl (by decide) (fun h258 => absurd h258 (by decide)) (fun _ => ?_)
            refine w_iconst hX dX10_stackFault_261 rfl (by decide) ?_
            refine w_goto (tgt := 267) hX dX10_stackFault_262 (by decide) ?_
            exact e_i hX hF dX10_stackFault_267 (by first | exact ⟨congrArg (fun x => some (vI x)) ((zq_S (by omega) (by omega)).1 ⟨Or.inl ⟨by rw [keepR.nd _ _ (by decide) (by decide)], Classical.not_not.mp h246⟩, trivial⟩), keepR.nd, fun _ => (zq_E.trans (by simp only [cmEM, cmMD]; rw [if_neg (fun zq_q => zq_q.1 (by rw [keepR.nd _ _ (by decide) (by decide)]))]))⟩ | exact ⟨congrArg (fun x => some (vI x)) ((zq_S (by omega) (by omega)).2 (fun zq_q => by rcases zq_q.1 with zq_x | zq_x; exact h246 zq_x.2; exact zq_x.1 (by rw [keepR.nd _ _ (by decide) (by decide)]))), keepR.nd, fun zq_h => absurd (zq_h.symm.trans ((zq_S (by omega) (by omega)).2 (fun zq_q => by rcases zq_q.1 with zq_x | zq_x; exact h246 zq_x.2; exact zq_x.1 (by rw [keepR.nd _ _ (by decide) (by decide)])))) (by decide)⟩)
      · refine w_bipush hX dX10_stackFault_47 rfl (by decide) ?_
        exact e_i hX hF dX10_stackFault_49 ⟨by rw [skM, it_f (by omega), it_t (by omega)], keepR.rf D, fun zq_h => by rw [skM, it_f (by omega), it_t (by omega)] at zq_h; omega⟩
    · refine w_bipush hX dX10_stackFault_23 rfl (by decide) ?_
      exact e_i hX hF dX10_stackFault_25 ⟨by rw [skM, it_t (by omega)], keepR.rf D, fun zq_h => by rw [skM, it_t (by omega)] at zq_h; omega⟩
