/-! The constructor of the reference -/
/-- the numbers behind the reference's constructor, from those before it -/
def MDP (D D2 : Dd) : Prop := (∀ a b, a < 279 → D2 a b = D a b) ∧ D2 279 0 = 64 ∧ D2 279 1 = 0 ∧ D2 279 5 = 0 ∧ D2 279 17 = 0 ∧ D2 279 18 = -1 ∧ D2 279 19 = -1 ∧ D2 279 20 = 0 ∧ ∀ a b, 279 < a → a < 296 → D2 a b = 0
set_option maxRecDepth 100000 in
set_option maxHeartbeats 4000000 in
theorem mi_model (R : Rd) (D : Dd) (hR : ∀ a b, a < 279 → R a b = R0 a b) (hR9 : ∀ b, R 279 b = none) : MX 3 16 6031 yX10_init cX10_init 1 none [vR 279] 280 K0 R D (fun r n2 K2 R2 D2 => r = none ∧ n2 = 296 ∧ K2 = K0 ∧ R2 = R0 ∧ MDP D D2) := by
  refine MX.mk [vR 279] (by decide) (Nat.le_of_ble_eq_true rfl) rfl (fun X Q hX hF => ?_)
  refine w_aload_n (i := 0) hX dX10_init_0 rfl rfl rfl ?_
  refine w_objInit hX ml_RX10_1 (by decide) (Nat.le_of_ble_eq_true rfl) dX10_init_1 rfl ?_
  refine w_aload_n (i := 0) hX dX10_init_4 rfl rfl rfl ?_
  refine w_bipush hX dX10_init_5 rfl (by decide) ?_
  refine v_newI (N := 16) (n1 := 281) (kc1 := 1) (ks1 := 16) hX (by decide) ⟨by decide, by decide⟩ dX10_init_7 rfl rfl rfl rfl rfl ?_
  refine w_putRF (j := 2) hX cl9 fl_RX10_7_9 rfl (by decide) rfl rfl rfl rfl (Or.inr ⟨_, rfl⟩) dX10_init_9 rfl ?_
  refine w_aload_n (i := 0) hX dX10_init_12 rfl rfl rfl ?_
  refine w_bipush hX dX10_init_13 rfl (by decide) ?_
  refine v_newI (N := 16) (n1 := 282) (kc1 := 2) (ks1 := 32) hX (by decide) ⟨by decide, by decide⟩ dX10_init_15 rfl rfl rfl rfl rfl ?_
  refine w_putRF (j := 3) hX cl9 fl_RX10_13_9 rfl (by decide) rfl rfl rfl rfl (Or.inr ⟨_, rfl⟩) dX10_init_17 rfl ?_
  refine w_aload_n (i := 0) hX dX10_init_20 rfl rfl rfl ?_
  refine w_bipush hX dX10_init_21 rfl (by decide) ?_
  refine v_newI (N := 17) (n1 := 283) (kc1 := 3) (ks1 := 49) hX (by decide) ⟨by decide, by decide⟩ dX10_init_23 rfl rfl rfl rfl rfl ?_
  refine w_putRF (j := 4) hX cl9 fl_RX10_16_9 rfl (by decide) rfl rfl rfl rfl (Or.inr ⟨_, rfl⟩) dX10_init_25 rfl ?_
  refine w_aload_n (i := 0) hX dX10_init_28 rfl rfl rfl ?_
  refine w_sipush hX dX10_init_29 rfl (by decide) ?_
  refine v_newI (N := 256) (n1 := 284) (kc1 := 4) (ks1 := 305) hX (by decide) ⟨by decide, by decide⟩ dX10_init_32 rfl rfl rfl rfl rfl ?_
  refine w_putRF (j := 6) hX cl9 fl_RX10_19_9 rfl (by decide) rfl rfl rfl rfl (Or.inr ⟨_, rfl⟩) dX10_init_34 rfl ?_
  refine w_aload_n (i := 0) hX dX10_init_37 rfl rfl rfl ?_
  refine w_sipush hX dX10_init_38 rfl (by decide) ?_
  refine v_newI (N := 256) (n1 := 285) (kc1 := 5) (ks1 := 561) hX (by decide) ⟨by decide, by decide⟩ dX10_init_41 rfl rfl rfl rfl rfl ?_
  refine w_putRF (j := 7) hX cl9 fl_RX10_22_9 rfl (by decide) rfl rfl rfl rfl (Or.inr ⟨_, rfl⟩) dX10_init_43 rfl ?_
  refine w_aload_n (i := 0) hX dX10_init_46 rfl rfl rfl ?_
  refine w_sipush hX dX10_init_47 rfl (by decide) ?_
  refine v_newI (N := 256) (n1 := 286) (kc1 := 6) (ks1 := 817) hX (by decide) ⟨by decide, by decide⟩ dX10_init_50 rfl rfl rfl rfl rfl ?_
  refine w_putRF (j := 8) hX cl9 fl_RX10_25_9 rfl (by decide) rfl rfl rfl rfl (Or.inr ⟨_, rfl⟩) dX10_init_52 rfl ?_
  refine w_aload_n (i := 0) hX dX10_init_55 rfl rfl rfl ?_
  refine w_sipush hX dX10_init_56 rfl (by decide) ?_
  refine v_newI (N := 256) (n1 := 287) (kc1 := 7) (ks1 := 1073) hX (by decide) ⟨by decide, by decide⟩ dX10_init_59 rfl rfl rfl rfl rfl ?_
  refine w_putRF (j := 9) hX cl9 fl_RX10_28_9 rfl (by decide) rfl rfl rfl rfl (Or.inr ⟨_, rfl⟩) dX10_init_61 rfl ?_
  refine w_aload_n (i := 0) hX dX10_init_64 rfl rfl rfl ?_
  refine w_sipush hX dX10_init_65 rfl (by decide) ?_
  refine v_newI (N := 257) (n1 := 288) (kc1 := 8) (ks1 := 1330) hX (by decide) ⟨by decide, by decide⟩ dX10_init_68 rfl rfl rfl rfl rfl ?_
  refine w_putRF (j := 12) hX cl9 fl_RX10_31_9 rfl (by decide) rfl rfl rfl rfl (Or.inr ⟨_, rfl⟩) dX10_init_70 rfl ?_
  refine w_aload_n (i := 0) hX dX10_init_73 rfl rfl rfl ?_
  refine w_sipush hX dX10_init_74 rfl (by decide) ?_
  refine v_newL (N := 257) (n1 := 289) (kc1 := 9) (ks1 := 1587) hX (by decide) ⟨by decide, by decide⟩ dX10_init_77 rfl rfl rfl rfl rfl ?_
  refine w_putRF (j := 13) hX cl9 fl_RX10_34_9 rfl (by decide) rfl rfl rfl rfl (Or.inr ⟨_, rfl⟩) dX10_init_79 rfl ?_
  refine w_aload_n (i := 0) hX dX10_init_82 rfl rfl rfl ?_
  refine w_sipush hX dX10_init_83 rfl (by decide) ?_
  refine v_newL (N := 256) (n1 := 290) (kc1 := 10) (ks1 := 1843) hX (by decide) ⟨by decide, by decide⟩ dX10_init_86 rfl rfl rfl rfl rfl ?_
  refine w_putRF (j := 14) hX cl9 fl_RX10_38_9 rfl (by decide) rfl rfl rfl rfl (Or.inr ⟨_, rfl⟩) dX10_init_88 rfl ?_
  refine w_aload_n (i := 0) hX dX10_init_91 rfl rfl rfl ?_
  refine w_bipush hX dX10_init_92 rfl (by decide) ?_
  refine v_newL (N := 16) (n1 := 291) (kc1 := 11) (ks1 := 1859) hX (by decide) ⟨by decide, by decide⟩ dX10_init_94 rfl rfl rfl rfl rfl ?_
  refine w_putRF (j := 15) hX cl9 fl_RX10_41_9 rfl (by decide) rfl rfl rfl rfl (Or.inr ⟨_, rfl⟩) dX10_init_96 rfl ?_
  refine w_aload_n (i := 0) hX dX10_init_99 rfl rfl rfl ?_
  refine w_bipush hX dX10_init_100 rfl (by decide) ?_
  refine v_newI (N := 16) (n1 := 292) (kc1 := 12) (ks1 := 1875) hX (by decide) ⟨by decide, by decide⟩ dX10_init_102 rfl rfl rfl rfl rfl ?_
  refine w_putRF (j := 16) hX cl9 fl_RX10_44_9 rfl (by decide) rfl rfl rfl rfl (Or.inr ⟨_, rfl⟩) dX10_init_104 rfl ?_
  refine w_aload_n (i := 0) hX dX10_init_107 rfl rfl rfl ?_
  refine w_iconst hX dX10_init_108 rfl (by decide) ?_
  refine w_putI (j := 18) hX cl9 fl_RX10_47_9 rfl (by decide) rfl rfl (Or.inl rfl) dX10_init_109 rfl ?_
  refine w_aload_n (i := 0) hX dX10_init_112 rfl rfl rfl ?_
  refine w_iconst hX dX10_init_113 rfl (by decide) ?_
  refine w_putI (j := 19) hX cl9 fl_RX10_51_9 rfl (by decide) rfl rfl (Or.inl rfl) dX10_init_114 rfl ?_
  refine w_aload_n (i := 0) hX dX10_init_117 rfl rfl rfl ?_
  refine w_sipush hX dX10_init_118 rfl (by decide) ?_
  refine v_newI (N := 4096) (n1 := 293) (kc1 := 13) (ks1 := 5971) hX (by decide) ⟨by decide, by decide⟩ dX10_init_121 rfl rfl rfl rfl rfl ?_
  refine w_putRF (j := 21) hX cl9 fl_RX10_54_9 rfl (by decide) rfl rfl rfl rfl (Or.inr ⟨_, rfl⟩) dX10_init_123 rfl ?_
  refine w_aload_n (i := 0) hX dX10_init_126 rfl rfl rfl ?_
  refine w_bipush hX dX10_init_127 rfl (by decide) ?_
  refine v_newI (N := 20) (n1 := 294) (kc1 := 14) (ks1 := 5991) hX (by decide) ⟨by decide, by decide⟩ dX10_init_129 rfl rfl rfl rfl rfl ?_
  refine w_putRF (j := 22) hX cl9 fl_RX10_57_9 rfl (by decide) rfl rfl rfl rfl (Or.inr ⟨_, rfl⟩) dX10_init_131 rfl ?_
  refine w_aload_n (i := 0) hX dX10_init_134 rfl rfl rfl ?_
  refine w_bipush hX dX10_init_135 rfl (by decide) ?_
  refine v_newI (N := 20) (n1 := 295) (kc1 := 15) (ks1 := 6011) hX (by decide) ⟨by decide, by decide⟩ dX10_init_137 rfl rfl rfl rfl rfl ?_
  refine w_putRF (j := 23) hX cl9 fl_RX10_60_9 rfl (by decide) rfl rfl rfl rfl (Or.inr ⟨_, rfl⟩) dX10_init_139 rfl ?_
  refine w_aload_n (i := 0) hX dX10_init_142 rfl rfl rfl ?_
  refine w_bipush hX dX10_init_143 rfl (by decide) ?_
  refine v_newI (N := 20) (n1 := 296) (kc1 := 16) (ks1 := 6031) hX (by decide) ⟨by decide, by decide⟩ dX10_init_145 rfl rfl rfl rfl rfl ?_
  refine w_putRF (j := 24) hX cl9 fl_RX10_63_9 rfl (by decide) rfl rfl rfl rfl (Or.inr ⟨_, rfl⟩) dX10_init_147 rfl ?_
  refine w_aload_n (i := 0) hX dX10_init_150 rfl rfl rfl ?_
  refine w_bipush hX dX10_init_151 rfl (by decide) ?_
  have zq_R : ∀ k, k < 296 → R0 k = (upR (nwR (upR (nwR (upR (nwR (upR (nwR (upR (nwR (upR (nwR (upR (nwR (upR (nwR (upR (nwR (upR (nwR (upR (nwR (upR (nwR (upR (nwR (upR (nwR (upR (nwR (upR (nwR R 280) 279 2 (some 280)) 281) 279 3 (some 281)) 282) 279 4 (some 282)) 283) 279 6 (some 283)) 284) 279 7 (some 284)) 285) 279 8 (some 285)) 286) 279 9 (some 286)) 287) 279 12 (some 287)) 288) 279 13 (some 288)) 289) 279 14 (some 289)) 290) 279 15 (some 290)) 291) 279 16 (some 291)) 292) 279 21 (some 292)) 293) 279 22 (some 293)) 294) 279 23 (some 294)) 295) 279 24 (some 295)) k := fun a ha => by
    funext b
    symm
    by_cases h1 : a < 279
    · repeat (first | rw [upR_a (by omega)] | rw [nwR_a (by omega)])
      exact hR a b h1
    · have zq_a : a = 279 ∨ a = 280 ∨ a = 281 ∨ a = 282 ∨ a = 283 ∨ a = 284 ∨ a = 285 ∨ a = 286 ∨ a = 287 ∨ a = 288 ∨ a = 289 ∨ a = 290 ∨ a = 291 ∨ a = 292 ∨ a = 293 ∨ a = 294 ∨ a = 295 := by omega
      rcases zq_a with rfl | rfl | rfl | rfl | rfl | rfl | rfl | rfl | rfl | rfl | rfl | rfl | rfl | rfl | rfl | rfl | rfl
      · match b with
        | 0 => first | rfl | exact hR9 0
        | 1 => first | rfl | exact hR9 1
        | 2 => first | rfl | exact hR9 2
        | 3 => first | rfl | exact hR9 3
        | 4 => first | rfl | exact hR9 4
        | 5 => first | rfl | exact hR9 5
        | 6 => first | rfl | exact hR9 6
        | 7 => first | rfl | exact hR9 7
        | 8 => first | rfl | exact hR9 8
        | 9 => first | rfl | exact hR9 9
        | 10 => first | rfl | exact hR9 10
        | 11 => first | rfl | exact hR9 11
        | 12 => first | rfl | exact hR9 12
        | 13 => first | rfl | exact hR9 13
        | 14 => first | rfl | exact hR9 14
        | 15 => first | rfl | exact hR9 15
        | 16 => first | rfl | exact hR9 16
        | 17 => first | rfl | exact hR9 17
        | 18 => first | rfl | exact hR9 18
        | 19 => first | rfl | exact hR9 19
        | 20 => first | rfl | exact hR9 20
        | 21 => first | rfl | exact hR9 21
        | 22 => first | rfl | exact hR9 22
        | 23 => first | rfl | exact hR9 23
        | 24 => first | rfl | exact hR9 24
        | b + 25 => exact hR9 (b + 25)
      all_goals rfl
  refine w_cg zq_R (fun _ _ => rfl) ?_
  generalize zq_D : (nwD (nwD (nwD (nwD (upD (upD (nwD (nwD (nwD (nwD (nwD (nwD (nwD (nwD (nwD (nwD (nwD (nwD D 280) 281) 282) 283) 284) 285) 286) 287) 288) 289) 290) 291) 279 18 (-1)) 279 19 (-1)) 292) 293) 294) 295) = D1
  refine w_callV hX (r_begin D1 64) ml_RX10_66 cl9 rfl rfl (by decide) (Nat.le_of_ble_eq_true rfl) ⟨by decide, by decide⟩ dX10_init_153 rfl rfl ?_
  rintro _ _ _ _ D2 ⟨rfl, rfl, rfl, zq_r⟩ -
  rcases zq_r with ⟨zq_b, _, _⟩ | ⟨_, rfl, rfl⟩
  · omega
  dsimp only [Option.toList, List.cons_append, List.nil_append]
  refine w_pop hX dX10_init_156 rfl rfl ?_
  refine w_vret hX hF dX10_init_157 ⟨rfl, rfl, rfl, rfl, fun a b ha => ?_, rfl, rfl, rfl, rfl, rfl, rfl, rfl, fun a b h1 h2 => ?_⟩
  · unfold mfD
    rw [upD_k (by omega), upD_k (by omega), upD_k (by omega), upD_k (by omega), upD_k (by omega), upD_k (by omega), upD_k (by omega), ← zq_D]
    repeat (first | rw [upD_k (by omega)] | rw [nwD_a (by omega)])
  · unfold mfD
    rw [upD_k (by omega), upD_k (by omega), upD_k (by omega), upD_k (by omega), upD_k (by omega), upD_k (by omega), upD_k (by omega), ← zq_D]
    have zq_a : a = 280 ∨ a = 281 ∨ a = 282 ∨ a = 283 ∨ a = 284 ∨ a = 285 ∨ a = 286 ∨ a = 287 ∨ a = 288 ∨ a = 289 ∨ a = 290 ∨ a = 291 ∨ a = 292 ∨ a = 293 ∨ a = 294 ∨ a = 295 := by omega
    rcases zq_a with rfl | rfl | rfl | rfl | rfl | rfl | rfl | rfl | rfl | rfl | rfl | rfl | rfl | rfl | rfl | rfl <;> rfl
