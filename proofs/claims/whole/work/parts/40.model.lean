/-! THE REFERENCE: its face but prove and walk -/
def InM (D : Dd) : Prop := (0 ≤ D 279 1 ∧ D 279 1 ≤ 16) ∧ (0 ≤ D 279 5 ∧ D 279 5 ≤ 256) ∧ ∀ u : Nat, (u : Int) < D 279 1 → 0 ≤ D 282 u ∧ D 282 u ≤ D 282 (u + 1) ∧ D 282 (u + 1) ≤ D 279 5
theorem InM.u {D : Dd} (h : InM D) {u : Int} (h0 : 0 ≤ u) (h1 : u < D 279 1) : 0 ≤ D 282 u.toNat ∧ D 282 u.toNat ≤ D 282 (u + 1).toNat ∧ D 282 (u + 1).toNat ≤ D 279 5 := by
  have := h.2.2 u.toNat (by omega)
  rw [show (u + 1).toNat = u.toNat + 1 by omega]
  exact this
def mfD (D : Dd) : Dd := upD (upD (upD (upD D 279 20 0) 279 17 0) 279 18 (-1)) 279 19 (-1)
theorem mf_k {D : Dd} {k j : Nat} (h : k ≠ 279) : mfD D k j = D k j := by
  unfold mfD; rw [upD_k h, upD_k h, upD_k h, upD_k h]
theorem mf_j {D : Dd} {j : Nat} (h : j < 17) : mfD D 279 j = D 279 j := by
  unfold mfD; rw [upD_j (by omega), upD_j (by omega), upD_j (by omega), upD_j (by omega)]

set_option maxRecDepth 100000 in
set_option maxHeartbeats 4000000 in
theorem r_forget (D : Dd) : MC 1 yX10_forget cX10_forget 1 none [vR 279] D (Is none (mfD D)) := by
  refine MC.mk [vR 279] (by decide) (Nat.le_of_ble_eq_true rfl) rfl (fun X Q hX hF hok hol => ?_)
  refine w_aload_n (i := 0) hX dX10_forget_0 rfl rfl rfl ?_
  refine w_iconst hX dX10_forget_1 rfl (by decide) ?_
  refine w_putI (j := 20) hX cl9 fl_RX10_70_9 rfl (by decide) rfl rfl (Or.inr ⟨rfl, (by decide)⟩) dX10_forget_2 rfl ?_
  refine w_aload_n (i := 0) hX dX10_forget_5 rfl rfl rfl ?_
  refine w_iconst hX dX10_forget_6 rfl (by decide) ?_
  refine w_putI (j := 17) hX cl9 fl_RX10_74_9 rfl (by decide) rfl rfl (Or.inl rfl) dX10_forget_7 rfl ?_
  refine w_aload_n (i := 0) hX dX10_forget_10 rfl rfl rfl ?_
  refine w_iconst hX dX10_forget_11 rfl (by decide) ?_
  refine w_putI (j := 18) hX cl9 fl_RX10_47_9 rfl (by decide) rfl rfl (Or.inl rfl) dX10_forget_12 rfl ?_
  refine w_aload_n (i := 0) hX dX10_forget_15 rfl rfl rfl ?_
  refine w_iconst hX dX10_forget_16 rfl (by decide) ?_
  refine w_putI (j := 19) hX cl9 fl_RX10_51_9 rfl (by decide) rfl rfl (Or.inl rfl) dX10_forget_17 rfl ?_
  exact e_v hX hF dX10_forget_20 ⟨rfl, rfl⟩

set_option maxRecDepth 100000 in
set_option maxHeartbeats 4000000 in
theorem r_begin (D : Dd) (t : Int) : MC 2 yX10_begin cX10_begin 2 (some .int) [vR 279, vI t] D (fun r D2 => ((t < 1 ∨ 4096 < t) ∧ some (vI (-1)) = r ∧ D = D2) ∨ ((1 ≤ t ∧ t ≤ 4096) ∧ some (vI t) = r ∧ upD (upD (upD (mfD D) 279 0 t) 279 1 0) 279 5 0 = D2)) := by
  refine MC.mk [vR 279, vI t] (by decide) (Nat.le_of_ble_eq_true rfl) rfl (fun X Q hX hF hok hol => ?_)
  refine w_iload_n (i := 1) hX dX10_begin_0 rfl rfl rfl ?_
  refine w_iconst hX dX10_begin_1 rfl (by decide) ?_
  refine w_icmp_lt (tgt := 12) hX dX10_begin_2 rfl (by decide) (fun h2 => ?_) (fun h2 => ?_)
  · refine w_iconst hX dX10_begin_12 rfl (by decide) ?_
    exact e_i hX hF dX10_begin_13 (Or.inl ⟨by omega, rfl, rfl⟩)
  · refine w_iload_n (i := 1) hX dX10_begin_5 rfl rfl rfl ?_
    refine w_sipush hX dX10_begin_6 rfl (by decide) ?_
    refine w_icmp_le (tgt := 14) hX dX10_begin_9 rfl (by decide) (fun h9 => ?_) (fun h9 => ?_)
    · refine w_aload_n (i := 0) hX dX10_begin_14 rfl rfl rfl ?_
      refine c_V hX ml_RX10_77 cl9 dX10_begin_15 rfl (r_forget D) rfl rfl rfl (by decide) (Nat.le_of_ble_eq_true rfl) ?_
      rintro _ _ ⟨rfl, rfl⟩ -
      all_goals try dsimp only [Option.toList, List.cons_append, List.nil_append]
      refine w_aload_n (i := 0) hX dX10_begin_18 rfl rfl rfl ?_
      refine w_iload_n (i := 1) hX dX10_begin_19 rfl rfl rfl ?_
      refine w_putI (j := 0) hX cl9 fl_RX10_80_9 rfl (by decide) rfl rfl (Or.inl rfl) dX10_begin_20 rfl ?_
      refine w_aload_n (i := 0) hX dX10_begin_23 rfl rfl rfl ?_
      refine w_iconst hX dX10_begin_24 rfl (by decide) ?_
      refine w_putI (j := 1) hX cl9 fl_RX10_83_9 rfl (by decide) rfl rfl (Or.inl rfl) dX10_begin_25 rfl ?_
      refine w_aload_n (i := 0) hX dX10_begin_28 rfl rfl rfl ?_
      refine w_iconst hX dX10_begin_29 rfl (by decide) ?_
      refine w_putI (j := 5) hX cl9 fl_RX10_86_9 rfl (by decide) rfl rfl (Or.inl rfl) dX10_begin_30 rfl ?_
      refine w_iload_n (i := 1) hX dX10_begin_33 rfl rfl rfl ?_
      exact e_i hX hF dX10_begin_34 (Or.inr ⟨by omega, rfl, rfl⟩)
    · refine w_iconst hX dX10_begin_12 rfl (by decide) ?_
      exact e_i hX hF dX10_begin_13 (Or.inl ⟨by omega, rfl, rfl⟩)

set_option maxRecDepth 100000 in
set_option maxHeartbeats 4000000 in
theorem r_unit (D : Dd) (hI : InM D) (f p : Int) : MC 2 yX10_unit cX10_unit 3 (some .int) [vR 279, vI f, vI p] D (fun r D2 => ((f < 0 ∨ 4096 < f ∨ p < -1 ∨ 4096 ≤ p ∨ 16 ≤ D 279 1) ∧ some (vI (-1)) = r ∧ D = D2) ∨ ((0 ≤ f ∧ f ≤ 4096 ∧ -1 ≤ p ∧ p < 4096 ∧ D 279 1 < 16) ∧ some (vI (D 279 1)) = r ∧ upD (upD (upD (upD (upD (mfD D) 280 (D 279 1).toNat f) 281 (D 279 1).toNat p) 282 (D 279 1).toNat (D 279 5)) 279 1 (D 279 1 + 1)) 282 (D 279 1 + 1).toNat (D 279 5) = D2)) := by
  refine MC.mk [vR 279, vI f, vI p] (by decide) (Nat.le_of_ble_eq_true rfl) rfl (fun X Q hX hF hok hol => ?_)
  have zq_1 := hI.1
  refine w_aload_n (i := 0) hX dX10_unit_0 rfl rfl rfl ?_
  refine w_getI (j := 1) hX cl9 fl_RX10_83_9 rfl (by decide) rfl dX10_unit_1 rfl ?_
  refine w_bipush hX dX10_unit_4 rfl (by decide) ?_
  refine w_icmp_eq (tgt := 32) hX dX10_unit_6 rfl (by decide) (fun h6 => ?_) (fun h6 => ?_)
  · refine w_iconst hX dX10_unit_32 rfl (by decide) ?_
    exact e_i hX hF dX10_unit_33 (Or.inl ⟨by omega, rfl, rfl⟩)
  · refine w_iload_n (i := 1) hX dX10_unit_9 rfl rfl rfl ?_
    refine w_if_lt (tgt := 32) hX dX10_unit_10 rfl (by decide) (fun h10 => ?_) (fun h10 => ?_)
    · refine w_iconst hX dX10_unit_32 rfl (by decide) ?_
      exact e_i hX hF dX10_unit_33 (Or.inl ⟨by omega, rfl, rfl⟩)
    · refine w_iload_n (i := 1) hX dX10_unit_13 rfl rfl rfl ?_
      refine w_sipush hX dX10_unit_14 rfl (by decide) ?_
      refine w_icmp_gt (tgt := 32) hX dX10_unit_17 rfl (by decide) (fun h17 => ?_) (fun h17 => ?_)
      · refine w_iconst hX dX10_unit_32 rfl (by decide) ?_
        exact e_i hX hF dX10_unit_33 (Or.inl ⟨by omega, rfl, rfl⟩)
      · refine w_iload_n (i := 2) hX dX10_unit_20 rfl rfl rfl ?_
        refine w_iconst hX dX10_unit_21 rfl (by decide) ?_
        refine w_icmp_lt (tgt := 32) hX dX10_unit_22 rfl (by decide) (fun h22 => ?_) (fun h22 => ?_)
        · refine w_iconst hX dX10_unit_32 rfl (by decide) ?_
          exact e_i hX hF dX10_unit_33 (Or.inl ⟨by omega, rfl, rfl⟩)
        · refine w_iload_n (i := 2) hX dX10_unit_25 rfl rfl rfl ?_
          refine w_sipush hX dX10_unit_26 rfl (by decide) ?_
          refine w_icmp_le (tgt := 34) hX dX10_unit_29 rfl (by decide) (fun h29 => ?_) (fun h29 => ?_)
          · refine w_aload_n (i := 0) hX dX10_unit_34 rfl rfl rfl ?_
            refine c_V hX ml_RX10_77 cl9 dX10_unit_35 rfl (r_forget D) rfl rfl rfl (by decide) (Nat.le_of_ble_eq_true rfl) ?_
            rintro _ _ ⟨rfl, rfl⟩ -
            all_goals try dsimp only [Option.toList, List.cons_append, List.nil_append]
            refine w_aload_n (i := 0) hX dX10_unit_38 rfl rfl rfl ?_
            refine w_getR (j := 2) hX cl9 fl_RX10_7_9 rfl (by decide) rfl rfl dX10_unit_39 rfl ?_
            refine w_aload_n (i := 0) hX dX10_unit_42 rfl rfl rfl ?_
            refine w_getI (j := 1) hX cl9 fl_RX10_83_9 rfl (by decide) rfl dX10_unit_43 rfl ?_
            try simp +decide only [upD_rd, ↓reduceIte]
            try rw [mf_j (by decide)]
            refine w_iload_n (i := 1) hX dX10_unit_46 rfl rfl rfl ?_
            refine w_iast hX rfl (by omega) (by omega) dX10_unit_47 rfl ?_
            refine w_aload_n (i := 0) hX dX10_unit_48 rfl rfl rfl ?_
            refine w_getR (j := 3) hX cl9 fl_RX10_13_9 rfl (by decide) rfl rfl dX10_unit_49 rfl ?_
            refine w_aload_n (i := 0) hX dX10_unit_52 rfl rfl rfl ?_
            refine w_getI (j := 1) hX cl9 fl_RX10_83_9 rfl (by decide) rfl dX10_unit_53 rfl ?_
            try simp +decide only [upD_rd, ↓reduceIte]
            try rw [mf_j (by decide)]
            refine w_iload_n (i := 2) hX dX10_unit_56 rfl rfl rfl ?_
            refine w_iast hX rfl (by omega) (by omega) dX10_unit_57 rfl ?_
            refine w_aload_n (i := 0) hX dX10_unit_58 rfl rfl rfl ?_
            refine w_getR (j := 4) hX cl9 fl_RX10_16_9 rfl (by decide) rfl rfl dX10_unit_59 rfl ?_
            refine w_aload_n (i := 0) hX dX10_unit_62 rfl rfl rfl ?_
            refine w_getI (j := 1) hX cl9 fl_RX10_83_9 rfl (by decide) rfl dX10_unit_63 rfl ?_
            try simp +decide only [upD_rd, ↓reduceIte]
            try rw [mf_j (by decide)]
            refine w_aload_n (i := 0) hX dX10_unit_66 rfl rfl rfl ?_
            refine w_getI (j := 5) hX cl9 fl_RX10_86_9 rfl (by decide) rfl dX10_unit_67 rfl ?_
            try simp +decide only [upD_rd, ↓reduceIte]
            try rw [mf_j (by decide)]
            refine w_iast hX rfl (by omega) (by omega) dX10_unit_70 rfl ?_
            refine w_aload_n (i := 0) hX dX10_unit_71 rfl rfl rfl ?_
            refine w_dup hX dX10_unit_72 rfl rfl ?_
            refine w_getI (j := 1) hX cl9 fl_RX10_83_9 rfl (by decide) rfl dX10_unit_73 rfl ?_
            try simp +decide only [upD_rd, ↓reduceIte]
            try rw [mf_j (by decide)]
            refine w_iconst hX dX10_unit_76 rfl (by decide) ?_
            refine w_iadd hX dX10_unit_77 rfl (by omega) ?_
            refine w_putI (j := 1) hX cl9 fl_RX10_83_9 rfl (by decide) rfl rfl (Or.inl rfl) dX10_unit_78 rfl ?_
            refine w_aload_n (i := 0) hX dX10_unit_81 rfl rfl rfl ?_
            refine w_getR (j := 4) hX cl9 fl_RX10_16_9 rfl (by decide) rfl rfl dX10_unit_82 rfl ?_
            refine w_aload_n (i := 0) hX dX10_unit_85 rfl rfl rfl ?_
            refine w_getI (j := 1) hX cl9 fl_RX10_83_9 rfl (by decide) rfl dX10_unit_86 rfl ?_
            try simp +decide only [upD_rd, ↓reduceIte]
            try rw [mf_j (by decide)]
            refine w_aload_n (i := 0) hX dX10_unit_89 rfl rfl rfl ?_
            refine w_getI (j := 5) hX cl9 fl_RX10_86_9 rfl (by decide) rfl dX10_unit_90 rfl ?_
            try simp +decide only [upD_rd, ↓reduceIte]
            try rw [mf_j (by decide)]
            refine w_iast hX rfl (by omega) (by omega) dX10_unit_93 rfl ?_
            refine w_aload_n (i := 0) hX dX10_unit_94 rfl rfl rfl ?_
            refine w_getI (j := 1) hX cl9 fl_RX10_83_9 rfl (by decide) rfl dX10_unit_95 rfl ?_
            try simp +decide only [upD_rd, ↓reduceIte]
            try rw [mf_j (by decide)]
            refine w_iconst hX dX10_unit_98 rfl (by decide) ?_
            refine w_isub hX dX10_unit_99 rfl (by omega) ?_
            exact e_i hX hF dX10_unit_100 (Or.inr ⟨by omega, by rw [show D 279 1 + 1 - 1 = D 279 1 by omega], rfl⟩)
          · refine w_iconst hX dX10_unit_32 rfl (by decide) ?_
            exact e_i hX hF dX10_unit_33 (Or.inl ⟨by omega, rfl, rfl⟩)

def mlD (D : Dd) (r n a b c : Int) : Dd := upD (upD (upD (upD (mfD D) 283 r.toNat n) 284 r.toNat a) 285 r.toNat b) 286 r.toNat c
def muD (D : Dd) (f p : Int) : Dd := upD (upD (upD (upD (upD (mfD D) 280 (D 279 1).toNat f) 281 (D 279 1).toNat p) 282 (D 279 1).toNat (D 279 5)) 279 1 (D 279 1 + 1)) 282 (D 279 1 + 1).toNat (D 279 5)

set_option maxRecDepth 100000 in
set_option maxHeartbeats 4000000 in
theorem r_lay (D : Dd) (r n a b c : Int) (hr : 0 ≤ r ∧ r < 256) : MC 2 yX10_lay cX10_lay 6 none [vR 279, vI r, vI n, vI a, vI b, vI c] D (Is none (mlD D r n a b c)) := by
  refine MC.mk [vR 279, vI r, vI n, vI a, vI b, vI c] (by decide) (Nat.le_of_ble_eq_true rfl) rfl (fun X Q hX hF hok hol => ?_)
  refine w_aload_n (i := 0) hX dX10_lay_0 rfl rfl rfl ?_
  refine c_V hX ml_RX10_77 cl9 dX10_lay_1 rfl (r_forget D) rfl rfl rfl (by decide) (Nat.le_of_ble_eq_true rfl) ?_
  rintro _ _ ⟨rfl, rfl⟩ -
  all_goals try dsimp only [Option.toList, List.cons_append, List.nil_append]
  refine w_aload_n (i := 0) hX dX10_lay_4 rfl rfl rfl ?_
  refine w_getR (j := 6) hX cl9 fl_RX10_19_9 rfl (by decide) rfl rfl dX10_lay_5 rfl ?_
  refine w_iload_n (i := 1) hX dX10_lay_8 rfl rfl rfl ?_
  refine w_iload_n (i := 2) hX dX10_lay_9 rfl rfl rfl ?_
  refine w_iast hX rfl (by omega) (by omega) dX10_lay_10 rfl ?_
  refine w_aload_n (i := 0) hX dX10_lay_11 rfl rfl rfl ?_
  refine w_getR (j := 7) hX cl9 fl_RX10_22_9 rfl (by decide) rfl rfl dX10_lay_12 rfl ?_
  refine w_iload_n (i := 1) hX dX10_lay_15 rfl rfl rfl ?_
  refine w_iload_n (i := 3) hX dX10_lay_16 rfl rfl rfl ?_
  refine w_iast hX rfl (by omega) (by omega) dX10_lay_17 rfl ?_
  refine w_aload_n (i := 0) hX dX10_lay_18 rfl rfl rfl ?_
  refine w_getR (j := 8) hX cl9 fl_RX10_25_9 rfl (by decide) rfl rfl dX10_lay_19 rfl ?_
  refine w_iload_n (i := 1) hX dX10_lay_22 rfl rfl rfl ?_
  refine w_iload hX dX10_lay_23 rfl rfl ?_
  refine w_iast hX rfl (by omega) (by omega) dX10_lay_25 rfl ?_
  refine w_aload_n (i := 0) hX dX10_lay_26 rfl rfl rfl ?_
  refine w_getR (j := 9) hX cl9 fl_RX10_28_9 rfl (by decide) rfl rfl dX10_lay_27 rfl ?_
  refine w_iload_n (i := 1) hX dX10_lay_30 rfl rfl rfl ?_
  refine w_iload hX dX10_lay_31 rfl rfl ?_
  refine w_iast hX rfl (by omega) (by omega) dX10_lay_33 rfl ?_
  exact e_v hX hF dX10_lay_34 ⟨rfl, rfl⟩

theorem ml_j {D : Dd} {r n a b c : Int} {j : Nat} (h : j < 17) : mlD D r n a b c 279 j = D 279 j := by
  unfold mlD; rw [upD_k (by decide), upD_k (by decide), upD_k (by decide), upD_k (by decide), mf_j h]
theorem ml_f {D : Dd} {r n a b c : Int} {j : Nat} : mlD D r n a b c 282 j = D 282 j := by
  unfold mlD; rw [upD_k (by decide), upD_k (by decide), upD_k (by decide), upD_k (by decide), mf_k (by decide)]

set_option maxRecDepth 100000 in
set_option maxHeartbeats 4000000 in
theorem r_add (D : Dd) (hI : InM D) (n a b c : Int) : MC 3 yX10_add cX10_add 5 (some .int) [vR 279, vI n, vI a, vI b, vI c] D (fun r D2 => ((D 279 1 = 0 ∨ 256 ≤ D 279 5) ∧ some (vI (-1)) = r ∧ D = D2) ∨ ((1 ≤ D 279 1 ∧ D 279 5 < 256) ∧ some (vI (D 279 5 - D 282 (D 279 1 - 1).toNat)) = r ∧ upD (upD (mlD D (D 279 5) n a b c) 279 5 (D 279 5 + 1)) 282 (D 279 1).toNat (D 279 5 + 1) = D2)) := by
  refine MC.mk [vR 279, vI n, vI a, vI b, vI c] (by decide) (Nat.le_of_ble_eq_true rfl) rfl (fun X Q hX hF hok hol => ?_)
  have zq_1 := hI.1
  have zq_5 := hI.2.1
  refine w_aload_n (i := 0) hX dX10_add_0 rfl rfl rfl ?_
  refine w_getI (j := 1) hX cl9 fl_RX10_83_9 rfl (by decide) rfl dX10_add_1 rfl ?_
  refine w_if_eq (tgt := 17) hX dX10_add_4 rfl (by decide) (fun h4 => ?_) (fun h4 => ?_)
  · refine w_iconst hX dX10_add_17 rfl (by decide) ?_
    exact e_i hX hF dX10_add_18 (Or.inl ⟨by omega, rfl, rfl⟩)
  · refine w_aload_n (i := 0) hX dX10_add_7 rfl rfl rfl ?_
    refine w_getI (j := 5) hX cl9 fl_RX10_86_9 rfl (by decide) rfl dX10_add_8 rfl ?_
    refine w_sipush hX dX10_add_11 rfl (by decide) ?_
    refine w_icmp_ne (tgt := 19) hX dX10_add_14 rfl (by decide) (fun h14 => ?_) (fun h14 => ?_)
    · refine w_aload_n (i := 0) hX dX10_add_19 rfl rfl rfl ?_
      refine w_aload_n (i := 0) hX dX10_add_20 rfl rfl rfl ?_
      refine w_getI (j := 5) hX cl9 fl_RX10_86_9 rfl (by decide) rfl dX10_add_21 rfl ?_
      refine w_iload_n (i := 1) hX dX10_add_24 rfl rfl rfl ?_
      refine w_iload_n (i := 2) hX dX10_add_25 rfl rfl rfl ?_
      refine w_iload_n (i := 3) hX dX10_add_26 rfl rfl rfl ?_
      refine w_iload hX dX10_add_27 rfl rfl ?_
      refine c_V hX ml_RX10_89 cl9 dX10_add_29 rfl (r_lay D (D 279 5) n a b c (by omega)) rfl rfl rfl (by decide) (Nat.le_of_ble_eq_true rfl) ?_
      rintro _ _ ⟨rfl, rfl⟩ -
      all_goals try dsimp only [Option.toList, List.cons_append, List.nil_append]
      refine w_aload_n (i := 0) hX dX10_add_32 rfl rfl rfl ?_
      refine w_dup hX dX10_add_33 rfl rfl ?_
      refine w_getI (j := 5) hX cl9 fl_RX10_86_9 rfl (by decide) rfl dX10_add_34 rfl ?_
      try simp +decide only [upD_rd, ↓reduceIte]
      try rw [ml_j (by decide)]
      refine w_iconst hX dX10_add_37 rfl (by decide) ?_
      refine w_iadd hX dX10_add_38 rfl (by omega) ?_
      refine w_putI (j := 5) hX cl9 fl_RX10_86_9 rfl (by decide) rfl rfl (Or.inl rfl) dX10_add_39 rfl ?_
      refine w_aload_n (i := 0) hX dX10_add_42 rfl rfl rfl ?_
      refine w_getR (j := 4) hX cl9 fl_RX10_16_9 rfl (by decide) rfl rfl dX10_add_43 rfl ?_
      refine w_aload_n (i := 0) hX dX10_add_46 rfl rfl rfl ?_
      refine w_getI (j := 1) hX cl9 fl_RX10_83_9 rfl (by decide) rfl dX10_add_47 rfl ?_
      try simp +decide only [upD_rd, ↓reduceIte]
      try rw [ml_j (by decide)]
      refine w_aload_n (i := 0) hX dX10_add_50 rfl rfl rfl ?_
      refine w_getI (j := 5) hX cl9 fl_RX10_86_9 rfl (by decide) rfl dX10_add_51 rfl ?_
      try simp +decide only [upD_rd, ↓reduceIte]
      try rw [ml_j (by decide)]
      refine w_iast hX rfl (by omega) (by omega) dX10_add_54 rfl ?_
      refine w_aload_n (i := 0) hX dX10_add_55 rfl rfl rfl ?_
      refine w_getI (j := 5) hX cl9 fl_RX10_86_9 rfl (by decide) rfl dX10_add_56 rfl ?_
      try simp +decide only [upD_rd, ↓reduceIte]
      try rw [ml_j (by decide)]
      refine w_iconst hX dX10_add_59 rfl (by decide) ?_
      refine w_isub hX dX10_add_60 rfl (by omega) ?_
      refine w_aload_n (i := 0) hX dX10_add_61 rfl rfl rfl ?_
      refine w_getR (j := 4) hX cl9 fl_RX10_16_9 rfl (by decide) rfl rfl dX10_add_62 rfl ?_
      refine w_aload_n (i := 0) hX dX10_add_65 rfl rfl rfl ?_
      refine w_getI (j := 1) hX cl9 fl_RX10_83_9 rfl (by decide) rfl dX10_add_66 rfl ?_
      try simp +decide only [upD_rd, ↓reduceIte]
      try rw [ml_j (by decide)]
      refine w_iconst hX dX10_add_69 rfl (by decide) ?_
      refine w_isub hX dX10_add_70 rfl (by omega) ?_
      refine w_iald hX rfl (by omega) (by omega) dX10_add_71 rfl ?_
      simp only [upD_rd]
      simp +decide only [↓reduceIte]
      rw [if_neg (by omega), ml_f]
      have zq_u := hI.u (u := D 279 1 - 1) (by omega) (by omega)
      refine w_isub hX dX10_add_72 rfl (by omega) ?_
      exact e_i hX hF dX10_add_73 (Or.inr ⟨by omega, by rw [show D 279 5 + 1 - 1 = D 279 5 by omega], rfl⟩)
    · refine w_iconst hX dX10_add_17 rfl (by decide) ?_
      exact e_i hX hF dX10_add_18 (Or.inl ⟨by omega, rfl, rfl⟩)

set_option maxRecDepth 100000 in
set_option maxHeartbeats 4000000 in
theorem r_isUnit (D : Dd) (u : Int) : MC 1 yX10_isUnit cX10_isUnit 2 (some .boolean) [vR 279, vI u] D (Is (some (vI (b2 (0 ≤ u ∧ u < D 279 1)))) D) := by
  refine MC.mk [vR 279, vI u] (by decide) (Nat.le_of_ble_eq_true rfl) rfl (fun X Q hX hF hok hol => ?_)
  refine w_iload_n (i := 1) hX dX10_isUnit_0 rfl rfl rfl ?_
  refine w_if_lt (tgt := 16) hX dX10_isUnit_1 rfl (by decide) (fun h1 => ?_) (fun h1 => ?_)
  · refine w_iconst hX dX10_isUnit_16 rfl (by decide) ?_
    exact e_z hX hF dX10_isUnit_17 (by decide) ⟨by first | rw [b2_t (by omega)] | rw [b2_f (by omega)], rfl⟩
  · refine w_iload_n (i := 1) hX dX10_isUnit_4 rfl rfl rfl ?_
    refine w_aload_n (i := 0) hX dX10_isUnit_5 rfl rfl rfl ?_
    refine w_getI (j := 1) hX cl9 fl_RX10_83_9 rfl (by decide) rfl dX10_isUnit_6 rfl ?_
    refine w_icmp_ge (tgt := 16) hX dX10_isUnit_9 rfl (by decide) (fun h9 => ?_) (fun h9 => ?_)
    · refine w_iconst hX dX10_isUnit_16 rfl (by decide) ?_
      exact e_z hX hF dX10_isUnit_17 (by decide) ⟨by first | rw [b2_t (by omega)] | rw [b2_f (by omega)], rfl⟩
    · refine w_iconst hX dX10_isUnit_12 rfl (by decide) ?_
      refine w_goto (tgt := 17) hX dX10_isUnit_13 (by decide) ?_
      exact e_z hX hF dX10_isUnit_17 (by decide) ⟨by first | rw [b2_t (by omega)] | rw [b2_f (by omega)], rfl⟩

set_option maxRecDepth 100000 in
set_option maxHeartbeats 4000000 in
theorem r_change (D : Dd) (hI : InM D) (u i n a b c : Int) : MC 3 yX10_change cX10_change 7 (some .int) [vR 279, vI u, vI i, vI n, vI a, vI b, vI c] D (fun r D2 => (¬ ((0 ≤ u ∧ u < D 279 1) ∧ 0 ≤ i ∧ i < D 282 (u + 1).toNat - D 282 u.toNat) ∧ some (vI (-1)) = r ∧ D = D2) ∨ (((0 ≤ u ∧ u < D 279 1) ∧ 0 ≤ i ∧ i < D 282 (u + 1).toNat - D 282 u.toNat) ∧ some (vI 0) = r ∧ mlD D (D 282 u.toNat + i) n a b c = D2)) := by
  refine MC.mk [vR 279, vI u, vI i, vI n, vI a, vI b, vI c] (by decide) (Nat.le_of_ble_eq_true rfl) rfl (fun X Q hX hF hok hol => ?_)
  have zq_1 := hI.1
  have zq_5 := hI.2.1
  refine w_aload_n (i := 0) hX dX10_change_0 rfl rfl rfl ?_
  refine w_iload_n (i := 1) hX dX10_change_1 rfl rfl rfl ?_
  refine c_V hX ml_RX10_93 cl9 dX10_change_2 rfl (r_isUnit D u) rfl rfl rfl (by decide) (Nat.le_of_ble_eq_true rfl) ?_
  rintro _ _ ⟨rfl, rfl⟩ -
  all_goals try dsimp only [Option.toList, List.cons_append, List.nil_append]
  refine w_if_eq (tgt := 31) hX dX10_change_5 rfl (by decide) (fun h5 => ?_) (fun h5 => ?_)
  · rw [b2_0] at h5
    refine w_iconst hX dX10_change_31 rfl (by decide) ?_
    exact e_i hX hF dX10_change_32 (Or.inl ⟨by omega, rfl, rfl⟩)
  · rw [b2_n] at h5
    have zq_u := hI.u h5.1 h5.2
    refine w_iload_n (i := 2) hX dX10_change_8 rfl rfl rfl ?_
    refine w_if_lt (tgt := 31) hX dX10_change_9 rfl (by decide) (fun h9 => ?_) (fun h9 => ?_)
    · refine w_iconst hX dX10_change_31 rfl (by decide) ?_
      exact e_i hX hF dX10_change_32 (Or.inl ⟨by omega, rfl, rfl⟩)
    · refine w_iload_n (i := 2) hX dX10_change_12 rfl rfl rfl ?_
      refine w_aload_n (i := 0) hX dX10_change_13 rfl rfl rfl ?_
      refine w_getR (j := 4) hX cl9 fl_RX10_16_9 rfl (by decide) rfl rfl dX10_change_14 rfl ?_
      refine w_iload_n (i := 1) hX dX10_change_17 rfl rfl rfl ?_
      refine w_iconst hX dX10_change_18 rfl (by decide) ?_
      refine w_iadd hX dX10_change_19 rfl (by omega) ?_
      refine w_iald hX rfl (by omega) (by omega) dX10_change_20 rfl ?_
      refine w_aload_n (i := 0) hX dX10_change_21 rfl rfl rfl ?_
      refine w_getR (j := 4) hX cl9 fl_RX10_16_9 rfl (by decide) rfl rfl dX10_change_22 rfl ?_
      refine w_iload_n (i := 1) hX dX10_change_25 rfl rfl rfl ?_
      refine w_iald hX rfl (by omega) (by omega) dX10_change_26 rfl ?_
      refine w_isub hX dX10_change_27 rfl (by omega) ?_
      refine w_icmp_lt (tgt := 33) hX dX10_change_28 rfl (by decide) (fun h28 => ?_) (fun h28 => ?_)
      · refine w_aload_n (i := 0) hX dX10_change_33 rfl rfl rfl ?_
        refine w_aload_n (i := 0) hX dX10_change_34 rfl rfl rfl ?_
        refine w_getR (j := 4) hX cl9 fl_RX10_16_9 rfl (by decide) rfl rfl dX10_change_35 rfl ?_
        refine w_iload_n (i := 1) hX dX10_change_38 rfl rfl rfl ?_
        refine w_iald hX rfl (by omega) (by omega) dX10_change_39 rfl ?_
        refine w_iload_n (i := 2) hX dX10_change_40 rfl rfl rfl ?_
        refine w_iadd hX dX10_change_41 rfl (by omega) ?_
        refine w_iload_n (i := 3) hX dX10_change_42 rfl rfl rfl ?_
        refine w_iload hX dX10_change_43 rfl rfl ?_
        refine w_iload hX dX10_change_45 rfl rfl ?_
        refine w_iload hX dX10_change_47 rfl rfl ?_
        refine c_V hX ml_RX10_89 cl9 dX10_change_49 rfl (r_lay D _ n a b c (by omega)) rfl rfl rfl (by decide) (Nat.le_of_ble_eq_true rfl) ?_
        rintro _ _ ⟨rfl, rfl⟩ -
        all_goals try dsimp only [Option.toList, List.cons_append, List.nil_append]
        refine w_iconst hX dX10_change_52 rfl (by decide) ?_
        exact e_i hX hF dX10_change_53 (Or.inr ⟨by omega, rfl, rfl⟩)
      · refine w_iconst hX dX10_change_31 rfl (by decide) ?_
        exact e_i hX hF dX10_change_32 (Or.inl ⟨by omega, rfl, rfl⟩)

set_option maxRecDepth 100000 in
set_option maxHeartbeats 4000000 in
theorem r_isIn (D : Dd) (v lo hi : Int) : MC 1 yX10_isIn cX10_isIn 6 (some .boolean) [vL v, vL lo, vL hi] D (Is (some (vI (b2 (lo ≤ v ∧ v ≤ hi)))) D) := by
  refine MC.mk [vL v, vN, vL lo, vN, vL hi, vN] (by decide) (Nat.le_of_ble_eq_true rfl) rfl (fun X Q hX hF hok hol => ?_)
  refine w_lload_n (i := 0) hX dX10_isIn_0 rfl rfl rfl ?_
  refine w_lload_n (i := 2) hX dX10_isIn_1 rfl rfl rfl ?_
  refine w_lcmp hX dX10_isIn_2 rfl ?_
  refine w_if_lt (tgt := 17) hX dX10_isIn_3 rfl (by decide) (fun h3 => ?_) (fun h3 => ?_)
  · rw [lc_lt] at h3
    refine w_iconst hX dX10_isIn_17 rfl (by decide) ?_
    exact e_z hX hF dX10_isIn_18 (by decide) ⟨by first | rw [b2_t (by omega)] | rw [b2_f (by omega)], rfl⟩
  · rw [lc_lt] at h3
    refine w_lload_n (i := 0) hX dX10_isIn_6 rfl rfl rfl ?_
    refine w_lload hX dX10_isIn_7 rfl rfl ?_
    refine w_lcmp hX dX10_isIn_9 rfl ?_
    refine w_if_gt (tgt := 17) hX dX10_isIn_10 rfl (by decide) (fun h10 => ?_) (fun h10 => ?_)
    · rw [lc_gt] at h10
      refine w_iconst hX dX10_isIn_17 rfl (by decide) ?_
      exact e_z hX hF dX10_isIn_18 (by decide) ⟨by first | rw [b2_t (by omega)] | rw [b2_f (by omega)], rfl⟩
    · rw [lc_gt] at h10
      refine w_iconst hX dX10_isIn_13 rfl (by decide) ?_
      refine w_goto (tgt := 18) hX dX10_isIn_14 (by decide) ?_
      exact e_z hX hF dX10_isIn_18 (by decide) ⟨by first | rw [b2_t (by omega)] | rw [b2_f (by omega)], rfl⟩

set_option maxRecDepth 100000 in
set_option maxHeartbeats 4000000 in
theorem r_count (D : Dd) (w : Int) : MC 1 yX10_count cX10_count 2 (some .int) [vR 279, vI w] D (Is (some (vI (if w = 0 then D 279 17 else if w = 1 then D 279 18 else if w = 2 then D 279 19 else if w = 3 then D 279 1 else if w = 4 then D 279 5 else -1))) D) := by
  refine MC.mk [vR 279, vI w] (by decide) (Nat.le_of_ble_eq_true rfl) rfl (fun X Q hX hF hok hol => ?_)
  refine w_iload_n (i := 1) hX dX10_count_0 rfl rfl rfl ?_
  refine w_nameI (fun sw1 hsw1 => ?_)
  by_cases g1_0 : sw1 = 0
  · refine w_tsw (tgt := 36) hX dX10_count_1 rfl (by rw [g1_0]; decide) ?_
    refine w_aload_n (i := 0) hX dX10_count_36 rfl rfl rfl ?_
    refine w_getI (j := 17) hX cl9 fl_RX10_74_9 rfl (by decide) rfl dX10_count_37 rfl ?_
    exact e_i hX hF dX10_count_40 ⟨by subst hsw1; first | (subst g1_0; rfl) | (subst g1_1; rfl) | (subst g1_2; rfl) | (subst g1_3; rfl) | (subst g1_4; rfl) | (rw [if_neg g1_0, if_neg g1_1, if_neg g1_2, if_neg g1_3, if_neg g1_4]), rfl⟩
  by_cases g1_1 : sw1 = 1
  · refine w_tsw (tgt := 41) hX dX10_count_1 rfl (by rw [g1_1]; decide) ?_
    refine w_aload_n (i := 0) hX dX10_count_41 rfl rfl rfl ?_
    refine w_getI (j := 18) hX cl9 fl_RX10_47_9 rfl (by decide) rfl dX10_count_42 rfl ?_
    exact e_i hX hF dX10_count_45 ⟨by subst hsw1; first | (subst g1_0; rfl) | (subst g1_1; rfl) | (subst g1_2; rfl) | (subst g1_3; rfl) | (subst g1_4; rfl) | (rw [if_neg g1_0, if_neg g1_1, if_neg g1_2, if_neg g1_3, if_neg g1_4]), rfl⟩
  by_cases g1_2 : sw1 = 2
  · refine w_tsw (tgt := 46) hX dX10_count_1 rfl (by rw [g1_2]; decide) ?_
    refine w_aload_n (i := 0) hX dX10_count_46 rfl rfl rfl ?_
    refine w_getI (j := 19) hX cl9 fl_RX10_51_9 rfl (by decide) rfl dX10_count_47 rfl ?_
    exact e_i hX hF dX10_count_50 ⟨by subst hsw1; first | (subst g1_0; rfl) | (subst g1_1; rfl) | (subst g1_2; rfl) | (subst g1_3; rfl) | (subst g1_4; rfl) | (rw [if_neg g1_0, if_neg g1_1, if_neg g1_2, if_neg g1_3, if_neg g1_4]), rfl⟩
  by_cases g1_3 : sw1 = 3
  · refine w_tsw (tgt := 51) hX dX10_count_1 rfl (by rw [g1_3]; decide) ?_
    refine w_aload_n (i := 0) hX dX10_count_51 rfl rfl rfl ?_
    refine w_getI (j := 1) hX cl9 fl_RX10_83_9 rfl (by decide) rfl dX10_count_52 rfl ?_
    exact e_i hX hF dX10_count_55 ⟨by subst hsw1; first | (subst g1_0; rfl) | (subst g1_1; rfl) | (subst g1_2; rfl) | (subst g1_3; rfl) | (subst g1_4; rfl) | (rw [if_neg g1_0, if_neg g1_1, if_neg g1_2, if_neg g1_3, if_neg g1_4]), rfl⟩
  by_cases g1_4 : sw1 = 4
  · refine w_tsw (tgt := 56) hX dX10_count_1 rfl (by rw [g1_4]; decide) ?_
    refine w_aload_n (i := 0) hX dX10_count_56 rfl rfl rfl ?_
    refine w_getI (j := 5) hX cl9 fl_RX10_86_9 rfl (by decide) rfl dX10_count_57 rfl ?_
    exact e_i hX hF dX10_count_60 ⟨by subst hsw1; first | (subst g1_0; rfl) | (subst g1_1; rfl) | (subst g1_2; rfl) | (subst g1_3; rfl) | (subst g1_4; rfl) | (rw [if_neg g1_0, if_neg g1_1, if_neg g1_2, if_neg g1_3, if_neg g1_4]), rfl⟩
  refine w_tsw (tgt := 61) hX dX10_count_1 rfl (by rw [sw_dflt [0, 1, 2, 3, 4] (by decide) (by simp only [List.mem_cons, List.not_mem_nil, or_false]; omega)]; decide) ?_
  refine w_iconst hX dX10_count_61 rfl (by decide) ?_
  exact e_i hX hF dX10_count_62 ⟨by subst hsw1; first | (subst g1_0; rfl) | (subst g1_1; rfl) | (subst g1_2; rfl) | (subst g1_3; rfl) | (subst g1_4; rfl) | (rw [if_neg g1_0, if_neg g1_1, if_neg g1_2, if_neg g1_3, if_neg g1_4]), rfl⟩

set_option maxRecDepth 100000 in
set_option maxHeartbeats 4000000 in
theorem r_steps (D : Dd) (hI : InM D) (hs : ∀ j : Nat, j < 16 → inI (D 290 j)) (u : Int) : MC 2 yX10_steps cX10_steps 2 (some .int) [vR 279, vI u] D (Is (some (vI (itP (D 279 20 ≠ 0 ∧ 0 ≤ u ∧ u < D 279 1) (D 290 u.toNat) (-1)))) D) := by
  refine MC.mk [vR 279, vI u] (by decide) (Nat.le_of_ble_eq_true rfl) rfl (fun X Q hX hF hok hol => ?_)
  have zq_1 := hI.1
  refine w_aload_n (i := 0) hX dX10_steps_0 rfl rfl rfl ?_
  refine w_getI (j := 20) hX cl9 fl_RX10_70_9 rfl (by decide) rfl dX10_steps_1 rfl ?_
  refine w_if_eq (tgt := 25) hX dX10_steps_4 rfl (by decide) (fun h4 => ?_) (fun h4 => ?_)
  · refine w_iconst hX dX10_steps_25 rfl (by decide) ?_
    exact e_i hX hF dX10_steps_26 ⟨by first | rw [it_t (by omega)] | rw [it_f (by omega)], rfl⟩
  · refine w_aload_n (i := 0) hX dX10_steps_7 rfl rfl rfl ?_
    refine w_iload_n (i := 1) hX dX10_steps_8 rfl rfl rfl ?_
    refine c_V hX ml_RX10_93 cl9 dX10_steps_9 rfl (r_isUnit D u) rfl rfl rfl (by decide) (Nat.le_of_ble_eq_true rfl) ?_
    rintro _ _ ⟨rfl, rfl⟩ -
    all_goals try dsimp only [Option.toList, List.cons_append, List.nil_append]
    refine w_if_eq (tgt := 25) hX dX10_steps_12 rfl (by decide) (fun h12 => ?_) (fun h12 => ?_)
    · rw [b2_0] at h12
      refine w_iconst hX dX10_steps_25 rfl (by decide) ?_
      exact e_i hX hF dX10_steps_26 ⟨by first | rw [it_t (by omega)] | rw [it_f (by omega)], rfl⟩
    · rw [b2_n] at h12
      refine w_aload_n (i := 0) hX dX10_steps_15 rfl rfl rfl ?_
      refine w_getR (j := 15) hX cl9 fl_RX10_41_9 rfl (by decide) rfl rfl dX10_steps_16 rfl ?_
      refine w_iload_n (i := 1) hX dX10_steps_19 rfl rfl rfl ?_
      refine w_lald hX rfl (by omega) (by omega) dX10_steps_20 rfl ?_
      refine w_l2i hX dX10_steps_21 rfl (hs u.toNat (by omega)) ?_
      refine w_goto (tgt := 26) hX dX10_steps_22 (by decide) ?_
      exact e_i hX hF dX10_steps_26 ⟨by first | rw [it_t (by omega)] | rw [it_f (by omega)], rfl⟩

set_option maxRecDepth 100000 in
set_option maxHeartbeats 4000000 in
theorem r_depth (D : Dd) (hI : InM D)  (u : Int) : MC 2 yX10_depth cX10_depth 2 (some .int) [vR 279, vI u] D (Is (some (vI (itP (D 279 20 ≠ 0 ∧ 0 ≤ u ∧ u < D 279 1) (D 291 u.toNat) (-1)))) D) := by
  refine MC.mk [vR 279, vI u] (by decide) (Nat.le_of_ble_eq_true rfl) rfl (fun X Q hX hF hok hol => ?_)
  have zq_1 := hI.1
  refine w_aload_n (i := 0) hX dX10_depth_0 rfl rfl rfl ?_
  refine w_getI (j := 20) hX cl9 fl_RX10_70_9 rfl (by decide) rfl dX10_depth_1 rfl ?_
  refine w_if_eq (tgt := 24) hX dX10_depth_4 rfl (by decide) (fun h4 => ?_) (fun h4 => ?_)
  · refine w_iconst hX dX10_depth_24 rfl (by decide) ?_
    exact e_i hX hF dX10_depth_25 ⟨by first | rw [it_t (by omega)] | rw [it_f (by omega)], rfl⟩
  · refine w_aload_n (i := 0) hX dX10_depth_7 rfl rfl rfl ?_
    refine w_iload_n (i := 1) hX dX10_depth_8 rfl rfl rfl ?_
    refine c_V hX ml_RX10_93 cl9 dX10_depth_9 rfl (r_isUnit D u) rfl rfl rfl (by decide) (Nat.le_of_ble_eq_true rfl) ?_
    rintro _ _ ⟨rfl, rfl⟩ -
    all_goals try dsimp only [Option.toList, List.cons_append, List.nil_append]
    refine w_if_eq (tgt := 24) hX dX10_depth_12 rfl (by decide) (fun h12 => ?_) (fun h12 => ?_)
    · rw [b2_0] at h12
      refine w_iconst hX dX10_depth_24 rfl (by decide) ?_
      exact e_i hX hF dX10_depth_25 ⟨by first | rw [it_t (by omega)] | rw [it_f (by omega)], rfl⟩
    · rw [b2_n] at h12
      refine w_aload_n (i := 0) hX dX10_depth_15 rfl rfl rfl ?_
      refine w_getR (j := 16) hX cl9 fl_RX10_44_9 rfl (by decide) rfl rfl dX10_depth_16 rfl ?_
      refine w_iload_n (i := 1) hX dX10_depth_19 rfl rfl rfl ?_
      refine w_iald hX rfl (by omega) (by omega) dX10_depth_20 rfl ?_
      refine w_goto (tgt := 25) hX dX10_depth_21 (by decide) ?_
      exact e_i hX hF dX10_depth_25 ⟨by first | rw [it_t (by omega)] | rw [it_f (by omega)], rfl⟩
