/-! Walker: small steps -/
def wgD (D : Dd) (u a : Int) : Dd := upD (upD (upD D 275 5 u) 275 6 (szF D u)) 275 7 a
/-- the bit of a way -/
def chP (bits c : Int) : Prop := (Int64.ofInt (((Int64.ofInt bits).toUInt64 >>> ((Int32.ofInt (c % 62)).toInt64.toUInt64 &&& Int64.toUInt64 63)).toInt64).toInt &&& Int64.ofInt 1).toInt = 1
/-- only the walker's own numbers change -/
def keepK (D D2 : Dd) : Prop := ∀ k j, k < 275 ∨ 278 < k → D2 k j = D k j
theorem keepK.rf (D : Dd) : keepK D D := fun _ _ _ => rfl
theorem keepK.tr {D D' D2 : Dd} (h : keepK D D') (h2 : keepK D' D2) : keepK D D2 := fun k j a => (h2 k j a).trans (h k j a)
theorem keepK.sm {D D2 : Dd} (h : keepK D D2) : smC D D2 := fun k j hk => h k j (by omega)
theorem keepK.up {D D' : Dd} (h : keepK D D') {k j : Nat} {x : Int} (hk : 275 ≤ k ∧ k ≤ 278) : keepK D (upD D' k j x) := fun a b ha => by rw [upD_k (by omega)]; exact h a b ha
theorem keepK.wg {D : Dd} {u a : Int} : keepK D (wgD D u a) := ((keepK.rf D).up (by decide)).up (by decide) |>.up (by decide)

set_option maxRecDepth 100000 in
set_option maxHeartbeats 4000000 in
theorem m_goTo (D : Dd) (hI : InC D) (u a : Int) : MC 2 yX7_goTo cX7_goTo 3 none [vR 275, vI u, vI a] D (Is none (wgD D u a)) := by
  refine MC.mk [vR 275, vI u, vI a] (by decide) (Nat.le_of_ble_eq_true rfl) rfl (fun X Q hX hF hok hol => ?_)
  refine w_aload_n (i := 0) hX dX7_goTo_0 rfl rfl rfl ?_
  refine w_iload_n (i := 1) hX dX7_goTo_1 rfl rfl rfl ?_
  refine w_putI (j := 5) hX cl6 fl_RX7_53_6 rfl (by decide) rfl rfl (Or.inl rfl) dX7_goTo_2 rfl ?_
  refine w_aload_n (i := 0) hX dX7_goTo_5 rfl rfl rfl ?_
  refine w_aload_n (i := 0) hX dX7_goTo_6 rfl rfl rfl ?_
  refine w_getR (j := 0) hX cl6 fl_RX7_21_6 rfl (by decide) rfl rfl dX7_goTo_7 rfl ?_
  refine w_iload_n (i := 1) hX dX7_goTo_10 rfl rfl rfl ?_
  refine c_V hX ml_RX7_63 cl0 dX7_goTo_11 rfl (m_sizeOf _ (in_sm ((smC.rf D).up (by decide)) hI) u) rfl rfl rfl (by decide) (Nat.le_of_ble_eq_true rfl) ?_
  rintro _ _ ⟨rfl, rfl⟩ -
  rw [sz_sm ((smC.rf D).up (by decide))]
  all_goals try dsimp only [Option.toList, List.cons_append, List.nil_append]
  refine w_putI (j := 6) hX cl6 fl_RX7_46_6 rfl (by decide) rfl rfl (Or.inl rfl) dX7_goTo_14 rfl ?_
  refine w_aload_n (i := 0) hX dX7_goTo_17 rfl rfl rfl ?_
  refine w_iload_n (i := 2) hX dX7_goTo_18 rfl rfl rfl ?_
  refine w_putI (j := 7) hX cl6 fl_RX7_43_6 rfl (by decide) rfl rfl (Or.inl rfl) dX7_goTo_19 rfl ?_
  exact e_v hX hF dX7_goTo_22 ⟨rfl, rfl⟩

set_option maxRecDepth 100000 in
set_option maxHeartbeats 4000000 in
theorem m_chosen (D : Dd) (b : Int) (hc : 0 ≤ D 275 8 ∧ D 275 8 ≤ 1000000) : MC 1 yX7_chosen cX7_chosen 5 (some .boolean) [vR 275, vL b] D (Is (some (vI (b2 (chP b (D 275 8))))) (upD D 275 8 (D 275 8 + 1))) := by
  refine MC.mk [vR 275, vL b, vN, vN, vN] (by decide) (Nat.le_of_ble_eq_true rfl) rfl (fun X Q hX hF hok hol => ?_)
  refine w_lload_n (i := 1) hX dX7_chosen_0 rfl rfl rfl ?_
  refine w_aload_n (i := 0) hX dX7_chosen_1 rfl rfl rfl ?_
  refine w_getI (j := 8) hX cl6 fl_RX7_29_6 rfl (by decide) rfl dX7_chosen_2 rfl ?_
  refine w_bipush hX dX7_chosen_5 rfl (by decide) ?_
  refine w_irem hX dX7_chosen_7 rfl (by omega) (by decide) ?_
  refine w_lushr hX dX7_chosen_8 rfl ?_
  refine w_lconst1 hX dX7_chosen_9 rfl ?_
  refine w_land hX dX7_chosen_10 rfl ?_
  refine w_lstore_n (i := 3) hX dX7_chosen_11 rfl rfl (by decide) ?_
  dsimp only [st1X, st2X, klX_I, klX_L, klX_R, klX_S, klX_N]
  refine w_aload_n (i := 0) hX dX7_chosen_12 rfl rfl rfl ?_
  refine w_dup hX dX7_chosen_13 rfl rfl ?_
  refine w_getI (j := 8) hX cl6 fl_RX7_29_6 rfl (by decide) rfl dX7_chosen_14 rfl ?_
  refine w_iconst hX dX7_chosen_17 rfl (by decide) ?_
  refine w_iadd hX dX7_chosen_18 rfl (by omega) ?_
  refine w_putI (j := 8) hX cl6 fl_RX7_29_6 rfl (by decide) rfl rfl (Or.inl rfl) dX7_chosen_19 rfl ?_
  refine w_lload_n (i := 3) hX dX7_chosen_22 rfl rfl rfl ?_
  refine w_lconst1 hX dX7_chosen_23 rfl ?_
  refine w_lcmp hX dX7_chosen_24 rfl ?_
  refine w_if_ne (tgt := 32) hX dX7_chosen_25 rfl (by decide) (fun h25 => ?_) (fun h25 => ?_)
  · rw [lc_ne] at h25
    refine w_iconst hX dX7_chosen_32 rfl (by decide) ?_
    exact e_z hX hF dX7_chosen_33 (by decide) ⟨by first | rw [b2_t (show chP b (D 275 8) from Classical.not_not.mp h25)] | rw [b2_f (show ¬ chP b (D 275 8) from h25)], rfl⟩
  · rw [lc_ne] at h25
    refine w_iconst hX dX7_chosen_28 rfl (by decide) ?_
    refine w_goto (tgt := 33) hX dX7_chosen_29 (by decide) ?_
    exact e_z hX hF dX7_chosen_33 (by decide) ⟨by first | rw [b2_t (show chP b (D 275 8) from Classical.not_not.mp h25)] | rw [b2_f (show ¬ chP b (D 275 8) from h25)], rfl⟩

def scD (D : Dd) (r t : Int) : Dd := if 0 ≤ r ∧ r < 256 then upD D 276 r.toNat t else D
abbrev cdP (D : Dd) (r : Int) : Prop := (0 ≤ r ∧ r < 256) ∧ D 276 r.toNat ≠ 0
noncomputable def cdD (D : Dd) (r : Int) : Dd := itP (cdP D r) (upD D 276 r.toNat (D 276 r.toNat - 1)) D

set_option maxRecDepth 100000 in
set_option maxHeartbeats 4000000 in
theorem m_setCounter (D : Dd) (r t : Int) : MC 1 yX7_setCounter cX7_setCounter 3 none [vR 275, vI r, vI t] D (Is none (scD D r t)) := by
  refine MC.mk [vR 275, vI r, vI t] (by decide) (Nat.le_of_ble_eq_true rfl) rfl (fun X Q hX hF hok hol => ?_)
  refine w_iload_n (i := 1) hX dX7_setCounter_0 rfl rfl rfl ?_
  refine w_if_lt (tgt := 18) hX dX7_setCounter_1 rfl (by decide) (fun h1 => ?_) (fun h1 => ?_)
  · exact e_v hX hF dX7_setCounter_18 ⟨rfl, by first | rw [scD, if_pos (by omega)] | rw [scD, if_neg (by omega)]⟩
  · refine w_iload_n (i := 1) hX dX7_setCounter_4 rfl rfl rfl ?_
    refine w_sipush hX dX7_setCounter_5 rfl (by decide) ?_
    refine w_icmp_ge (tgt := 18) hX dX7_setCounter_8 rfl (by decide) (fun h8 => ?_) (fun h8 => ?_)
    · exact e_v hX hF dX7_setCounter_18 ⟨rfl, by first | rw [scD, if_pos (by omega)] | rw [scD, if_neg (by omega)]⟩
    · refine w_aload_n (i := 0) hX dX7_setCounter_11 rfl rfl rfl ?_
      refine w_getR (j := 1) hX cl6 fl_RX7_9_6 rfl (by decide) rfl rfl dX7_setCounter_12 rfl ?_
      refine w_iload_n (i := 1) hX dX7_setCounter_15 rfl rfl rfl ?_
      refine w_iload_n (i := 2) hX dX7_setCounter_16 rfl rfl rfl ?_
      refine w_iast hX rfl (by omega) (by omega) dX7_setCounter_17 rfl ?_
      exact e_v hX hF dX7_setCounter_18 ⟨rfl, by first | rw [scD, if_pos (by omega)] | rw [scD, if_neg (by omega)]⟩

set_option maxRecDepth 100000 in
set_option maxHeartbeats 4000000 in
theorem m_countsDown (D : Dd) (r : Int) (hc : ∀ j : Nat, j < 256 → 0 ≤ D 276 j) : MC 1 yX7_countsDown cX7_countsDown 2 (some .boolean) [vR 275, vI r] D (Is (some (vI (b2 (cdP D r)))) (cdD D r)) := by
  refine MC.mk [vR 275, vI r] (by decide) (Nat.le_of_ble_eq_true rfl) rfl (fun X Q hX hF hok hol => ?_)
  refine w_iload_n (i := 1) hX dX7_countsDown_0 rfl rfl rfl ?_
  refine w_if_lt (tgt := 20) hX dX7_countsDown_1 rfl (by decide) (fun h1 => ?_) (fun h1 => ?_)
  · refine w_iconst hX dX7_countsDown_20 rfl (by decide) ?_
    exact e_z hX hF dX7_countsDown_21 (by decide) ⟨by rw [b2_f (by omega)], by rw [cdD, it_f (by omega)]⟩
  · refine w_iload_n (i := 1) hX dX7_countsDown_4 rfl rfl rfl ?_
    refine w_sipush hX dX7_countsDown_5 rfl (by decide) ?_
    refine w_icmp_ge (tgt := 20) hX dX7_countsDown_8 rfl (by decide) (fun h8 => ?_) (fun h8 => ?_)
    · refine w_iconst hX dX7_countsDown_20 rfl (by decide) ?_
      exact e_z hX hF dX7_countsDown_21 (by decide) ⟨by rw [b2_f (by omega)], by rw [cdD, it_f (by omega)]⟩
    · refine w_aload_n (i := 0) hX dX7_countsDown_11 rfl rfl rfl ?_
      refine w_getR (j := 1) hX cl6 fl_RX7_9_6 rfl (by decide) rfl rfl dX7_countsDown_12 rfl ?_
      refine w_iload_n (i := 1) hX dX7_countsDown_15 rfl rfl rfl ?_
      refine w_iald hX rfl (by omega) (by omega) dX7_countsDown_16 rfl ?_
      refine w_if_ne (tgt := 22) hX dX7_countsDown_17 rfl (by decide) (fun h17 => ?_) (fun h17 => ?_)
      · refine w_aload_n (i := 0) hX dX7_countsDown_22 rfl rfl rfl ?_
        refine w_getR (j := 1) hX cl6 fl_RX7_9_6 rfl (by decide) rfl rfl dX7_countsDown_23 rfl ?_
        refine w_iload_n (i := 1) hX dX7_countsDown_26 rfl rfl rfl ?_
        refine w_dup2 hX dX7_countsDown_27 rfl rfl rfl ?_
        refine w_iald hX rfl (by omega) (by omega) dX7_countsDown_28 rfl ?_
        refine w_iconst hX dX7_countsDown_29 rfl (by decide) ?_
        have zq_c := hc r.toNat (by omega)
        have zq_u : inI (D 276 r.toNat) := hok.int (k := 276) (by decide) (by decide) r.toNat
        refine w_isub hX dX7_countsDown_30 rfl (by omega) ?_
        refine w_iast hX rfl (by omega) (by omega) dX7_countsDown_31 rfl ?_
        refine w_iconst hX dX7_countsDown_32 rfl (by decide) ?_
        exact e_z hX hF dX7_countsDown_33 (by decide) ⟨by rw [b2_t (by omega)], by rw [cdD, it_t (by omega)]⟩
      · refine w_iconst hX dX7_countsDown_20 rfl (by decide) ?_
        exact e_z hX hF dX7_countsDown_21 (by decide) ⟨by rw [b2_f (by omega)], by rw [cdD, it_f (by omega)]⟩

noncomputable def wiD (D : Dd) (v : Int) : Dd := itP (0 ≤ D 275 4 ∧ D 275 4 < 16) (wgD (upD (upD (upD D 277 (D 275 4).toNat (D 275 5)) 278 (D 275 4).toNat (D 275 7 + 1)) 275 4 (D 275 4 + 1)) v 0) D

set_option maxRecDepth 100000 in
set_option maxHeartbeats 4000000 in
theorem m_goInto (D : Dd) (hI : InC D) (v : Int) (ha : D 275 7 ≤ 256) : MC 3 yX7_goInto cX7_goInto 2 none [vR 275, vI v] D (Is none (wiD D v)) := by
  refine MC.mk [vR 275, vI v] (by decide) (Nat.le_of_ble_eq_true rfl) rfl (fun X Q hX hF hok hol => ?_)
  refine w_aload_n (i := 0) hX dX7_goInto_0 rfl rfl rfl ?_
  refine w_getI (j := 4) hX cl6 fl_RX7_25_6 rfl (by decide) rfl dX7_goInto_1 rfl ?_
  try simp +decide only [upD_rd, ↓reduceIte]
  refine w_if_lt (tgt := 60) hX dX7_goInto_4 rfl (by decide) (fun h4 => ?_) (fun h4 => ?_)
  · exact e_v hX hF dX7_goInto_60 ⟨rfl, by first | rw [wiD, it_f (by omega)] | rw [wiD, it_t (by omega)]⟩
  · refine w_aload_n (i := 0) hX dX7_goInto_7 rfl rfl rfl ?_
    refine w_getI (j := 4) hX cl6 fl_RX7_25_6 rfl (by decide) rfl dX7_goInto_8 rfl ?_
    try simp +decide only [upD_rd, ↓reduceIte]
    refine w_bipush hX dX7_goInto_11 rfl (by decide) ?_
    refine w_icmp_ge (tgt := 60) hX dX7_goInto_13 rfl (by decide) (fun h13 => ?_) (fun h13 => ?_)
    · exact e_v hX hF dX7_goInto_60 ⟨rfl, by first | rw [wiD, it_f (by omega)] | rw [wiD, it_t (by omega)]⟩
    · refine w_aload_n (i := 0) hX dX7_goInto_16 rfl rfl rfl ?_
      refine w_getR (j := 2) hX cl6 fl_RX7_15_6 rfl (by decide) rfl rfl dX7_goInto_17 rfl ?_
      try simp +decide only [upD_rd, ↓reduceIte]
      refine w_aload_n (i := 0) hX dX7_goInto_20 rfl rfl rfl ?_
      refine w_getI (j := 4) hX cl6 fl_RX7_25_6 rfl (by decide) rfl dX7_goInto_21 rfl ?_
      try simp +decide only [upD_rd, ↓reduceIte]
      refine w_aload_n (i := 0) hX dX7_goInto_24 rfl rfl rfl ?_
      refine w_getI (j := 5) hX cl6 fl_RX7_53_6 rfl (by decide) rfl dX7_goInto_25 rfl ?_
      try simp +decide only [upD_rd, ↓reduceIte]
      refine w_iast hX rfl (by omega) (by omega) dX7_goInto_28 rfl ?_
      refine w_aload_n (i := 0) hX dX7_goInto_29 rfl rfl rfl ?_
      refine w_getR (j := 3) hX cl6 fl_RX7_18_6 rfl (by decide) rfl rfl dX7_goInto_30 rfl ?_
      try simp +decide only [upD_rd, ↓reduceIte]
      refine w_aload_n (i := 0) hX dX7_goInto_33 rfl rfl rfl ?_
      refine w_getI (j := 4) hX cl6 fl_RX7_25_6 rfl (by decide) rfl dX7_goInto_34 rfl ?_
      try simp +decide only [upD_rd, ↓reduceIte]
      refine w_aload_n (i := 0) hX dX7_goInto_37 rfl rfl rfl ?_
      refine w_getI (j := 7) hX cl6 fl_RX7_43_6 rfl (by decide) rfl dX7_goInto_38 rfl ?_
      try simp +decide only [upD_rd, ↓reduceIte]
      refine w_iconst hX dX7_goInto_41 rfl (by decide) ?_
      refine w_ok (fun zq_o _ _ => ?_)
      have zq_7 : inI (D 275 7) := hok.int (k := 275) (by decide) (by decide) 7
      refine w_iadd hX dX7_goInto_42 rfl (by omega) ?_
      refine w_iast hX rfl (by omega) (by omega) dX7_goInto_43 rfl ?_
      refine w_aload_n (i := 0) hX dX7_goInto_44 rfl rfl rfl ?_
      refine w_dup hX dX7_goInto_45 rfl rfl ?_
      refine w_getI (j := 4) hX cl6 fl_RX7_25_6 rfl (by decide) rfl dX7_goInto_46 rfl ?_
      try simp +decide only [upD_rd, ↓reduceIte]
      refine w_iconst hX dX7_goInto_49 rfl (by decide) ?_
      refine w_iadd hX dX7_goInto_50 rfl (by omega) ?_
      refine w_putI (j := 4) hX cl6 fl_RX7_25_6 rfl (by decide) rfl rfl (Or.inl rfl) dX7_goInto_51 rfl ?_
      refine w_aload_n (i := 0) hX dX7_goInto_54 rfl rfl rfl ?_
      refine w_iload_n (i := 1) hX dX7_goInto_55 rfl rfl rfl ?_
      refine w_iconst hX dX7_goInto_56 rfl (by decide) ?_
      refine c_V hX ml_RX7_38 cl6 dX7_goInto_57 rfl (m_goTo _ (in_sm (((smC.rf D).up (by decide)).up (by decide) |>.up (by decide)) hI) v 0) rfl rfl rfl (by decide) (Nat.le_of_ble_eq_true rfl) ?_
      rintro _ _ ⟨rfl, rfl⟩ -
      all_goals try dsimp only [Option.toList, List.cons_append, List.nil_append]
      exact e_v hX hF dX7_goInto_60 ⟨rfl, by first | rw [wiD, it_f (by omega)] | rw [wiD, it_t (by omega)]⟩

/-- takeStep at the instruction k -/
noncomputable def tsD (D : Dd) (k : Nat) (b : Int) : Dd :=
  itP (D k 0 = 10 ∨ D k 0 = 14) (upD D 275 7 (D k 1))
  (itP (D k 0 = 11) (upD (upD D 275 8 (D 275 8 + 1)) 275 7 (itP (chP b (D 275 8)) (D k 1) (D 275 7 + 1)))
  (itP (D k 0 = 12) (upD (scD D (rowF D (D 275 5) (D 275 7)) (D k 2)) 275 7 (D 275 7 + 1))
  (itP (D k 0 = 13) (upD (cdD D (rowF D (D 275 5) (D 275 7 - 1))) 275 7 (itP (cdP D (rowF D (D 275 5) (D 275 7 - 1))) (D 275 7 + 1) (D k 2)))
  (itP (D k 0 = 15 ∨ D k 0 = 16) (wiD D (D k 1))
  (itP (D k 0 = 18) (upD D 275 7 (D 275 6))
  (upD D 275 7 (D 275 7 + 1)))))))
theorem sc_k {D : Dd} {r t : Int} {k j : Nat} (h : k ≠ 276) : scD D r t k j = D k j := by
  unfold scD; split
  · exact upD_k h
  · rfl
theorem cd_k {D : Dd} {r : Int} {k j : Nat} (h : k ≠ 276) : cdD D r k j = D k j := by
  unfold cdD
  by_cases q : cdP D r
  · rw [it_t q]; exact upD_k h
  · rw [it_f q]
theorem ne_w {k : Nat} (h : isIns k) {l : Nat} (hl : 264 ≤ l) : k ≠ l := by
  rcases h with h | h
  · rw [h]; intro q; omega
  · omega

set_option maxRecDepth 100000 in
set_option maxHeartbeats 4000000 in
theorem m_takeStep (D : Dd) (hI : InC D) (k : Nat) (hk : isIns k) (b : Int) (ha : 0 ≤ D 275 7 ∧ D 275 7 ≤ 256) (hc : 0 ≤ D 275 8 ∧ D 275 8 ≤ 1000000) (hn : ∀ j : Nat, j < 256 → 0 ≤ D 276 j) : MC 4 yX7_takeStep cX7_takeStep 4 none [vR 275, vR k, vL b] D (Is none (tsD D k b)) := by
  refine MC.mk [vR 275, vR k, vL b, vN] (by decide) (Nat.le_of_ble_eq_true rfl) rfl (fun X Q hX hF hok hol => ?_)
  refine w_aload_n (i := 1) hX dX7_takeStep_0 rfl rfl rfl ?_
  refine w_getI (j := 0) hX cl2 fl_RX7_67_2 (K0_ins hk) (by decide) rfl dX7_takeStep_1 rfl ?_
  refine w_nameI (fun sw4 hsw4 => ?_)
  by_cases g4_0 : sw4 = 10 ∨ sw4 = 14
  · refine w_tsw (tgt := 56) hX dX7_takeStep_4 rfl (by rcases g4_0 with w | w <;> rw [w] <;> decide) ?_
    refine w_aload_n (i := 0) hX dX7_takeStep_56 rfl rfl rfl ?_
    refine w_aload_n (i := 1) hX dX7_takeStep_57 rfl rfl rfl ?_
    refine w_getI (j := 1) hX cl2 fl_RX7_72_2 (K0_ins hk) (by decide) rfl dX7_takeStep_58 rfl ?_
    refine w_putI (j := 7) hX cl6 fl_RX7_43_6 rfl (by decide) rfl rfl (Or.inl rfl) dX7_takeStep_61 rfl ?_
    refine w_goto (tgt := 207) hX dX7_takeStep_64 (by decide) ?_
    exact e_v hX hF dX7_takeStep_207 (by first | exact ⟨rfl, by rw [tsD, it_t (by omega)]⟩ | exact ⟨rfl, by rw [tsD, it_f (by omega), it_t (by omega), it_t h73]⟩ | exact ⟨rfl, by rw [tsD, it_f (by omega), it_t (by omega), it_f h73]⟩ | exact ⟨rfl, by rw [tsD, it_f (by omega), it_f (by omega), it_t (by omega)]⟩ | exact ⟨rfl, by rw [tsD, it_f (by omega), it_f (by omega), it_f (by omega), it_t (by omega), it_t h153]⟩ | exact ⟨rfl, by rw [tsD, it_f (by omega), it_f (by omega), it_f (by omega), it_t (by omega), it_f h153]⟩ | exact ⟨rfl, by rw [tsD, it_f (by omega), it_f (by omega), it_f (by omega), it_f (by omega), it_t (by omega)]⟩ | exact ⟨rfl, by rw [tsD, it_f (by omega), it_f (by omega), it_f (by omega), it_f (by omega), it_f (by omega), it_t (by omega)]⟩ | exact ⟨rfl, by rw [tsD, it_f (by omega), it_f (by omega), it_f (by omega), it_f (by omega), it_f (by omega), it_f (by omega)]⟩)
  by_cases g4_1 : sw4 = 11
  · refine w_tsw (tgt := 67) hX dX7_takeStep_4 rfl (by rw [g4_1]; decide) ?_
    refine w_aload_n (i := 0) hX dX7_takeStep_67 rfl rfl rfl ?_
    refine w_aload_n (i := 0) hX dX7_takeStep_68 rfl rfl rfl ?_
    refine w_lload_n (i := 2) hX dX7_takeStep_69 rfl rfl rfl ?_
    refine c_V hX ml_RX7_75 cl6 dX7_takeStep_70 rfl (m_chosen D b hc) rfl rfl rfl (by decide) (Nat.le_of_ble_eq_true rfl) ?_
    rintro _ _ ⟨rfl, rfl⟩ -
    all_goals try dsimp only [Option.toList, List.cons_append, List.nil_append]
    refine w_if_eq (tgt := 83) hX dX7_takeStep_73 rfl (by decide) (fun h73 => ?_) (fun h73 => ?_)
    · rw [b2_0] at h73
      refine w_aload_n (i := 0) hX dX7_takeStep_83 rfl rfl rfl ?_
      refine w_getI (j := 7) hX cl6 fl_RX7_43_6 rfl (by decide) rfl dX7_takeStep_84 rfl ?_
      rw [upD_j (by decide)]
      refine w_iconst hX dX7_takeStep_87 rfl (by decide) ?_
      refine w_iadd hX dX7_takeStep_88 rfl (by omega) ?_
      refine w_putI (j := 7) hX cl6 fl_RX7_43_6 rfl (by decide) rfl rfl (Or.inl rfl) dX7_takeStep_89 rfl ?_
      refine w_goto (tgt := 207) hX dX7_takeStep_92 (by decide) ?_
      exact e_v hX hF dX7_takeStep_207 (by first | exact ⟨rfl, by rw [tsD, it_t (by omega)]⟩ | exact ⟨rfl, by rw [tsD, it_f (by omega), it_t (by omega), it_t h73]⟩ | exact ⟨rfl, by rw [tsD, it_f (by omega), it_t (by omega), it_f h73]⟩ | exact ⟨rfl, by rw [tsD, it_f (by omega), it_f (by omega), it_t (by omega)]⟩ | exact ⟨rfl, by rw [tsD, it_f (by omega), it_f (by omega), it_f (by omega), it_t (by omega), it_t h153]⟩ | exact ⟨rfl, by rw [tsD, it_f (by omega), it_f (by omega), it_f (by omega), it_t (by omega), it_f h153]⟩ | exact ⟨rfl, by rw [tsD, it_f (by omega), it_f (by omega), it_f (by omega), it_f (by omega), it_t (by omega)]⟩ | exact ⟨rfl, by rw [tsD, it_f (by omega), it_f (by omega), it_f (by omega), it_f (by omega), it_f (by omega), it_t (by omega)]⟩ | exact ⟨rfl, by rw [tsD, it_f (by omega), it_f (by omega), it_f (by omega), it_f (by omega), it_f (by omega), it_f (by omega)]⟩)
    · rw [b2_n] at h73
      refine w_aload_n (i := 1) hX dX7_takeStep_76 rfl rfl rfl ?_
      refine w_getI (j := 1) hX cl2 fl_RX7_72_2 (K0_ins hk) (by decide) rfl dX7_takeStep_77 rfl ?_
      rw [upD_k (ne_w hk (by decide))]
      refine w_goto (tgt := 89) hX dX7_takeStep_80 (by decide) ?_
      refine w_putI (j := 7) hX cl6 fl_RX7_43_6 rfl (by decide) rfl rfl (Or.inl rfl) dX7_takeStep_89 rfl ?_
      refine w_goto (tgt := 207) hX dX7_takeStep_92 (by decide) ?_
      exact e_v hX hF dX7_takeStep_207 (by first | exact ⟨rfl, by rw [tsD, it_t (by omega)]⟩ | exact ⟨rfl, by rw [tsD, it_f (by omega), it_t (by omega), it_t h73]⟩ | exact ⟨rfl, by rw [tsD, it_f (by omega), it_t (by omega), it_f h73]⟩ | exact ⟨rfl, by rw [tsD, it_f (by omega), it_f (by omega), it_t (by omega)]⟩ | exact ⟨rfl, by rw [tsD, it_f (by omega), it_f (by omega), it_f (by omega), it_t (by omega), it_t h153]⟩ | exact ⟨rfl, by rw [tsD, it_f (by omega), it_f (by omega), it_f (by omega), it_t (by omega), it_f h153]⟩ | exact ⟨rfl, by rw [tsD, it_f (by omega), it_f (by omega), it_f (by omega), it_f (by omega), it_t (by omega)]⟩ | exact ⟨rfl, by rw [tsD, it_f (by omega), it_f (by omega), it_f (by omega), it_f (by omega), it_f (by omega), it_t (by omega)]⟩ | exact ⟨rfl, by rw [tsD, it_f (by omega), it_f (by omega), it_f (by omega), it_f (by omega), it_f (by omega), it_f (by omega)]⟩)
  by_cases g4_2 : sw4 = 12
  · refine w_tsw (tgt := 95) hX dX7_takeStep_4 rfl (by rw [g4_2]; decide) ?_
    refine w_aload_n (i := 0) hX dX7_takeStep_95 rfl rfl rfl ?_
    refine w_aload_n (i := 0) hX dX7_takeStep_96 rfl rfl rfl ?_
    refine w_getR (j := 0) hX cl6 fl_RX7_21_6 rfl (by decide) rfl rfl dX7_takeStep_97 rfl ?_
    refine w_aload_n (i := 0) hX dX7_takeStep_100 rfl rfl rfl ?_
    refine w_getI (j := 5) hX cl6 fl_RX7_53_6 rfl (by decide) rfl dX7_takeStep_101 rfl ?_
    refine w_aload_n (i := 0) hX dX7_takeStep_104 rfl rfl rfl ?_
    refine w_getI (j := 7) hX cl6 fl_RX7_43_6 rfl (by decide) rfl dX7_takeStep_105 rfl ?_
    refine c_V hX ml_RX7_79 cl0 dX7_takeStep_108 rfl (m_rowOf D hI (D 275 5) (D 275 7)) rfl rfl rfl (by decide) (Nat.le_of_ble_eq_true rfl) ?_
    rintro _ _ ⟨rfl, rfl⟩ -
    all_goals try dsimp only [Option.toList, List.cons_append, List.nil_append]
    refine w_aload_n (i := 1) hX dX7_takeStep_111 rfl rfl rfl ?_
    refine w_getI (j := 2) hX cl2 fl_RX7_83_2 (K0_ins hk) (by decide) rfl dX7_takeStep_112 rfl ?_
    refine c_V hX ml_RX7_86 cl6 dX7_takeStep_115 rfl (m_setCounter D _ _) rfl rfl rfl (by decide) (Nat.le_of_ble_eq_true rfl) ?_
    rintro _ _ ⟨rfl, rfl⟩ -
    all_goals try dsimp only [Option.toList, List.cons_append, List.nil_append]
    refine w_aload_n (i := 0) hX dX7_takeStep_118 rfl rfl rfl ?_
    refine w_dup hX dX7_takeStep_119 rfl rfl ?_
    refine w_getI (j := 7) hX cl6 fl_RX7_43_6 rfl (by decide) rfl dX7_takeStep_120 rfl ?_
    rw [sc_k (by decide)]
    refine w_iconst hX dX7_takeStep_123 rfl (by decide) ?_
    refine w_iadd hX dX7_takeStep_124 rfl (by omega) ?_
    refine w_putI (j := 7) hX cl6 fl_RX7_43_6 rfl (by decide) rfl rfl (Or.inl rfl) dX7_takeStep_125 rfl ?_
    refine w_goto (tgt := 207) hX dX7_takeStep_128 (by decide) ?_
    exact e_v hX hF dX7_takeStep_207 (by first | exact ⟨rfl, by rw [tsD, it_t (by omega)]⟩ | exact ⟨rfl, by rw [tsD, it_f (by omega), it_t (by omega), it_t h73]⟩ | exact ⟨rfl, by rw [tsD, it_f (by omega), it_t (by omega), it_f h73]⟩ | exact ⟨rfl, by rw [tsD, it_f (by omega), it_f (by omega), it_t (by omega)]⟩ | exact ⟨rfl, by rw [tsD, it_f (by omega), it_f (by omega), it_f (by omega), it_t (by omega), it_t h153]⟩ | exact ⟨rfl, by rw [tsD, it_f (by omega), it_f (by omega), it_f (by omega), it_t (by omega), it_f h153]⟩ | exact ⟨rfl, by rw [tsD, it_f (by omega), it_f (by omega), it_f (by omega), it_f (by omega), it_t (by omega)]⟩ | exact ⟨rfl, by rw [tsD, it_f (by omega), it_f (by omega), it_f (by omega), it_f (by omega), it_f (by omega), it_t (by omega)]⟩ | exact ⟨rfl, by rw [tsD, it_f (by omega), it_f (by omega), it_f (by omega), it_f (by omega), it_f (by omega), it_f (by omega)]⟩)
  by_cases g4_3 : sw4 = 13
  · refine w_tsw (tgt := 131) hX dX7_takeStep_4 rfl (by rw [g4_3]; decide) ?_
    refine w_aload_n (i := 0) hX dX7_takeStep_131 rfl rfl rfl ?_
    refine w_aload_n (i := 0) hX dX7_takeStep_132 rfl rfl rfl ?_
    refine w_aload_n (i := 0) hX dX7_takeStep_133 rfl rfl rfl ?_
    refine w_getR (j := 0) hX cl6 fl_RX7_21_6 rfl (by decide) rfl rfl dX7_takeStep_134 rfl ?_
    refine w_aload_n (i := 0) hX dX7_takeStep_137 rfl rfl rfl ?_
    refine w_getI (j := 5) hX cl6 fl_RX7_53_6 rfl (by decide) rfl dX7_takeStep_138 rfl ?_
    refine w_aload_n (i := 0) hX dX7_takeStep_141 rfl rfl rfl ?_
    refine w_getI (j := 7) hX cl6 fl_RX7_43_6 rfl (by decide) rfl dX7_takeStep_142 rfl ?_
    refine w_iconst hX dX7_takeStep_145 rfl (by decide) ?_
    refine w_isub hX dX7_takeStep_146 rfl (by omega) ?_
    refine c_V hX ml_RX7_79 cl0 dX7_takeStep_147 rfl (m_rowOf D hI (D 275 5) (D 275 7 - 1)) rfl rfl rfl (by decide) (Nat.le_of_ble_eq_true rfl) ?_
    rintro _ _ ⟨rfl, rfl⟩ -
    all_goals try dsimp only [Option.toList, List.cons_append, List.nil_append]
    refine c_V hX ml_RX7_89 cl6 dX7_takeStep_150 rfl (m_countsDown D _ hn) rfl rfl rfl (by decide) (Nat.le_of_ble_eq_true rfl) ?_
    rintro _ _ ⟨rfl, rfl⟩ -
    all_goals try dsimp only [Option.toList, List.cons_append, List.nil_append]
    refine w_if_eq (tgt := 165) hX dX7_takeStep_153 rfl (by decide) (fun h153 => ?_) (fun h153 => ?_)
    · rw [b2_0] at h153
      refine w_aload_n (i := 1) hX dX7_takeStep_165 rfl rfl rfl ?_
      refine w_getI (j := 2) hX cl2 fl_RX7_83_2 (K0_ins hk) (by decide) rfl dX7_takeStep_166 rfl ?_
      rw [cd_k (ne_w hk (by decide))]
      refine w_putI (j := 7) hX cl6 fl_RX7_43_6 rfl (by decide) rfl rfl (Or.inl rfl) dX7_takeStep_169 rfl ?_
      refine w_goto (tgt := 207) hX dX7_takeStep_172 (by decide) ?_
      exact e_v hX hF dX7_takeStep_207 (by first | exact ⟨rfl, by rw [tsD, it_t (by omega)]⟩ | exact ⟨rfl, by rw [tsD, it_f (by omega), it_t (by omega), it_t h73]⟩ | exact ⟨rfl, by rw [tsD, it_f (by omega), it_t (by omega), it_f h73]⟩ | exact ⟨rfl, by rw [tsD, it_f (by omega), it_f (by omega), it_t (by omega)]⟩ | exact ⟨rfl, by rw [tsD, it_f (by omega), it_f (by omega), it_f (by omega), it_t (by omega), it_t h153]⟩ | exact ⟨rfl, by rw [tsD, it_f (by omega), it_f (by omega), it_f (by omega), it_t (by omega), it_f h153]⟩ | exact ⟨rfl, by rw [tsD, it_f (by omega), it_f (by omega), it_f (by omega), it_f (by omega), it_t (by omega)]⟩ | exact ⟨rfl, by rw [tsD, it_f (by omega), it_f (by omega), it_f (by omega), it_f (by omega), it_f (by omega), it_t (by omega)]⟩ | exact ⟨rfl, by rw [tsD, it_f (by omega), it_f (by omega), it_f (by omega), it_f (by omega), it_f (by omega), it_f (by omega)]⟩)
    · rw [b2_n] at h153
      refine w_aload_n (i := 0) hX dX7_takeStep_156 rfl rfl rfl ?_
      refine w_getI (j := 7) hX cl6 fl_RX7_43_6 rfl (by decide) rfl dX7_takeStep_157 rfl ?_
      rw [cd_k (by decide)]
      refine w_iconst hX dX7_takeStep_160 rfl (by decide) ?_
      refine w_iadd hX dX7_takeStep_161 rfl (by omega) ?_
      refine w_goto (tgt := 169) hX dX7_takeStep_162 (by decide) ?_
      refine w_putI (j := 7) hX cl6 fl_RX7_43_6 rfl (by decide) rfl rfl (Or.inl rfl) dX7_takeStep_169 rfl ?_
      refine w_goto (tgt := 207) hX dX7_takeStep_172 (by decide) ?_
      exact e_v hX hF dX7_takeStep_207 (by first | exact ⟨rfl, by rw [tsD, it_t (by omega)]⟩ | exact ⟨rfl, by rw [tsD, it_f (by omega), it_t (by omega), it_t h73]⟩ | exact ⟨rfl, by rw [tsD, it_f (by omega), it_t (by omega), it_f h73]⟩ | exact ⟨rfl, by rw [tsD, it_f (by omega), it_f (by omega), it_t (by omega)]⟩ | exact ⟨rfl, by rw [tsD, it_f (by omega), it_f (by omega), it_f (by omega), it_t (by omega), it_t h153]⟩ | exact ⟨rfl, by rw [tsD, it_f (by omega), it_f (by omega), it_f (by omega), it_t (by omega), it_f h153]⟩ | exact ⟨rfl, by rw [tsD, it_f (by omega), it_f (by omega), it_f (by omega), it_f (by omega), it_t (by omega)]⟩ | exact ⟨rfl, by rw [tsD, it_f (by omega), it_f (by omega), it_f (by omega), it_f (by omega), it_f (by omega), it_t (by omega)]⟩ | exact ⟨rfl, by rw [tsD, it_f (by omega), it_f (by omega), it_f (by omega), it_f (by omega), it_f (by omega), it_f (by omega)]⟩)
  by_cases g4_4 : sw4 = 15 ∨ sw4 = 16
  · refine w_tsw (tgt := 175) hX dX7_takeStep_4 rfl (by rcases g4_4 with w | w <;> rw [w] <;> decide) ?_
    refine w_aload_n (i := 0) hX dX7_takeStep_175 rfl rfl rfl ?_
    refine w_aload_n (i := 1) hX dX7_takeStep_176 rfl rfl rfl ?_
    refine w_getI (j := 1) hX cl2 fl_RX7_72_2 (K0_ins hk) (by decide) rfl dX7_takeStep_177 rfl ?_
    refine c_V hX ml_RX7_93 cl6 dX7_takeStep_180 rfl (m_goInto D hI (D k 1) (by omega)) rfl rfl rfl (by decide) (Nat.le_of_ble_eq_true rfl) ?_
    rintro _ _ ⟨rfl, rfl⟩ -
    all_goals try dsimp only [Option.toList, List.cons_append, List.nil_append]
    refine w_goto (tgt := 207) hX dX7_takeStep_183 (by decide) ?_
    exact e_v hX hF dX7_takeStep_207 (by first | exact ⟨rfl, by rw [tsD, it_t (by omega)]⟩ | exact ⟨rfl, by rw [tsD, it_f (by omega), it_t (by omega), it_t h73]⟩ | exact ⟨rfl, by rw [tsD, it_f (by omega), it_t (by omega), it_f h73]⟩ | exact ⟨rfl, by rw [tsD, it_f (by omega), it_f (by omega), it_t (by omega)]⟩ | exact ⟨rfl, by rw [tsD, it_f (by omega), it_f (by omega), it_f (by omega), it_t (by omega), it_t h153]⟩ | exact ⟨rfl, by rw [tsD, it_f (by omega), it_f (by omega), it_f (by omega), it_t (by omega), it_f h153]⟩ | exact ⟨rfl, by rw [tsD, it_f (by omega), it_f (by omega), it_f (by omega), it_f (by omega), it_t (by omega)]⟩ | exact ⟨rfl, by rw [tsD, it_f (by omega), it_f (by omega), it_f (by omega), it_f (by omega), it_f (by omega), it_t (by omega)]⟩ | exact ⟨rfl, by rw [tsD, it_f (by omega), it_f (by omega), it_f (by omega), it_f (by omega), it_f (by omega), it_f (by omega)]⟩)
  by_cases g4_5 : sw4 = 18
  · refine w_tsw (tgt := 186) hX dX7_takeStep_4 rfl (by rw [g4_5]; decide) ?_
    refine w_aload_n (i := 0) hX dX7_takeStep_186 rfl rfl rfl ?_
    refine w_aload_n (i := 0) hX dX7_takeStep_187 rfl rfl rfl ?_
    refine w_getI (j := 6) hX cl6 fl_RX7_46_6 rfl (by decide) rfl dX7_takeStep_188 rfl ?_
    refine w_putI (j := 7) hX cl6 fl_RX7_43_6 rfl (by decide) rfl rfl (Or.inl rfl) dX7_takeStep_191 rfl ?_
    refine w_goto (tgt := 207) hX dX7_takeStep_194 (by decide) ?_
    exact e_v hX hF dX7_takeStep_207 (by first | exact ⟨rfl, by rw [tsD, it_t (by omega)]⟩ | exact ⟨rfl, by rw [tsD, it_f (by omega), it_t (by omega), it_t h73]⟩ | exact ⟨rfl, by rw [tsD, it_f (by omega), it_t (by omega), it_f h73]⟩ | exact ⟨rfl, by rw [tsD, it_f (by omega), it_f (by omega), it_t (by omega)]⟩ | exact ⟨rfl, by rw [tsD, it_f (by omega), it_f (by omega), it_f (by omega), it_t (by omega), it_t h153]⟩ | exact ⟨rfl, by rw [tsD, it_f (by omega), it_f (by omega), it_f (by omega), it_t (by omega), it_f h153]⟩ | exact ⟨rfl, by rw [tsD, it_f (by omega), it_f (by omega), it_f (by omega), it_f (by omega), it_t (by omega)]⟩ | exact ⟨rfl, by rw [tsD, it_f (by omega), it_f (by omega), it_f (by omega), it_f (by omega), it_f (by omega), it_t (by omega)]⟩ | exact ⟨rfl, by rw [tsD, it_f (by omega), it_f (by omega), it_f (by omega), it_f (by omega), it_f (by omega), it_f (by omega)]⟩)
  refine w_tsw (tgt := 197) hX dX7_takeStep_4 rfl (by rw [sw_dflt [10, 14, 11, 12, 13, 15, 16, 18] (by decide) (by simp only [List.mem_cons, List.not_mem_nil, or_false]; omega)]; decide) ?_
  refine w_aload_n (i := 0) hX dX7_takeStep_197 rfl rfl rfl ?_
  refine w_dup hX dX7_takeStep_198 rfl rfl ?_
  refine w_getI (j := 7) hX cl6 fl_RX7_43_6 rfl (by decide) rfl dX7_takeStep_199 rfl ?_
  refine w_iconst hX dX7_takeStep_202 rfl (by decide) ?_
  refine w_iadd hX dX7_takeStep_203 rfl (by omega) ?_
  refine w_putI (j := 7) hX cl6 fl_RX7_43_6 rfl (by decide) rfl rfl (Or.inl rfl) dX7_takeStep_204 rfl ?_
  exact e_v hX hF dX7_takeStep_207 (by first | exact ⟨rfl, by rw [tsD, it_t (by omega)]⟩ | exact ⟨rfl, by rw [tsD, it_f (by omega), it_t (by omega), it_t h73]⟩ | exact ⟨rfl, by rw [tsD, it_f (by omega), it_t (by omega), it_f h73]⟩ | exact ⟨rfl, by rw [tsD, it_f (by omega), it_f (by omega), it_t (by omega)]⟩ | exact ⟨rfl, by rw [tsD, it_f (by omega), it_f (by omega), it_f (by omega), it_t (by omega), it_t h153]⟩ | exact ⟨rfl, by rw [tsD, it_f (by omega), it_f (by omega), it_f (by omega), it_t (by omega), it_f h153]⟩ | exact ⟨rfl, by rw [tsD, it_f (by omega), it_f (by omega), it_f (by omega), it_f (by omega), it_t (by omega)]⟩ | exact ⟨rfl, by rw [tsD, it_f (by omega), it_f (by omega), it_f (by omega), it_f (by omega), it_f (by omega), it_t (by omega)]⟩ | exact ⟨rfl, by rw [tsD, it_f (by omega), it_f (by omega), it_f (by omega), it_f (by omega), it_f (by omega), it_f (by omega)]⟩)
