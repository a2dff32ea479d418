/-! The reference: steps, backwards -/
def cutF (v : Int) : Int := if 2000000000 < v then 2000000000 else v
def grF (a b : Int) : Int := if b < a then a else b
def bhF (o r : Int) : Int := if o < 0 ∨ r < 0 then -1 else cutF (o + r)
def tmF (D : Dd) (l n : Int) : Int := if n = 0 then 0 else if D 289 l.toNat < 0 then -1 else cutF (n * D 289 l.toNat)
theorem cut_in {v : Int} (h : 0 ≤ v) : 0 ≤ cutF v ∧ cutF v ≤ 2000000000 := by unfold cutF; split <;> omega
theorem bh_in (o r : Int) : -1 ≤ bhF o r ∧ bhF o r ≤ 2000000000 := by
  unfold bhF
  split
  · omega
  · have := cut_in (v := o + r) (by omega); omega
theorem mul2 {n r : Int} (hn : -1 ≤ n ∧ n ≤ 1000000) (hr : 0 ≤ r ∧ r ≤ 2000000000) : -2000000000 ≤ n * r ∧ n * r ≤ 2000000000000000 := by
  have h1 : n * r ≤ 1000000 * r := Int.mul_le_mul_of_nonneg_right hn.2 hr.1
  have h2 : -1 * r ≤ n * r := Int.mul_le_mul_of_nonneg_right hn.1 hr.1
  omega
theorem tm_in {D : Dd} {l n : Int} (hn : -1 ≤ n ∧ n ≤ 1000000) (hr : D 289 l.toNat ≤ 2000000000) : -2000000000 ≤ tmF D l n ∧ tmF D l n ≤ 2000000000 := by
  unfold tmF
  split
  · omega
  · split
    · omega
    · have := mul2 hn (show 0 ≤ D 289 l.toNat ∧ D 289 l.toNat ≤ 2000000000 by omega)
      unfold cutF
      split <;> omega
/-- the ranges of ways, rounds, steps -/
def wyR (D : Dd) : Prop := (∀ j : Nat, j < 257 → -1 ≤ D 288 j ∧ D 288 j ≤ 2000000000) ∧ (∀ j : Nat, j < 256 → -1 ≤ D 289 j ∧ D 289 j ≤ 2000000000) ∧ ∀ j : Nat, j < 16 → -1 ≤ D 290 j ∧ D 290 j ≤ 2000000000

set_option maxRecDepth 100000 in
set_option maxHeartbeats 4000000 in
theorem r_cut (D : Dd) (v : Int) : MC 1 yX10_cut cX10_cut 2 (some .long) [vL v] D (Is (some (vL (cutF v))) D) := by
  refine MC.mk [vL v, vN] (by decide) (Nat.le_of_ble_eq_true rfl) rfl (fun X Q hX hF hok hol => ?_)
  refine w_lload_n (i := 0) hX dX10_cut_0 rfl rfl rfl ?_
  refine w_ldc2 (x := 2000000000) hX kl_RX10_169 dX10_cut_1 rfl (by decide) (by decide) ?_
  refine w_lcmp hX dX10_cut_4 rfl ?_
  refine w_if_le (tgt := 14) hX dX10_cut_5 rfl (by decide) (fun h5 => ?_) (fun h5 => ?_)
  · rw [lc_le] at h5
    refine w_lload_n (i := 0) hX dX10_cut_14 rfl rfl rfl ?_
    exact e_l hX hF dX10_cut_15 ⟨by simp only [cutF]; first | rw [if_pos (by omega)] | rw [if_neg (by omega)], rfl⟩
  · rw [lc_le] at h5
    refine w_ldc2 (x := 2000000000) hX kl_RX10_169 dX10_cut_8 rfl (by decide) (by decide) ?_
    refine w_goto (tgt := 15) hX dX10_cut_11 (by decide) ?_
    exact e_l hX hF dX10_cut_15 ⟨by simp only [cutF]; first | rw [if_pos (by omega)] | rw [if_neg (by omega)], rfl⟩

set_option maxRecDepth 100000 in
set_option maxHeartbeats 4000000 in
theorem r_greater (D : Dd) (a b : Int) : MC 1 yX10_greater cX10_greater 4 (some .long) [vL a, vL b] D (Is (some (vL (grF a b))) D) := by
  refine MC.mk [vL a, vN, vL b, vN] (by decide) (Nat.le_of_ble_eq_true rfl) rfl (fun X Q hX hF hok hol => ?_)
  refine w_lload_n (i := 0) hX dX10_greater_0 rfl rfl rfl ?_
  refine w_lload_n (i := 2) hX dX10_greater_1 rfl rfl rfl ?_
  refine w_lcmp hX dX10_greater_2 rfl ?_
  refine w_if_le (tgt := 10) hX dX10_greater_3 rfl (by decide) (fun h3 => ?_) (fun h3 => ?_)
  · rw [lc_le] at h3
    refine w_lload_n (i := 2) hX dX10_greater_10 rfl rfl rfl ?_
    exact e_l hX hF dX10_greater_11 ⟨by simp only [grF]; first | rw [if_pos (by omega)] | rw [if_neg (by omega)], rfl⟩
  · rw [lc_le] at h3
    refine w_lload_n (i := 0) hX dX10_greater_6 rfl rfl rfl ?_
    refine w_goto (tgt := 11) hX dX10_greater_7 (by decide) ?_
    exact e_l hX hF dX10_greater_11 ⟨by simp only [grF]; first | rw [if_pos (by omega)] | rw [if_neg (by omega)], rfl⟩

set_option maxRecDepth 100000 in
set_option maxHeartbeats 4000000 in
theorem r_behind (D : Dd) (o r : Int) (ho : o ≤ 4000000000) (hr : r ≤ 4000000000) : MC 2 yX10_behind cX10_behind 4 (some .long) [vL o, vL r] D (Is (some (vL (bhF o r))) D) := by
  refine MC.mk [vL o, vN, vL r, vN] (by decide) (Nat.le_of_ble_eq_true rfl) rfl (fun X Q hX hF hok hol => ?_)
  refine w_lload_n (i := 0) hX dX10_behind_0 rfl rfl rfl ?_
  refine w_lconst0 hX dX10_behind_1 rfl ?_
  refine w_lcmp hX dX10_behind_2 rfl ?_
  refine w_if_lt (tgt := 12) hX dX10_behind_3 rfl (by decide) (fun h3 => ?_) (fun h3 => ?_)
  · rw [lc_lt] at h3
    refine w_ldc2 (x := -1) hX kl_RX10_171 dX10_behind_12 rfl (by decide) (by decide) ?_
    refine w_goto (tgt := 24) hX dX10_behind_15 (by decide) ?_
    exact e_l hX hF dX10_behind_24 ⟨by simp only [bhF]; first | rw [if_pos (by omega)] | rw [if_neg (by omega)], rfl⟩
  · rw [lc_lt] at h3
    refine w_lload_n (i := 2) hX dX10_behind_6 rfl rfl rfl ?_
    refine w_lconst0 hX dX10_behind_7 rfl ?_
    refine w_lcmp hX dX10_behind_8 rfl ?_
    refine w_if_ge (tgt := 18) hX dX10_behind_9 rfl (by decide) (fun h9 => ?_) (fun h9 => ?_)
    · rw [lc_ge] at h9
      refine w_lload_n (i := 0) hX dX10_behind_18 rfl rfl rfl ?_
      refine w_lload_n (i := 2) hX dX10_behind_19 rfl rfl rfl ?_
      refine w_ladd hX dX10_behind_20 rfl (by omega) ?_
      refine c_S hX ml_RX10_173 dX10_behind_21 rfl (r_cut D _) rfl rfl (by decide) (Nat.le_of_ble_eq_true rfl) ?_
      rintro _ _ ⟨rfl, rfl⟩ -
      all_goals try dsimp only [Option.toList, List.cons_append, List.nil_append]
      exact e_l hX hF dX10_behind_24 ⟨by simp only [bhF]; first | rw [if_pos (by omega)] | rw [if_neg (by omega)], rfl⟩
    · rw [lc_ge] at h9
      refine w_ldc2 (x := -1) hX kl_RX10_171 dX10_behind_12 rfl (by decide) (by decide) ?_
      refine w_goto (tgt := 24) hX dX10_behind_15 (by decide) ?_
      exact e_l hX hF dX10_behind_24 ⟨by simp only [bhF]; first | rw [if_pos (by omega)] | rw [if_neg (by omega)], rfl⟩

set_option maxRecDepth 100000 in
set_option maxHeartbeats 4000000 in
theorem r_times (D : Dd) (l n : Int) (hl : 0 ≤ l ∧ l < 256) (hn : -1 ≤ n ∧ n ≤ 1000000) (hr : D 289 l.toNat ≤ 2000000000) : MC 2 yX10_times cX10_times 4 (some .long) [vR 279, vI l, vL n] D (Is (some (vL (tmF D l n))) D) := by
  refine MC.mk [vR 279, vI l, vL n, vN] (by decide) (Nat.le_of_ble_eq_true rfl) rfl (fun X Q hX hF hok hol => ?_)
  refine w_lload_n (i := 2) hX dX10_times_0 rfl rfl rfl ?_
  refine w_lconst0 hX dX10_times_1 rfl ?_
  refine w_lcmp hX dX10_times_2 rfl ?_
  refine w_if_ne (tgt := 10) hX dX10_times_3 rfl (by decide) (fun h3 => ?_) (fun h3 => ?_)
  · rw [lc_ne] at h3
    refine w_aload_n (i := 0) hX dX10_times_10 rfl rfl rfl ?_
    refine w_getR (j := 14) hX cl9 fl_RX10_38_9 rfl (by decide) rfl rfl dX10_times_11 rfl ?_
    refine w_iload_n (i := 1) hX dX10_times_14 rfl rfl rfl ?_
    refine w_lald hX rfl (by omega) (by omega) dX10_times_15 rfl ?_
    refine w_lconst0 hX dX10_times_16 rfl ?_
    refine w_lcmp hX dX10_times_17 rfl ?_
    refine w_if_ge (tgt := 27) hX dX10_times_18 rfl (by decide) (fun h18 => ?_) (fun h18 => ?_)
    · rw [lc_ge] at h18
      refine w_lload_n (i := 2) hX dX10_times_27 rfl rfl rfl ?_
      refine w_aload_n (i := 0) hX dX10_times_28 rfl rfl rfl ?_
      refine w_getR (j := 14) hX cl9 fl_RX10_38_9 rfl (by decide) rfl rfl dX10_times_29 rfl ?_
      refine w_iload_n (i := 1) hX dX10_times_32 rfl rfl rfl ?_
      refine w_lald hX rfl (by omega) (by omega) dX10_times_33 rfl ?_
      have zq_m := mul2 hn (show 0 ≤ D 289 l.toNat ∧ D 289 l.toNat ≤ 2000000000 by omega)
      refine w_lmul hX dX10_times_34 rfl (by omega) ?_
      refine c_S hX ml_RX10_173 dX10_times_35 rfl (r_cut D _) rfl rfl (by decide) (Nat.le_of_ble_eq_true rfl) ?_
      rintro _ _ ⟨rfl, rfl⟩ -
      all_goals try dsimp only [Option.toList, List.cons_append, List.nil_append]
      exact e_l hX hF dX10_times_38 ⟨by first | rw [tmF, if_pos (by omega)] | rw [tmF, if_neg (by omega), if_pos (by omega)] | rw [tmF, if_neg (by omega), if_neg (by omega)], rfl⟩
    · rw [lc_ge] at h18
      refine w_ldc2 (x := -1) hX kl_RX10_171 dX10_times_21 rfl (by decide) (by decide) ?_
      refine w_goto (tgt := 38) hX dX10_times_24 (by decide) ?_
      exact e_l hX hF dX10_times_38 ⟨by first | rw [tmF, if_pos (by omega)] | rw [tmF, if_neg (by omega), if_pos (by omega)] | rw [tmF, if_neg (by omega), if_neg (by omega)], rfl⟩
  · rw [lc_ne] at h3
    refine w_lconst0 hX dX10_times_6 rfl ?_
    refine w_goto (tgt := 38) hX dX10_times_7 (by decide) ?_
    exact e_l hX hF dX10_times_38 ⟨by first | rw [tmF, if_pos (by omega)] | rw [tmF, if_neg (by omega), if_pos (by omega)] | rw [tmF, if_neg (by omega), if_neg (by omega)], rfl⟩

def wtF (D : Dd) (k l : Int) : Int := if 0 ≤ l then (if l < k ∧ k ≤ (D 285 (D 279 10 + l).toNat) - 1 then D 288 k.toNat else -1) else (if k = D 279 11 then 0 else D 288 k.toNat)
theorem wt_in {D : Dd} (h : wyR D) {k l : Int} (hk : 0 ≤ k ∧ k ≤ 256) : -1 ≤ wtF D k l ∧ wtF D k l ≤ 2000000000 := by
  have := h.1 k.toNat (by omega)
  unfold wtF
  split
  · split <;> omega
  · split <;> omega
/-- a loop that is asked about is one, or none -/
def lpK (D : Dd) (l : Int) : Prop := 0 ≤ l → l < D 279 11 ∧ 0 ≤ (D 285 (D 279 10 + l).toNat)

set_option maxRecDepth 100000 in
set_option maxHeartbeats 4000000 in
theorem r_wayTo (D : Dd) (hF0 : FM D) (k l : Int) (hk : 0 ≤ k ∧ k ≤ D 279 11) (hl : lpK D l) : MC 3 yX10_wayTo cX10_wayTo 3 (some .long) [vR 279, vI k, vI l] D (Is (some (vL (wtF D k l))) D) := by
  refine MC.mk [vR 279, vI k, vI l] (by decide) (Nat.le_of_ble_eq_true rfl) rfl (fun X Q hX hF hok hol => ?_)
  have zq_F := hF0
  unfold FM at hF0
  refine w_iload_n (i := 2) hX dX10_wayTo_0 rfl rfl rfl ?_
  refine w_if_lt (tgt := 26) hX dX10_wayTo_1 rfl (by decide) (fun h1 => ?_) (fun h1 => ?_)
  · refine w_iload_n (i := 1) hX dX10_wayTo_26 rfl rfl rfl ?_
    refine w_aload_n (i := 0) hX dX10_wayTo_27 rfl rfl rfl ?_
    refine w_getI (j := 11) hX cl9 fl_RX10_131_9 rfl (by decide) rfl dX10_wayTo_28 rfl ?_
    refine w_icmp_ne (tgt := 38) hX dX10_wayTo_31 rfl (by decide) (fun h31 => ?_) (fun h31 => ?_)
    · refine w_aload_n (i := 0) hX dX10_wayTo_38 rfl rfl rfl ?_
      refine w_getR (j := 13) hX cl9 fl_RX10_34_9 rfl (by decide) rfl rfl dX10_wayTo_39 rfl ?_
      refine w_iload_n (i := 1) hX dX10_wayTo_42 rfl rfl rfl ?_
      refine w_lald hX rfl (by omega) (by omega) dX10_wayTo_43 rfl ?_
      exact e_l hX hF dX10_wayTo_44 ⟨by first | rw [wtF, if_neg (by omega), if_pos (by omega)] | rw [wtF, if_neg (by omega), if_neg (by omega)], rfl⟩
    · refine w_lconst0 hX dX10_wayTo_34 rfl ?_
      refine w_goto (tgt := 44) hX dX10_wayTo_35 (by decide) ?_
      exact e_l hX hF dX10_wayTo_44 ⟨by first | rw [wtF, if_neg (by omega), if_pos (by omega)] | rw [wtF, if_neg (by omega), if_neg (by omega)], rfl⟩
  · refine w_aload_n (i := 0) hX dX10_wayTo_4 rfl rfl rfl ?_
    refine w_iload_n (i := 1) hX dX10_wayTo_5 rfl rfl rfl ?_
    refine w_iload_n (i := 2) hX dX10_wayTo_6 rfl rfl rfl ?_
    refine c_V hX ml_RX10_157 cl9 dX10_wayTo_7 rfl (r_isInLoop D zq_F k l (by have zq_q := hl (by omega); omega) (hl (by omega)).2) rfl rfl rfl (by decide) (Nat.le_of_ble_eq_true rfl) ?_
    rintro _ _ ⟨rfl, rfl⟩ -
    all_goals try dsimp only [Option.toList, List.cons_append, List.nil_append]
    refine w_if_eq (tgt := 22) hX dX10_wayTo_10 rfl (by decide) (fun h10 => ?_) (fun h10 => ?_)
    · rw [b2_0] at h10
      refine w_ldc2 (x := -1) hX kl_RX10_171 dX10_wayTo_22 rfl (by decide) (by decide) ?_
      exact e_l hX hF dX10_wayTo_25 ⟨by first | rw [wtF, if_pos (by omega), if_pos (by omega)] | rw [wtF, if_pos (by omega), if_neg (by omega)], rfl⟩
    · rw [b2_n] at h10
      refine w_aload_n (i := 0) hX dX10_wayTo_13 rfl rfl rfl ?_
      refine w_getR (j := 13) hX cl9 fl_RX10_34_9 rfl (by decide) rfl rfl dX10_wayTo_14 rfl ?_
      refine w_iload_n (i := 1) hX dX10_wayTo_17 rfl rfl rfl ?_
      refine w_lald hX rfl (by omega) (by omega) dX10_wayTo_18 rfl ?_
      refine w_goto (tgt := 25) hX dX10_wayTo_19 (by decide) ?_
      exact e_l hX hF dX10_wayTo_25 ⟨by first | rw [wtF, if_pos (by omega), if_pos (by omega)] | rw [wtF, if_pos (by omega), if_neg (by omega)], rfl⟩

/-- way -/
def wyF (D : Dd) (k l : Int) : Int :=
  if (D 283 (D 279 10 + k).toNat) = 10 then bhF 1 (wtF D ((D 284 (D 279 10 + k).toNat)) l)
  else if (D 283 (D 279 10 + k).toNat) = 11 then grF (bhF 1 (wtF D (k + 1) l)) (bhF 1 (wtF D ((D 284 (D 279 10 + k).toNat)) l))
  else if (D 283 (D 279 10 + k).toNat) = 13 then grF (bhF (bhF (tmF D k ((D 285 (D 279 10 + (k - 1)).toNat))) 1) (wtF D ((D 285 (D 279 10 + k).toNat)) l)) (if (D 285 (D 279 10 + (k - 1)).toNat) = 0 then -1 else bhF (bhF (if D 289 k.toNat = -1 then 0 else tmF D k ((D 285 (D 279 10 + (k - 1)).toNat) - 1)) 1) (wtF D (k + 1) l))
  else if (D 283 (D 279 10 + k).toNat) = 14 then (if 0 ≤ l ∧ (D 285 (D 279 10 + l).toNat) - 1 = k then 1 else -1)
  else if (D 283 (D 279 10 + k).toNat) = 15 ∨ (D 283 (D 279 10 + k).toNat) = 16 then bhF (1 + D 290 ((D 284 (D 279 10 + k).toNat)).toNat) (wtF D (k + 1) l)
  else if (D 283 (D 279 10 + k).toNat) = 18 then (if l < 0 then 1 else -1)
  else bhF 1 (wtF D (k + 1) l)

set_option maxRecDepth 100000 in
set_option maxHeartbeats 4000000 in
theorem r_way (D : Dd) (hF0 : FM D) (hR : wyR D) (k l : Int) (hk : 0 ≤ k ∧ k < D 279 11) (hl : lpK D l) (ha : (D 283 (D 279 10 + k).toNat) = 10 ∨ (D 283 (D 279 10 + k).toNat) = 11 → 0 ≤ (D 284 (D 279 10 + k).toNat) ∧ (D 284 (D 279 10 + k).toNat) ≤ D 279 11) (hb : (D 283 (D 279 10 + k).toNat) = 13 → 1 ≤ k ∧ (0 ≤ (D 285 (D 279 10 + (k - 1)).toNat) ∧ (D 285 (D 279 10 + (k - 1)).toNat) ≤ 1000000) ∧ 0 ≤ (D 285 (D 279 10 + k).toNat) ∧ (D 285 (D 279 10 + k).toNat) ≤ D 279 11) (hu : (D 283 (D 279 10 + k).toNat) = 15 ∨ (D 283 (D 279 10 + k).toNat) = 16 → 0 ≤ (D 284 (D 279 10 + k).toNat) ∧ (D 284 (D 279 10 + k).toNat) < 16) : MC 4 yX10_way cX10_way 12 (some .long) [vR 279, vI k, vI l] D (Is (some (vL (wyF D k l))) D) := by
  refine MC.mk [vR 279, vI k, vI l, vN, vN, vN, vN, vN, vN, vN, vN, vN] (by decide) (Nat.le_of_ble_eq_true rfl) rfl (fun X Q hX hF hok hol => ?_)
  have zq_F := hF0
  unfold FM at hF0
  have zq_rk := hR.2.1 k.toNat (by omega)
  refine w_aload_n (i := 0) hX dX10_way_0 rfl rfl rfl ?_
  refine w_getI (j := 10) hX cl9 fl_RX10_125_9 rfl (by decide) rfl dX10_way_1 rfl ?_
  refine w_iload_n (i := 1) hX dX10_way_4 rfl rfl rfl ?_
  refine w_iadd hX dX10_way_5 rfl (by omega) ?_
  refine w_istore_n (i := 3) hX dX10_way_6 rfl rfl (by decide) ?_
  dsimp only [st1X, st2X, klX_I, klX_L, klX_R, klX_S, klX_N]
  refine w_aload_n (i := 0) hX dX10_way_7 rfl rfl rfl ?_
  refine w_getR (j := 6) hX cl9 fl_RX10_19_9 rfl (by decide) rfl rfl dX10_way_8 rfl ?_
  refine w_iload_n (i := 3) hX dX10_way_11 rfl rfl rfl ?_
  refine w_iald hX rfl (by omega) (by omega) dX10_way_12 rfl ?_
  refine w_nameI (fun sw13 hsw13 => ?_)
  by_cases g13_0 : sw13 = 10
  · refine w_tsw (tgt := 64) hX dX10_way_13 rfl (by rw [g13_0]; decide) ?_
    refine w_lconst1 hX dX10_way_64 rfl ?_
    refine w_aload_n (i := 0) hX dX10_way_65 rfl rfl rfl ?_
    refine w_aload_n (i := 0) hX dX10_way_66 rfl rfl rfl ?_
    refine w_getR (j := 7) hX cl9 fl_RX10_22_9 rfl (by decide) rfl rfl dX10_way_67 rfl ?_
    refine w_iload_n (i := 3) hX dX10_way_70 rfl rfl rfl ?_
    refine w_iald hX rfl (by omega) (by omega) dX10_way_71 rfl ?_
    refine w_iload_n (i := 2) hX dX10_way_72 rfl rfl rfl ?_
    refine c_V hX ml_RX10_177 cl9 dX10_way_73 rfl (r_wayTo D zq_F ((D 284 (D 279 10 + k).toNat)) l (by omega) hl) rfl rfl rfl (by decide) (Nat.le_of_ble_eq_true rfl) ?_
    rintro _ _ ⟨rfl, rfl⟩ -
    have zq_w := wt_in hR (k := (D 284 (D 279 10 + k).toNat)) (l := l) (by omega)
    all_goals try dsimp only [Option.toList, List.cons_append, List.nil_append]
    refine c_S hX ml_RX10_181 dX10_way_76 rfl (r_behind D _ _ (by omega) (by omega)) rfl rfl (by decide) (Nat.le_of_ble_eq_true rfl) ?_
    rintro _ _ ⟨rfl, rfl⟩ -
    all_goals try dsimp only [Option.toList, List.cons_append, List.nil_append]
    exact e_l hX hF dX10_way_79 ⟨by rw [wyF, if_pos (by omega)], rfl⟩
  by_cases g13_1 : sw13 = 11
  · refine w_tsw (tgt := 80) hX dX10_way_13 rfl (by rw [g13_1]; decide) ?_
    refine w_lconst1 hX dX10_way_80 rfl ?_
    refine w_aload_n (i := 0) hX dX10_way_81 rfl rfl rfl ?_
    refine w_iload_n (i := 1) hX dX10_way_82 rfl rfl rfl ?_
    refine w_iconst hX dX10_way_83 rfl (by decide) ?_
    refine w_iadd hX dX10_way_84 rfl (by omega) ?_
    refine w_iload_n (i := 2) hX dX10_way_85 rfl rfl rfl ?_
    refine c_V hX ml_RX10_177 cl9 dX10_way_86 rfl (r_wayTo D zq_F (k + 1) l (by omega) hl) rfl rfl rfl (by decide) (Nat.le_of_ble_eq_true rfl) ?_
    rintro _ _ ⟨rfl, rfl⟩ -
    have zq_w := wt_in hR (k := k + 1) (l := l) (by omega)
    all_goals try dsimp only [Option.toList, List.cons_append, List.nil_append]
    refine c_S hX ml_RX10_181 dX10_way_89 rfl (r_behind D _ _ (by omega) (by omega)) rfl rfl (by decide) (Nat.le_of_ble_eq_true rfl) ?_
    rintro _ _ ⟨rfl, rfl⟩ -
    all_goals try dsimp only [Option.toList, List.cons_append, List.nil_append]
    refine w_lconst1 hX dX10_way_92 rfl ?_
    refine w_aload_n (i := 0) hX dX10_way_93 rfl rfl rfl ?_
    refine w_aload_n (i := 0) hX dX10_way_94 rfl rfl rfl ?_
    refine w_getR (j := 7) hX cl9 fl_RX10_22_9 rfl (by decide) rfl rfl dX10_way_95 rfl ?_
    refine w_iload_n (i := 3) hX dX10_way_98 rfl rfl rfl ?_
    refine w_iald hX rfl (by omega) (by omega) dX10_way_99 rfl ?_
    refine w_iload_n (i := 2) hX dX10_way_100 rfl rfl rfl ?_
    refine c_V hX ml_RX10_177 cl9 dX10_way_101 rfl (r_wayTo D zq_F ((D 284 (D 279 10 + k).toNat)) l (by omega) hl) rfl rfl rfl (by decide) (Nat.le_of_ble_eq_true rfl) ?_
    rintro _ _ ⟨rfl, rfl⟩ -
    have zq_w2 := wt_in hR (k := (D 284 (D 279 10 + k).toNat)) (l := l) (by omega)
    all_goals try dsimp only [Option.toList, List.cons_append, List.nil_append]
    refine c_S hX ml_RX10_181 dX10_way_104 rfl (r_behind D _ _ (by omega) (by omega)) rfl rfl (by decide) (Nat.le_of_ble_eq_true rfl) ?_
    rintro _ _ ⟨rfl, rfl⟩ -
    all_goals try dsimp only [Option.toList, List.cons_append, List.nil_append]
    refine c_S hX ml_RX10_185 dX10_way_107 rfl (r_greater D _ _) rfl rfl (by decide) (Nat.le_of_ble_eq_true rfl) ?_
    rintro _ _ ⟨rfl, rfl⟩ -
    all_goals try dsimp only [Option.toList, List.cons_append, List.nil_append]
    exact e_l hX hF dX10_way_110 ⟨by rw [wyF, if_neg (by omega), if_pos (by omega)], rfl⟩
  by_cases g13_2 : sw13 = 13
  · refine w_tsw (tgt := 111) hX dX10_way_13 rfl (by rw [g13_2]; decide) ?_
    have zq_hb := hb (by omega)
    have zq_ix : (D 279 10 + k - 1).toNat = (D 279 10 + (k - 1)).toNat := by omega
    refine w_aload_n (i := 0) hX dX10_way_111 rfl rfl rfl ?_
    refine w_getR (j := 8) hX cl9 fl_RX10_25_9 rfl (by decide) rfl rfl dX10_way_112 rfl ?_
    refine w_iload_n (i := 3) hX dX10_way_115 rfl rfl rfl ?_
    refine w_iconst hX dX10_way_116 rfl (by decide) ?_
    refine w_isub hX dX10_way_117 rfl (by omega) ?_
    refine w_iald hX rfl (by omega) (by omega) dX10_way_118 rfl ?_
    rw [zq_ix]
    refine w_i2l hX dX10_way_119 rfl ?_
    refine w_lstore hX dX10_way_120 rfl (by decide) ?_
    dsimp only [st1X, st2X, klX_I, klX_L, klX_R, klX_S, klX_N]
    refine w_aload_n (i := 0) hX dX10_way_122 rfl rfl rfl ?_
    refine w_iload_n (i := 1) hX dX10_way_123 rfl rfl rfl ?_
    refine w_lload hX dX10_way_124 rfl rfl ?_
    refine c_V hX ml_RX10_188 cl9 dX10_way_126 rfl (r_times D k _ (by omega) (by omega) (by omega)) rfl rfl rfl (by decide) (Nat.le_of_ble_eq_true rfl) ?_
    rintro _ _ ⟨rfl, rfl⟩ -
    have zq_tm := tm_in (D := D) (l := k) (n := (D 285 (D 279 10 + (k - 1)).toNat)) (by omega) (by omega)
    all_goals try dsimp only [Option.toList, List.cons_append, List.nil_append]
    refine w_lconst1 hX dX10_way_129 rfl ?_
    refine c_S hX ml_RX10_181 dX10_way_130 rfl (r_behind D _ _ (by omega) (by omega)) rfl rfl (by decide) (Nat.le_of_ble_eq_true rfl) ?_
    rintro _ _ ⟨rfl, rfl⟩ -
    have zq_b1 := bh_in (tmF D k ((D 285 (D 279 10 + (k - 1)).toNat))) 1
    all_goals try dsimp only [Option.toList, List.cons_append, List.nil_append]
    refine w_aload_n (i := 0) hX dX10_way_133 rfl rfl rfl ?_
    refine w_aload_n (i := 0) hX dX10_way_134 rfl rfl rfl ?_
    refine w_getR (j := 8) hX cl9 fl_RX10_25_9 rfl (by decide) rfl rfl dX10_way_135 rfl ?_
    refine w_iload_n (i := 3) hX dX10_way_138 rfl rfl rfl ?_
    refine w_iald hX rfl (by omega) (by omega) dX10_way_139 rfl ?_
    refine w_iload_n (i := 2) hX dX10_way_140 rfl rfl rfl ?_
    refine c_V hX ml_RX10_177 cl9 dX10_way_141 rfl (r_wayTo D zq_F ((D 285 (D 279 10 + k).toNat)) l (by omega) hl) rfl rfl rfl (by decide) (Nat.le_of_ble_eq_true rfl) ?_
    rintro _ _ ⟨rfl, rfl⟩ -
    have zq_w := wt_in hR (k := (D 285 (D 279 10 + k).toNat)) (l := l) (by omega)
    all_goals try dsimp only [Option.toList, List.cons_append, List.nil_append]
    refine c_S hX ml_RX10_181 dX10_way_144 rfl (r_behind D _ _ (by omega) (by omega)) rfl rfl (by decide) (Nat.le_of_ble_eq_true rfl) ?_
    rintro _ _ ⟨rfl, rfl⟩ -
    have zq_b2 := bh_in (bhF (tmF D k ((D 285 (D 279 10 + (k - 1)).toNat))) 1) (wtF D ((D 285 (D 279 10 + k).toNat)) l)
    all_goals try dsimp only [Option.toList, List.cons_append, List.nil_append]
    refine w_lstore hX dX10_way_147 rfl (by decide) ?_
    dsimp only [st1X, st2X, klX_I, klX_L, klX_R, klX_S, klX_N]
    refine w_aload_n (i := 0) hX dX10_way_149 rfl rfl rfl ?_
    refine w_getR (j := 14) hX cl9 fl_RX10_38_9 rfl (by decide) rfl rfl dX10_way_150 rfl ?_
    refine w_iload_n (i := 1) hX dX10_way_153 rfl rfl rfl ?_
    refine w_lald hX rfl (by omega) (by omega) dX10_way_154 rfl ?_
    refine w_ldc2 (x := -1) hX kl_RX10_171 dX10_way_155 rfl (by decide) (by decide) ?_
    refine w_lcmp hX dX10_way_158 rfl ?_
    refine w_if_ne (tgt := 166) hX dX10_way_159 rfl (by decide) (fun h159 => ?_) (fun h159 => ?_)
    · rw [lc_ne] at h159
      refine w_aload_n (i := 0) hX dX10_way_166 rfl rfl rfl ?_
      refine w_iload_n (i := 1) hX dX10_way_167 rfl rfl rfl ?_
      refine w_lload hX dX10_way_168 rfl rfl ?_
      refine w_lconst1 hX dX10_way_170 rfl ?_
      refine w_lsub hX dX10_way_171 rfl (by omega) ?_
      refine c_V hX ml_RX10_188 cl9 dX10_way_172 rfl (r_times D k _ (by omega) (by omega) (by omega)) rfl rfl rfl (by decide) (Nat.le_of_ble_eq_true rfl) ?_
      rintro _ _ ⟨rfl, rfl⟩ -
      have zq_tm2 := tm_in (D := D) (l := k) (n := (D 285 (D 279 10 + (k - 1)).toNat) - 1) (by omega) (by omega)
      all_goals try dsimp only [Option.toList, List.cons_append, List.nil_append]
      refine w_lstore hX dX10_way_175 rfl (by decide) ?_
      dsimp only [st1X, st2X, klX_I, klX_L, klX_R, klX_S, klX_N]
      refine w_lload hX dX10_way_177 rfl rfl ?_
      refine w_lconst0 hX dX10_way_179 rfl ?_
      refine w_lcmp hX dX10_way_180 rfl ?_
      refine w_if_ne (tgt := 190) hX dX10_way_181 rfl (by decide) (fun h181 => ?_) (fun h181 => ?_)
      · rw [lc_ne] at h181
        refine w_lload hX dX10_way_190 rfl rfl ?_
        refine w_lconst1 hX dX10_way_192 rfl ?_
        refine c_S hX ml_RX10_181 dX10_way_193 rfl (r_behind D _ _ (by omega) (by omega)) rfl rfl (by decide) (Nat.le_of_ble_eq_true rfl) ?_
        rintro _ _ ⟨rfl, rfl⟩ -
        have zq_b3 := bh_in 0 1
        have zq_b4 := bh_in (tmF D k ((D 285 (D 279 10 + (k - 1)).toNat) - 1)) 1
        all_goals try dsimp only [Option.toList, List.cons_append, List.nil_append]
        refine w_aload_n (i := 0) hX dX10_way_196 rfl rfl rfl ?_
        refine w_iload_n (i := 1) hX dX10_way_197 rfl rfl rfl ?_
        refine w_iconst hX dX10_way_198 rfl (by decide) ?_
        refine w_iadd hX dX10_way_199 rfl (by omega) ?_
        refine w_iload_n (i := 2) hX dX10_way_200 rfl rfl rfl ?_
        refine c_V hX ml_RX10_177 cl9 dX10_way_201 rfl (r_wayTo D zq_F (k + 1) l (by omega) hl) rfl rfl rfl (by decide) (Nat.le_of_ble_eq_true rfl) ?_
        rintro _ _ ⟨rfl, rfl⟩ -
        have zq_w3 := wt_in hR (k := k + 1) (l := l) (by omega)
        all_goals try dsimp only [Option.toList, List.cons_append, List.nil_append]
        refine c_S hX ml_RX10_181 dX10_way_204 rfl (r_behind D _ _ (by omega) (by omega)) rfl rfl (by decide) (Nat.le_of_ble_eq_true rfl) ?_
        rintro _ _ ⟨rfl, rfl⟩ -
        all_goals try dsimp only [Option.toList, List.cons_append, List.nil_append]
        refine w_lstore hX dX10_way_207 rfl (by decide) ?_
        dsimp only [st1X, st2X, klX_I, klX_L, klX_R, klX_S, klX_N]
        refine w_lload hX dX10_way_209 rfl rfl ?_
        refine w_lload hX dX10_way_211 rfl rfl ?_
        refine c_S hX ml_RX10_185 dX10_way_213 rfl (r_greater D _ _) rfl rfl (by decide) (Nat.le_of_ble_eq_true rfl) ?_
        rintro _ _ ⟨rfl, rfl⟩ -
        all_goals try dsimp only [Option.toList, List.cons_append, List.nil_append]
        exact e_l hX hF dX10_way_216 ⟨by first | rw [wyF, if_neg (by omega), if_neg (by omega), if_pos (by omega), if_pos (by omega)] | rw [wyF, if_neg (by omega), if_neg (by omega), if_pos (by omega), if_neg (by omega), if_pos (by omega)] | rw [wyF, if_neg (by omega), if_neg (by omega), if_pos (by omega), if_neg (by omega), if_neg (by omega)], rfl⟩
      · rw [lc_ne] at h181
        refine w_ldc2 (x := -1) hX kl_RX10_171 dX10_way_184 rfl (by decide) (by decide) ?_
        refine w_goto (tgt := 207) hX dX10_way_187 (by decide) ?_
        refine w_lstore hX dX10_way_207 rfl (by decide) ?_
        dsimp only [st1X, st2X, klX_I, klX_L, klX_R, klX_S, klX_N]
        refine w_lload hX dX10_way_209 rfl rfl ?_
        refine w_lload hX dX10_way_211 rfl rfl ?_
        refine c_S hX ml_RX10_185 dX10_way_213 rfl (r_greater D _ _) rfl rfl (by decide) (Nat.le_of_ble_eq_true rfl) ?_
        rintro _ _ ⟨rfl, rfl⟩ -
        all_goals try dsimp only [Option.toList, List.cons_append, List.nil_append]
        exact e_l hX hF dX10_way_216 ⟨by first | rw [wyF, if_neg (by omega), if_neg (by omega), if_pos (by omega), if_pos (by omega)] | rw [wyF, if_neg (by omega), if_neg (by omega), if_pos (by omega), if_neg (by omega), if_pos (by omega)] | rw [wyF, if_neg (by omega), if_neg (by omega), if_pos (by omega), if_neg (by omega), if_neg (by omega)], rfl⟩
    · rw [lc_ne] at h159
      refine w_lconst0 hX dX10_way_162 rfl ?_
      refine w_goto (tgt := 175) hX dX10_way_163 (by decide) ?_
      refine w_lstore hX dX10_way_175 rfl (by decide) ?_
      dsimp only [st1X, st2X, klX_I, klX_L, klX_R, klX_S, klX_N]
      refine w_lload hX dX10_way_177 rfl rfl ?_
      refine w_lconst0 hX dX10_way_179 rfl ?_
      refine w_lcmp hX dX10_way_180 rfl ?_
      refine w_if_ne (tgt := 190) hX dX10_way_181 rfl (by decide) (fun h181 => ?_) (fun h181 => ?_)
      · rw [lc_ne] at h181
        refine w_lload hX dX10_way_190 rfl rfl ?_
        refine w_lconst1 hX dX10_way_192 rfl ?_
        refine c_S hX ml_RX10_181 dX10_way_193 rfl (r_behind D _ _ (by omega) (by omega)) rfl rfl (by decide) (Nat.le_of_ble_eq_true rfl) ?_
        rintro _ _ ⟨rfl, rfl⟩ -
        have zq_b3 := bh_in 0 1
        have zq_b4 := bh_in (tmF D k ((D 285 (D 279 10 + (k - 1)).toNat) - 1)) 1
        all_goals try dsimp only [Option.toList, List.cons_append, List.nil_append]
        refine w_aload_n (i := 0) hX dX10_way_196 rfl rfl rfl ?_
        refine w_iload_n (i := 1) hX dX10_way_197 rfl rfl rfl ?_
        refine w_iconst hX dX10_way_198 rfl (by decide) ?_
        refine w_iadd hX dX10_way_199 rfl (by omega) ?_
        refine w_iload_n (i := 2) hX dX10_way_200 rfl rfl rfl ?_
        refine c_V hX ml_RX10_177 cl9 dX10_way_201 rfl (r_wayTo D zq_F (k + 1) l (by omega) hl) rfl rfl rfl (by decide) (Nat.le_of_ble_eq_true rfl) ?_
        rintro _ _ ⟨rfl, rfl⟩ -
        have zq_w3 := wt_in hR (k := k + 1) (l := l) (by omega)
        all_goals try dsimp only [Option.toList, List.cons_append, List.nil_append]
        refine c_S hX ml_RX10_181 dX10_way_204 rfl (r_behind D _ _ (by omega) (by omega)) rfl rfl (by decide) (Nat.le_of_ble_eq_true rfl) ?_
        rintro _ _ ⟨rfl, rfl⟩ -
        all_goals try dsimp only [Option.toList, List.cons_append, List.nil_append]
        refine w_lstore hX dX10_way_207 rfl (by decide) ?_
        dsimp only [st1X, st2X, klX_I, klX_L, klX_R, klX_S, klX_N]
        refine w_lload hX dX10_way_209 rfl rfl ?_
        refine w_lload hX dX10_way_211 rfl rfl ?_
        refine c_S hX ml_RX10_185 dX10_way_213 rfl (r_greater D _ _) rfl rfl (by decide) (Nat.le_of_ble_eq_true rfl) ?_
        rintro _ _ ⟨rfl, rfl⟩ -
        all_goals try dsimp only [Option.toList, List.cons_append, List.nil_append]
        exact e_l hX hF dX10_way_216 ⟨by first | rw [wyF, if_neg (by omega), if_neg (by omega), if_pos (by omega), if_pos (by omega)] | rw [wyF, if_neg (by omega), if_neg (by omega), if_pos (by omega), if_neg (by omega), if_pos (by omega)] | rw [wyF, if_neg (by omega), if_neg (by omega), if_pos (by omega), if_neg (by omega), if_neg (by omega)], rfl⟩
      · rw [lc_ne] at h181
        refine w_ldc2 (x := -1) hX kl_RX10_171 dX10_way_184 rfl (by decide) (by decide) ?_
        refine w_goto (tgt := 207) hX dX10_way_187 (by decide) ?_
        refine w_lstore hX dX10_way_207 rfl (by decide) ?_
        dsimp only [st1X, st2X, klX_I, klX_L, klX_R, klX_S, klX_N]
        refine w_lload hX dX10_way_209 rfl rfl ?_
        refine w_lload hX dX10_way_211 rfl rfl ?_
        refine c_S hX ml_RX10_185 dX10_way_213 rfl (r_greater D _ _) rfl rfl (by decide) (Nat.le_of_ble_eq_true rfl) ?_
        rintro _ _ ⟨rfl, rfl⟩ -
        all_goals try dsimp only [Option.toList, List.cons_append, List.nil_append]
        exact e_l hX hF dX10_way_216 ⟨by first | rw [wyF, if_neg (by omega), if_neg (by omega), if_pos (by omega), if_pos (by omega)] | rw [wyF, if_neg (by omega), if_neg (by omega), if_pos (by omega), if_neg (by omega), if_pos (by omega)] | rw [wyF, if_neg (by omega), if_neg (by omega), if_pos (by omega), if_neg (by omega), if_neg (by omega)], rfl⟩
  by_cases g13_3 : sw13 = 14
  · refine w_tsw (tgt := 217) hX dX10_way_13 rfl (by rw [g13_3]; decide) ?_
    refine w_iload_n (i := 2) hX dX10_way_217 rfl rfl rfl ?_
    refine w_if_lt (tgt := 234) hX dX10_way_218 rfl (by decide) (fun h218 => ?_) (fun h218 => ?_)
    · refine w_ldc2 (x := -1) hX kl_RX10_171 dX10_way_234 rfl (by decide) (by decide) ?_
      exact e_l hX hF dX10_way_237 ⟨by first | rw [wyF, if_neg (by omega), if_neg (by omega), if_neg (by omega), if_pos (by omega), if_pos (by omega)] | rw [wyF, if_neg (by omega), if_neg (by omega), if_neg (by omega), if_pos (by omega), if_neg (by omega)], rfl⟩
    · refine w_aload_n (i := 0) hX dX10_way_221 rfl rfl rfl ?_
      refine w_iload_n (i := 2) hX dX10_way_222 rfl rfl rfl ?_
      refine c_V hX ml_RX10_150 cl9 dX10_way_223 rfl (r_lastOf D zq_F l (by have zq_q := hl (by omega); omega) (hl (by omega)).2) rfl rfl rfl (by decide) (Nat.le_of_ble_eq_true rfl) ?_
      rintro _ _ ⟨rfl, rfl⟩ -
      all_goals try dsimp only [Option.toList, List.cons_append, List.nil_append]
      refine w_iload_n (i := 1) hX dX10_way_226 rfl rfl rfl ?_
      refine w_icmp_ne (tgt := 234) hX dX10_way_227 rfl (by decide) (fun h227 => ?_) (fun h227 => ?_)
      · refine w_ldc2 (x := -1) hX kl_RX10_171 dX10_way_234 rfl (by decide) (by decide) ?_
        exact e_l hX hF dX10_way_237 ⟨by first | rw [wyF, if_neg (by omega), if_neg (by omega), if_neg (by omega), if_pos (by omega), if_pos (by omega)] | rw [wyF, if_neg (by omega), if_neg (by omega), if_neg (by omega), if_pos (by omega), if_neg (by omega)], rfl⟩
      · refine w_lconst1 hX dX10_way_230 rfl ?_
        refine w_goto (tgt := 237) hX dX10_way_231 (by decide) ?_
        exact e_l hX hF dX10_way_237 ⟨by first | rw [wyF, if_neg (by omega), if_neg (by omega), if_neg (by omega), if_pos (by omega), if_pos (by omega)] | rw [wyF, if_neg (by omega), if_neg (by omega), if_neg (by omega), if_pos (by omega), if_neg (by omega)], rfl⟩
  by_cases g13_4 : sw13 = 15 ∨ sw13 = 16
  · refine w_tsw (tgt := 238) hX dX10_way_13 rfl (by rcases g13_4 with w | w <;> rw [w] <;> decide) ?_
    have zq_hu := hu (by omega)
    have zq_st := hR.2.2 ((D 284 (D 279 10 + k).toNat)).toNat (by omega)
    refine w_lconst1 hX dX10_way_238 rfl ?_
    refine w_aload_n (i := 0) hX dX10_way_239 rfl rfl rfl ?_
    refine w_getR (j := 15) hX cl9 fl_RX10_41_9 rfl (by decide) rfl rfl dX10_way_240 rfl ?_
    refine w_aload_n (i := 0) hX dX10_way_243 rfl rfl rfl ?_
    refine w_getR (j := 7) hX cl9 fl_RX10_22_9 rfl (by decide) rfl rfl dX10_way_244 rfl ?_
    refine w_iload_n (i := 3) hX dX10_way_247 rfl rfl rfl ?_
    refine w_iald hX rfl (by omega) (by omega) dX10_way_248 rfl ?_
    refine w_lald hX rfl (by omega) (by omega) dX10_way_249 rfl ?_
    refine w_ladd hX dX10_way_250 rfl (by omega) ?_
    refine w_aload_n (i := 0) hX dX10_way_251 rfl rfl rfl ?_
    refine w_iload_n (i := 1) hX dX10_way_252 rfl rfl rfl ?_
    refine w_iconst hX dX10_way_253 rfl (by decide) ?_
    refine w_iadd hX dX10_way_254 rfl (by omega) ?_
    refine w_iload_n (i := 2) hX dX10_way_255 rfl rfl rfl ?_
    refine c_V hX ml_RX10_177 cl9 dX10_way_256 rfl (r_wayTo D zq_F (k + 1) l (by omega) hl) rfl rfl rfl (by decide) (Nat.le_of_ble_eq_true rfl) ?_
    rintro _ _ ⟨rfl, rfl⟩ -
    have zq_w := wt_in hR (k := k + 1) (l := l) (by omega)
    all_goals try dsimp only [Option.toList, List.cons_append, List.nil_append]
    refine c_S hX ml_RX10_181 dX10_way_259 rfl (r_behind D _ _ (by omega) (by omega)) rfl rfl (by decide) (Nat.le_of_ble_eq_true rfl) ?_
    rintro _ _ ⟨rfl, rfl⟩ -
    all_goals try dsimp only [Option.toList, List.cons_append, List.nil_append]
    exact e_l hX hF dX10_way_262 ⟨by rw [wyF, if_neg (by omega), if_neg (by omega), if_neg (by omega), if_neg (by omega), if_pos (by omega)], rfl⟩
  by_cases g13_5 : sw13 = 18
  · refine w_tsw (tgt := 263) hX dX10_way_13 rfl (by rw [g13_5]; decide) ?_
    refine w_iload_n (i := 2) hX dX10_way_263 rfl rfl rfl ?_
    refine w_if_ge (tgt := 271) hX dX10_way_264 rfl (by decide) (fun h264 => ?_) (fun h264 => ?_)
    · refine w_ldc2 (x := -1) hX kl_RX10_171 dX10_way_271 rfl (by decide) (by decide) ?_
      exact e_l hX hF dX10_way_274 ⟨by first | rw [wyF, if_neg (by omega), if_neg (by omega), if_neg (by omega), if_neg (by omega), if_neg (by omega), if_pos (by omega), if_pos (by omega)] | rw [wyF, if_neg (by omega), if_neg (by omega), if_neg (by omega), if_neg (by omega), if_neg (by omega), if_pos (by omega), if_neg (by omega)], rfl⟩
    · refine w_lconst1 hX dX10_way_267 rfl ?_
      refine w_goto (tgt := 274) hX dX10_way_268 (by decide) ?_
      exact e_l hX hF dX10_way_274 ⟨by first | rw [wyF, if_neg (by omega), if_neg (by omega), if_neg (by omega), if_neg (by omega), if_neg (by omega), if_pos (by omega), if_pos (by omega)] | rw [wyF, if_neg (by omega), if_neg (by omega), if_neg (by omega), if_neg (by omega), if_neg (by omega), if_pos (by omega), if_neg (by omega)], rfl⟩
  refine w_tsw (tgt := 275) hX dX10_way_13 rfl (by rw [sw_dflt [10, 11, 13, 14, 15, 16, 18] (by decide) (by simp only [List.mem_cons, List.not_mem_nil, or_false]; omega)]; decide) ?_
  refine w_lconst1 hX dX10_way_275 rfl ?_
  refine w_aload_n (i := 0) hX dX10_way_276 rfl rfl rfl ?_
  refine w_iload_n (i := 1) hX dX10_way_277 rfl rfl rfl ?_
  refine w_iconst hX dX10_way_278 rfl (by decide) ?_
  refine w_iadd hX dX10_way_279 rfl (by omega) ?_
  refine w_iload_n (i := 2) hX dX10_way_280 rfl rfl rfl ?_
  refine c_V hX ml_RX10_177 cl9 dX10_way_281 rfl (r_wayTo D zq_F (k + 1) l (by omega) hl) rfl rfl rfl (by decide) (Nat.le_of_ble_eq_true rfl) ?_
  rintro _ _ ⟨rfl, rfl⟩ -
  have zq_w := wt_in hR (k := k + 1) (l := l) (by omega)
  all_goals try dsimp only [Option.toList, List.cons_append, List.nil_append]
  refine c_S hX ml_RX10_181 dX10_way_284 rfl (r_behind D _ _ (by omega) (by omega)) rfl rfl (by decide) (Nat.le_of_ble_eq_true rfl) ?_
  rintro _ _ ⟨rfl, rfl⟩ -
  all_goals try dsimp only [Option.toList, List.cons_append, List.nil_append]
  exact e_l hX hF dX10_way_287 ⟨by rw [wyF, if_neg (by omega), if_neg (by omega), if_neg (by omega), if_neg (by omega), if_neg (by omega), if_neg (by omega)], rfl⟩
