/-! The reference: the stack -/
theorem tk_1 {n : Int} (h : n = 2 ∨ n = 3 ∨ n = 6 ∨ n = 8 ∨ n = 11) : tk n = 1 := by rcases h with rfl | rfl | rfl | rfl | rfl <;> rfl
theorem tk_2 {n : Int} (h : n = 4 ∨ n = 7) : tk n = 2 := by rcases h with rfl | rfl <;> rfl
theorem tk_3 {n : Int} (h : n = 9) : tk n = 3 := by subst h; rfl
theorem tk_0 {n : Int} (h : ¬ (n = 2 ∨ n = 3 ∨ n = 6 ∨ n = 8 ∨ n = 11) ∧ ¬ (n = 4 ∨ n = 7) ∧ ¬ n = 9) : tk n = 0 := by
  unfold tk tkX
  split <;> first | rfl | (exfalso; omega)
theorem lf_1 {n : Int} (h : n = 0 ∨ n = 1 ∨ n = 3 ∨ n = 5 ∨ n = 7 ∨ n = 8 ∨ n = 9) : lf n = 1 := by rcases h with rfl | rfl | rfl | rfl | rfl | rfl | rfl <;> rfl
theorem lf_0 {n : Int} (h0 : 0 ≤ n) (h : ¬ (n = 0 ∨ n = 1 ∨ n = 3 ∨ n = 5 ∨ n = 7 ∨ n = 8 ∨ n = 9)) : lf n = 0 := by
  unfold lf lfX
  split <;> first | rfl | (exfalso; omega)

set_option maxRecDepth 100000 in
set_option maxHeartbeats 4000000 in
theorem r_taken (D : Dd) (n : Int) : MC 1 yX10_taken cX10_taken 1 (some .int) [vI n] D (Is (some (vI (tk n))) D) := by
  refine MC.mk [vI n] (by decide) (Nat.le_of_ble_eq_true rfl) rfl (fun X Q hX hF hok hol => ?_)
  refine w_iload_n (i := 0) hX dX10_taken_0 rfl rfl rfl ?_
  refine w_nameI (fun sw1 hsw1 => ?_)
  by_cases g1_0 : sw1 = 2 ∨ sw1 = 3 ∨ sw1 = 6 ∨ sw1 = 8 ∨ sw1 = 11
  · refine w_tsw (tgt := 56) hX dX10_taken_1 rfl (by rcases g1_0 with w | w | w | w | w <;> rw [w] <;> decide) ?_
    refine w_iconst hX dX10_taken_56 rfl (by decide) ?_
    exact e_i hX hF dX10_taken_57 ⟨by first | rw [tk_1 (by omega)] | rw [tk_2 (by omega)] | rw [tk_3 (by omega)] | rw [tk_0 (by omega)], rfl⟩
  by_cases g1_1 : sw1 = 4 ∨ sw1 = 7
  · refine w_tsw (tgt := 58) hX dX10_taken_1 rfl (by rcases g1_1 with w | w <;> rw [w] <;> decide) ?_
    refine w_iconst hX dX10_taken_58 rfl (by decide) ?_
    exact e_i hX hF dX10_taken_59 ⟨by first | rw [tk_1 (by omega)] | rw [tk_2 (by omega)] | rw [tk_3 (by omega)] | rw [tk_0 (by omega)], rfl⟩
  by_cases g1_2 : sw1 = 9
  · refine w_tsw (tgt := 60) hX dX10_taken_1 rfl (by rw [g1_2]; decide) ?_
    refine w_iconst hX dX10_taken_60 rfl (by decide) ?_
    exact e_i hX hF dX10_taken_61 ⟨by first | rw [tk_1 (by omega)] | rw [tk_2 (by omega)] | rw [tk_3 (by omega)] | rw [tk_0 (by omega)], rfl⟩
  refine w_tsw (tgt := 62) hX dX10_taken_1 rfl (by rw [sw_dflt [2, 3, 6, 8, 11, 4, 7, 9] (by decide) (by simp only [List.mem_cons, List.not_mem_nil, or_false]; omega)]; decide) ?_
  refine w_iconst hX dX10_taken_62 rfl (by decide) ?_
  exact e_i hX hF dX10_taken_63 ⟨by first | rw [tk_1 (by omega)] | rw [tk_2 (by omega)] | rw [tk_3 (by omega)] | rw [tk_0 (by omega)], rfl⟩

set_option maxRecDepth 100000 in
set_option maxHeartbeats 4000000 in
theorem r_left (D : Dd) (n : Int) (h0 : 0 ≤ n) : MC 1 yX10_left cX10_left 2 (some .int) [vI n] D (Is (some (vI (lf n))) D) := by
  refine MC.mk [vI n, vN] (by decide) (Nat.le_of_ble_eq_true rfl) rfl (fun X Q hX hF hok hol => ?_)
  refine w_iload_n (i := 0) hX dX10_left_0 rfl rfl rfl ?_
  refine w_if_eq (tgt := 31) hX dX10_left_1 rfl (by decide) (fun h1 => ?_) (fun h1 => ?_)
  · refine w_iconst hX dX10_left_31 rfl (by decide) ?_
    refine w_goto (tgt := 36) hX dX10_left_32 (by decide) ?_
    refine w_istore_n (i := 1) hX dX10_left_36 rfl rfl (by decide) ?_
    dsimp only [st1X, st2X, klX_I, klX_L, klX_R, klX_S, klX_N]
    refine w_iload_n (i := 1) hX dX10_left_37 rfl rfl rfl ?_
    refine w_if_eq (tgt := 45) hX dX10_left_38 rfl (by decide) (fun h38 => absurd h38 (by decide)) (fun _ => ?_)
    refine w_iconst hX dX10_left_41 rfl (by decide) ?_
    refine w_goto (tgt := 46) hX dX10_left_42 (by decide) ?_
    exact e_i hX hF dX10_left_46 ⟨by first | rw [lf_1 (by omega)] | rw [lf_0 h0 (by omega)], rfl⟩
  · refine w_iload_n (i := 0) hX dX10_left_4 rfl rfl rfl ?_
    refine w_iconst hX dX10_left_5 rfl (by decide) ?_
    refine w_icmp_eq (tgt := 31) hX dX10_left_6 rfl (by decide) (fun h6 => ?_) (fun h6 => ?_)
    · refine w_iconst hX dX10_left_31 rfl (by decide) ?_
      refine w_goto (tgt := 36) hX dX10_left_32 (by decide) ?_
      refine w_istore_n (i := 1) hX dX10_left_36 rfl rfl (by decide) ?_
      dsimp only [st1X, st2X, klX_I, klX_L, klX_R, klX_S, klX_N]
      refine w_iload_n (i := 1) hX dX10_left_37 rfl rfl rfl ?_
      refine w_if_eq (tgt := 45) hX dX10_left_38 rfl (by decide) (fun h38 => absurd h38 (by decide)) (fun _ => ?_)
      refine w_iconst hX dX10_left_41 rfl (by decide) ?_
      refine w_goto (tgt := 46) hX dX10_left_42 (by decide) ?_
      exact e_i hX hF dX10_left_46 ⟨by first | rw [lf_1 (by omega)] | rw [lf_0 h0 (by omega)], rfl⟩
    · refine w_iload_n (i := 0) hX dX10_left_9 rfl rfl rfl ?_
      refine w_iconst hX dX10_left_10 rfl (by decide) ?_
      refine w_icmp_eq (tgt := 31) hX dX10_left_11 rfl (by decide) (fun h11 => ?_) (fun h11 => ?_)
      · refine w_iconst hX dX10_left_31 rfl (by decide) ?_
        refine w_goto (tgt := 36) hX dX10_left_32 (by decide) ?_
        refine w_istore_n (i := 1) hX dX10_left_36 rfl rfl (by decide) ?_
        dsimp only [st1X, st2X, klX_I, klX_L, klX_R, klX_S, klX_N]
        refine w_iload_n (i := 1) hX dX10_left_37 rfl rfl rfl ?_
        refine w_if_eq (tgt := 45) hX dX10_left_38 rfl (by decide) (fun h38 => absurd h38 (by decide)) (fun _ => ?_)
        refine w_iconst hX dX10_left_41 rfl (by decide) ?_
        refine w_goto (tgt := 46) hX dX10_left_42 (by decide) ?_
        exact e_i hX hF dX10_left_46 ⟨by first | rw [lf_1 (by omega)] | rw [lf_0 h0 (by omega)], rfl⟩
      · refine w_iload_n (i := 0) hX dX10_left_14 rfl rfl rfl ?_
        refine w_iconst hX dX10_left_15 rfl (by decide) ?_
        refine w_icmp_eq (tgt := 31) hX dX10_left_16 rfl (by decide) (fun h16 => ?_) (fun h16 => ?_)
        · refine w_iconst hX dX10_left_31 rfl (by decide) ?_
          refine w_goto (tgt := 36) hX dX10_left_32 (by decide) ?_
          refine w_istore_n (i := 1) hX dX10_left_36 rfl rfl (by decide) ?_
          dsimp only [st1X, st2X, klX_I, klX_L, klX_R, klX_S, klX_N]
          refine w_iload_n (i := 1) hX dX10_left_37 rfl rfl rfl ?_
          refine w_if_eq (tgt := 45) hX dX10_left_38 rfl (by decide) (fun h38 => absurd h38 (by decide)) (fun _ => ?_)
          refine w_iconst hX dX10_left_41 rfl (by decide) ?_
          refine w_goto (tgt := 46) hX dX10_left_42 (by decide) ?_
          exact e_i hX hF dX10_left_46 ⟨by first | rw [lf_1 (by omega)] | rw [lf_0 h0 (by omega)], rfl⟩
        · refine w_iload_n (i := 0) hX dX10_left_19 rfl rfl rfl ?_
          refine w_bipush hX dX10_left_20 rfl (by decide) ?_
          refine w_icmp_lt (tgt := 35) hX dX10_left_22 rfl (by decide) (fun h22 => ?_) (fun h22 => ?_)
          · refine w_iconst hX dX10_left_35 rfl (by decide) ?_
            refine w_istore_n (i := 1) hX dX10_left_36 rfl rfl (by decide) ?_
            dsimp only [st1X, st2X, klX_I, klX_L, klX_R, klX_S, klX_N]
            refine w_iload_n (i := 1) hX dX10_left_37 rfl rfl rfl ?_
            refine w_if_eq (tgt := 45) hX dX10_left_38 rfl (by decide) (fun _ => ?_) (fun h38 => absurd (by decide) h38)
            refine w_iconst hX dX10_left_45 rfl (by decide) ?_
            exact e_i hX hF dX10_left_46 ⟨by first | rw [lf_1 (by omega)] | rw [lf_0 h0 (by omega)], rfl⟩
          · refine w_iload_n (i := 0) hX dX10_left_25 rfl rfl rfl ?_
            refine w_bipush hX dX10_left_26 rfl (by decide) ?_
            refine w_icmp_gt (tgt := 35) hX dX10_left_28 rfl (by decide) (fun h28 => ?_) (fun h28 => ?_)
            · refine w_iconst hX dX10_left_35 rfl (by decide) ?_
              refine w_istore_n (i := 1) hX dX10_left_36 rfl rfl (by decide) ?_
              dsimp only [st1X, st2X, klX_I, klX_L, klX_R, klX_S, klX_N]
              refine w_iload_n (i := 1) hX dX10_left_37 rfl rfl rfl ?_
              refine w_if_eq (tgt := 45) hX dX10_left_38 rfl (by decide) (fun _ => ?_) (fun h38 => absurd (by decide) h38)
              refine w_iconst hX dX10_left_45 rfl (by decide) ?_
              exact e_i hX hF dX10_left_46 ⟨by first | rw [lf_1 (by omega)] | rw [lf_0 h0 (by omega)], rfl⟩
            · refine w_iconst hX dX10_left_31 rfl (by decide) ?_
              refine w_goto (tgt := 36) hX dX10_left_32 (by decide) ?_
              refine w_istore_n (i := 1) hX dX10_left_36 rfl rfl (by decide) ?_
              dsimp only [st1X, st2X, klX_I, klX_L, klX_R, klX_S, klX_N]
              refine w_iload_n (i := 1) hX dX10_left_37 rfl rfl rfl ?_
              refine w_if_eq (tgt := 45) hX dX10_left_38 rfl (by decide) (fun h38 => absurd h38 (by decide)) (fun _ => ?_)
              refine w_iconst hX dX10_left_41 rfl (by decide) ?_
              refine w_goto (tgt := 46) hX dX10_left_42 (by decide) ?_
              exact e_i hX hF dX10_left_46 ⟨by first | rw [lf_1 (by omega)] | rw [lf_0 h0 (by omega)], rfl⟩

abbrev cmMOK (D : Dd) (t d : Int) : Prop := (t = D 279 11 ∧ d = 0) ∨ (t ≠ D 279 11 ∧ (D 287 t.toNat < 0 ∨ D 287 t.toNat = d))
def cmMD (D : Dd) (t d : Int) : Dd := if t ≠ D 279 11 ∧ D 287 t.toNat < 0 then upD D 287 t.toNat d else D

set_option maxRecDepth 100000 in
set_option maxHeartbeats 4000000 in
theorem r_comes (D : Dd) (t d : Int) (ht : 0 ≤ t ∧ t ≤ 256) (hd : 0 ≤ d) : MC 1 yX10_comes cX10_comes 3 (some .boolean) [vR 279, vI t, vI d] D (Is (some (vI (b2 (cmMOK D t d)))) (cmMD D t d)) := by
  refine MC.mk [vR 279, vI t, vI d] (by decide) (Nat.le_of_ble_eq_true rfl) rfl (fun X Q hX hF hok hol => ?_)
  refine w_iload_n (i := 1) hX dX10_comes_0 rfl rfl rfl ?_
  refine w_aload_n (i := 0) hX dX10_comes_1 rfl rfl rfl ?_
  refine w_getI (j := 11) hX cl9 fl_RX10_131_9 rfl (by decide) rfl dX10_comes_2 rfl ?_
  try simp +decide only [upD_rd, ↓reduceIte]
  refine w_icmp_ne (tgt := 18) hX dX10_comes_5 rfl (by decide) (fun h5 => ?_) (fun h5 => ?_)
  · refine w_aload_n (i := 0) hX dX10_comes_18 rfl rfl rfl ?_
    refine w_getR (j := 12) hX cl9 fl_RX10_31_9 rfl (by decide) rfl rfl dX10_comes_19 rfl ?_
    try simp +decide only [upD_rd, ↓reduceIte]
    refine w_iload_n (i := 1) hX dX10_comes_22 rfl rfl rfl ?_
    refine w_iald hX rfl (by omega) (by omega) dX10_comes_23 rfl ?_
    try simp +decide only [upD_rd, ↓reduceIte]
    refine w_if_ge (tgt := 34) hX dX10_comes_24 rfl (by decide) (fun h24 => ?_) (fun h24 => ?_)
    · refine w_aload_n (i := 0) hX dX10_comes_34 rfl rfl rfl ?_
      refine w_getR (j := 12) hX cl9 fl_RX10_31_9 rfl (by decide) rfl rfl dX10_comes_35 rfl ?_
      try simp +decide only [upD_rd, ↓reduceIte]
      refine w_iload_n (i := 1) hX dX10_comes_38 rfl rfl rfl ?_
      refine w_iald hX rfl (by omega) (by omega) dX10_comes_39 rfl ?_
      try simp +decide only [upD_rd, ↓reduceIte]
      refine w_iload_n (i := 2) hX dX10_comes_40 rfl rfl rfl ?_
      refine w_icmp_ne (tgt := 48) hX dX10_comes_41 rfl (by decide) (fun h41 => ?_) (fun h41 => ?_)
      · refine w_iconst hX dX10_comes_48 rfl (by decide) ?_
        exact e_z hX hF dX10_comes_49 (by decide) (by first | exact absurd rfl h41 | exact ⟨by first | rw [b2_t (by omega)] | rw [b2_f (by omega)], by first | rw [cmMD, if_pos ⟨by omega, by omega⟩] | rw [cmMD, if_neg (by omega)]⟩)
      · refine w_iconst hX dX10_comes_44 rfl (by decide) ?_
        refine w_goto (tgt := 49) hX dX10_comes_45 (by decide) ?_
        exact e_z hX hF dX10_comes_49 (by decide) (by first | exact absurd rfl h41 | exact ⟨by first | rw [b2_t (by omega)] | rw [b2_f (by omega)], by first | rw [cmMD, if_pos ⟨by omega, by omega⟩] | rw [cmMD, if_neg (by omega)]⟩)
    · refine w_aload_n (i := 0) hX dX10_comes_27 rfl rfl rfl ?_
      refine w_getR (j := 12) hX cl9 fl_RX10_31_9 rfl (by decide) rfl rfl dX10_comes_28 rfl ?_
      try simp +decide only [upD_rd, ↓reduceIte]
      refine w_iload_n (i := 1) hX dX10_comes_31 rfl rfl rfl ?_
      refine w_iload_n (i := 2) hX dX10_comes_32 rfl rfl rfl ?_
      refine w_iast hX rfl (by omega) (by omega) dX10_comes_33 rfl ?_
      refine w_aload_n (i := 0) hX dX10_comes_34 rfl rfl rfl ?_
      refine w_getR (j := 12) hX cl9 fl_RX10_31_9 rfl (by decide) rfl rfl dX10_comes_35 rfl ?_
      try simp +decide only [upD_rd, ↓reduceIte]
      refine w_iload_n (i := 1) hX dX10_comes_38 rfl rfl rfl ?_
      refine w_iald hX rfl (by omega) (by omega) dX10_comes_39 rfl ?_
      try simp +decide only [upD_rd, ↓reduceIte]
      refine w_iload_n (i := 2) hX dX10_comes_40 rfl rfl rfl ?_
      refine w_icmp_ne (tgt := 48) hX dX10_comes_41 rfl (by decide) (fun h41 => ?_) (fun h41 => ?_)
      · refine w_iconst hX dX10_comes_48 rfl (by decide) ?_
        exact e_z hX hF dX10_comes_49 (by decide) (by first | exact absurd rfl h41 | exact ⟨by first | rw [b2_t (by omega)] | rw [b2_f (by omega)], by first | rw [cmMD, if_pos ⟨by omega, by omega⟩] | rw [cmMD, if_neg (by omega)]⟩)
      · refine w_iconst hX dX10_comes_44 rfl (by decide) ?_
        refine w_goto (tgt := 49) hX dX10_comes_45 (by decide) ?_
        exact e_z hX hF dX10_comes_49 (by decide) (by first | exact absurd rfl h41 | exact ⟨by first | rw [b2_t (by omega)] | rw [b2_f (by omega)], by first | rw [cmMD, if_pos ⟨by omega, by omega⟩] | rw [cmMD, if_neg (by omega)]⟩)
  · refine w_iload_n (i := 2) hX dX10_comes_8 rfl rfl rfl ?_
    refine w_if_ne (tgt := 16) hX dX10_comes_9 rfl (by decide) (fun h9 => ?_) (fun h9 => ?_)
    · refine w_iconst hX dX10_comes_16 rfl (by decide) ?_
      exact e_z hX hF dX10_comes_17 (by decide) ⟨by first | rw [b2_t (by omega)] | rw [b2_f (by omega)], by rw [cmMD, if_neg (by omega)]⟩
    · refine w_iconst hX dX10_comes_12 rfl (by decide) ?_
      refine w_goto (tgt := 17) hX dX10_comes_13 (by decide) ?_
      exact e_z hX hF dX10_comes_17 (by decide) ⟨by first | rw [b2_t (by omega)] | rw [b2_f (by omega)], by rw [cmMD, if_neg (by omega)]⟩

def cmLM (d : Int) : Dd → List Int → Prop
  | _, [] => True
  | D, t :: r => cmMOK D t d ∧ cmLM d (cmMD D t d) r
def cmEM (d : Int) : Dd → List Int → Dd
  | D, [] => D
  | D, t :: r => cmEM d (cmMD D t d) r
def tgM (n k a b m : Int) : List Int := if n = 10 ∨ n = 14 then [a] else if n = 11 then [k + 1, a] else if n = 13 then [k + 1, b] else if n = 18 then [m] else [k + 1]
def mrF (D : Dd) (n a : Int) : Int := if n = 15 ∨ n = 16 then D 291 a.toNat else 0
/-- the greatest depth, noted -/
def ndM (D : Dd) (u x : Int) : Dd := upD D 291 u.toNat (if D 291 u.toNat < x then x else D 291 u.toNat)
def keepR (D D2 : Dd) : Prop := ∀ k j, k ≠ 287 → k ≠ 291 → D2 k j = D k j
theorem keepR.rf (D : Dd) : keepR D D := fun _ _ _ _ => rfl
theorem keepR.tr {D D' D2 : Dd} (h : keepR D D') (h2 : keepR D' D2) : keepR D D2 := fun k j a b => (h2 k j a b).trans (h k j a b)
theorem keepR.cm {D : Dd} {t d : Int} : keepR D (cmMD D t d) := fun k j h1 _ => by
  unfold cmMD
  split
  · exact upD_k h1
  · rfl
theorem keepR.cme {d : Int} : ∀ {r : List Int} {D : Dd}, keepR D (cmEM d D r)
  | [], D => keepR.rf D
  | t :: r, D => keepR.cm.tr (keepR.cme (r := r))
theorem keepR.nd {D : Dd} {u x : Int} : keepR D (ndM D u x) := fun k j _ h2 => upD_k h2
/-- the stack at a line: its number n, its operands a, b -/
noncomputable def skM (D : Dd) (k u n a b : Int) : Int := itP (D 287 k.toNat < tk n) 8 (itP (64 < D 287 k.toNat - tk n + lf n) 9 (itP (¬ cmLM (D 287 k.toNat - tk n + lf n) (ndM D u (D 287 k.toNat - tk n + lf n + mrF D n a)) (tgM n k a b (D 279 11))) 10 0))
noncomputable def skMD (D : Dd) (k u n a b : Int) : Dd := cmEM (D 287 k.toNat - tk n + lf n) (ndM D u (D 287 k.toNat - tk n + lf n + mrF D n a)) (tgM n k a b (D 279 11))
