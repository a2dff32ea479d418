/-! The reference: stepsOf -/
theorem gr_inM {a b : Int} (ha : -1 ≤ a ∧ a ≤ 2000000000) (hb : -1 ≤ b ∧ b ≤ 2000000000) : -1 ≤ grF a b ∧ grF a b ≤ 2000000000 := by unfold grF; split <;> omega
theorem wy_in (D : Dd) (k l : Int) : -1 ≤ wyF D k l ∧ wyF D k l ≤ 2000000000 := by
  unfold wyF
  split
  · exact bh_in _ _
  · split
    · exact gr_inM (bh_in _ _) (bh_in _ _)
    · split
      · refine gr_inM (bh_in _ _) ?_
        split
        · omega
        · exact bh_in _ _
      · split
        · split <;> omega
        · split
          · exact bh_in _ _
          · split
            · split <;> omega
            · exact bh_in _ _
/-- downwards, m times, from j on -/
def dn (f : Int → Dd → Dd) : Nat → Int → Dd → Dd
  | 0, _, D => D
  | m + 1, j, D => dn f m (j - 1) (f j D)
def stWy (l j : Int) (D : Dd) : Dd := upD D 288 j.toNat (wyF D j l)
def rdM (k : Int) (D : Dd) : Dd := upD (dn (stWy k) ((D 285 (D 279 10 + k).toNat) - 1 - k).toNat ((D 285 (D 279 10 + k).toNat) - 1) D) 289 k.toNat (bhF 1 (dn (stWy k) ((D 285 (D 279 10 + k).toNat) - 1 - k).toNat ((D 285 (D 279 10 + k).toNat) - 1) D 288 (k + 1).toNat))
noncomputable def rdM2 (k : Int) (D : Dd) : Dd := itP ((D 283 (D 279 10 + k).toNat) = 13) (rdM k D) D
def keepY (D D2 : Dd) : Prop := ∀ k j, k ≠ 288 → k ≠ 289 → D2 k j = D k j
theorem keepY.rf (D : Dd) : keepY D D := fun _ _ _ _ => rfl
theorem keepY.tr {D D' D2 : Dd} (h : keepY D D') (h2 : keepY D' D2) : keepY D D2 := fun k j a b => (h2 k j a b).trans (h k j a b)
theorem keepY.dn {f : Int → Dd → Dd} (hf : ∀ j D, keepY D (f j D)) : ∀ {m : Nat} {j : Int} {D : Dd}, keepY D (dn f m j D)
  | 0, _, D => keepY.rf D
  | m + 1, j, D => (hf j D).tr (keepY.dn hf (m := m))
theorem keepY.st (l j : Int) (D : Dd) : keepY D (stWy l j D) := fun k i h1 _ => upD_k h1
theorem keepY.rd (k : Int) (D : Dd) : keepY D (rdM k D) := fun a b h1 h2 => by
  unfold rdM
  rw [upD_k h2]
  exact keepY.dn (keepY.st k) a b h1 h2
theorem keepY.rd2 (k : Int) (D : Dd) : keepY D (rdM2 k D) := by
  unfold rdM2
  by_cases h : (D 283 (D 279 10 + k).toNat) = 13
  · rw [it_t h]; exact keepY.rd k D
  · rw [it_f h]; exact keepY.rf D
/-- what way needs of the lines -/
def WV (D : Dd) : Prop := ∀ k : Int, 0 ≤ k → k < D 279 11 → ((D 283 (D 279 10 + k).toNat) = 10 ∨ (D 283 (D 279 10 + k).toNat) = 11 → 0 ≤ (D 284 (D 279 10 + k).toNat) ∧ (D 284 (D 279 10 + k).toNat) ≤ D 279 11) ∧ ((D 283 (D 279 10 + k).toNat) = 13 → 1 ≤ k ∧ (0 ≤ (D 285 (D 279 10 + (k - 1)).toNat) ∧ (D 285 (D 279 10 + (k - 1)).toNat) ≤ 1000000) ∧ k + 2 ≤ (D 285 (D 279 10 + k).toNat) ∧ (D 285 (D 279 10 + k).toNat) ≤ D 279 11) ∧ ((D 283 (D 279 10 + k).toNat) = 15 ∨ (D 283 (D 279 10 + k).toNat) = 16 → 0 ≤ (D 284 (D 279 10 + k).toNat) ∧ (D 284 (D 279 10 + k).toNat) < 16)
/-- the frame of the pass -/
def WS (D : Dd) : Prop := FM D ∧ wyR D ∧ WV D
theorem WS.st {D : Dd} (h : WS D) (l : Int) {j : Int} (hj : 0 ≤ j) : WS (stWy l j D) := by
  have k := keepY.st l j D
  obtain ⟨h1, h2, h3⟩ := h
  refine ⟨?_, ⟨fun i hi => ?_, fun i hi => ?_, fun i hi => ?_⟩, ?_⟩
  · unfold FM; rw [k _ _ (by decide) (by decide), k _ _ (by decide) (by decide)]; exact h1
  · unfold stWy; rw [upD_rd, if_pos rfl]; split
    · exact wy_in D j l
    · exact h2.1 i hi
  · unfold stWy; rw [upD_k (by decide)]; exact h2.2.1 i hi
  · unfold stWy; rw [upD_k (by decide)]; exact h2.2.2 i hi
  · unfold WV
    simp only [k 283 _ (by decide) (by decide), k 284 _ (by decide) (by decide), k 285 _ (by decide) (by decide), k 279 _ (by decide) (by decide)]
    exact h3
theorem WS.rd {E : Dd} (h : WS E) {k : Int} (hk : 0 ≤ k) {x : Int} (hx : -1 ≤ x ∧ x ≤ 2000000000) : WS (upD E 289 k.toNat x) := by
  have kp : keepY E (upD E 289 k.toNat x) := fun a b _ h2 => upD_k h2
  obtain ⟨h1, h2, h3⟩ := h
  refine ⟨?_, ⟨fun i hi => ?_, fun i hi => ?_, fun i hi => ?_⟩, ?_⟩
  · unfold FM; rw [kp _ _ (by decide) (by decide), kp _ _ (by decide) (by decide)]; exact h1
  · rw [upD_k (by decide)]; exact h2.1 i hi
  · rw [upD_rd, if_pos rfl]; split
    · exact hx
    · exact h2.2.1 i hi
  · rw [upD_k (by decide)]; exact h2.2.2 i hi
  · unfold WV
    simp only [kp 283 _ (by decide) (by decide), kp 284 _ (by decide) (by decide), kp 285 _ (by decide) (by decide), kp 279 _ (by decide) (by decide)]
    exact h3

set_option maxRecDepth 100000 in
set_option maxHeartbeats 4000000 in
theorem l_inner {X : Cx} {Q : State → Prop} {P : Option AV → Dd → Prop} (hX : GX X yX10_stepsOf cX10_stepsOf 3 (some .long) 5 0 0) (hF : FX X Q P) (k m0 : Int) (hk : 0 ≤ k) (hm0 : m0 ≤ 256) : ∀ (m : Nat) (j : Int) (D : Dd), (j - k).toNat < m → k ≤ j → j < m0 → WS D → D 279 11 = m0 → lpK D k → (∀ D2, D2 = dn (stWy k) (j - k).toNat j D → WS D2 → W0 X Q 50 [vR 279, vI k, vI k] [] D2) → W0 X Q 27 [vR 279, vI k, vI j] [] D := by
  intro m
  induction m with
  | zero =>
    intro j D hm h0 h1 hS hmm hl hz
    exact absurd hm (Nat.not_lt_zero _)
  | succ m ih =>
    intro j D hm h0 h1 hS hmm hl hz
    have zq_F := hS.1
    unfold FM at zq_F
    refine w_iload_n (i := 2) hX dX10_stepsOf_27 rfl rfl rfl ?_
    refine w_iload_n (i := 1) hX dX10_stepsOf_28 rfl rfl rfl ?_
    refine w_icmp_le (tgt := 50) hX dX10_stepsOf_29 rfl (by decide) (fun h29 => ?_) (fun h29 => ?_)
    · have zq_e : j = k := by omega
      subst zq_e
      exact hz D (by rw [show (j - j).toNat = 0 by omega]; rfl) hS
    · refine w_aload_n (i := 0) hX dX10_stepsOf_32 rfl rfl rfl ?_
      refine w_getR (j := 13) hX cl9 fl_RX10_34_9 rfl (by decide) rfl rfl dX10_stepsOf_33 rfl ?_
      refine w_iload_n (i := 2) hX dX10_stepsOf_36 rfl rfl rfl ?_
      refine w_aload_n (i := 0) hX dX10_stepsOf_37 rfl rfl rfl ?_
      refine w_iload_n (i := 2) hX dX10_stepsOf_38 rfl rfl rfl ?_
      refine w_iload_n (i := 1) hX dX10_stepsOf_39 rfl rfl rfl ?_
      refine c_V hX ml_RX10_192 cl9 dX10_stepsOf_40 rfl (r_way D hS.1 hS.2.1 j k (by omega) hl (hS.2.2 j (by omega) (by omega)).1 (fun zq_q => by have zq_r := (hS.2.2 j (by omega) (by omega)).2.1 zq_q; omega) (hS.2.2 j (by omega) (by omega)).2.2) rfl rfl rfl (by decide) (Nat.le_of_ble_eq_true rfl) ?_
      rintro _ _ ⟨rfl, rfl⟩ -
      all_goals try dsimp only [Option.toList, List.cons_append, List.nil_append]
      refine w_last hX rfl (by omega) (by omega) dX10_stepsOf_43 rfl ?_
      refine w_iinc hX dX10_stepsOf_44 rfl rfl (by decide) (by omega) ?_
      dsimp only [st1X, st2X, klX_I, klX_L, klX_R, klX_S, klX_N]
      refine w_goto (tgt := 27) hX dX10_stepsOf_47 (by decide) ?_
      have zq_k := keepY.st k j D
      refine ih (j + -1) (stWy k j D) (by omega) (by omega) (by omega) (hS.st k (by omega)) ((zq_k _ _ (by decide) (by decide)).trans hmm) ?_ (fun D2 zq_d => hz D2 (by rw [zq_d, show (j - k).toNat = (j + -1 - k).toNat + 1 by omega]; rfl))
      intro zq_0
      rw [zq_k _ _ (by decide) (by decide), zq_k _ _ (by decide) (by decide), zq_k _ _ (by decide) (by decide)]
      exact hl zq_0

set_option maxRecDepth 100000 in
set_option maxHeartbeats 4000000 in
theorem l_outer {X : Cx} {Q : State → Prop} {P : Option AV → Dd → Prop} (hX : GX X yX10_stepsOf cX10_stepsOf 3 (some .long) 5 0 0) (hF : FX X Q P) (m0 : Int) (hm0 : 0 ≤ m0 ∧ m0 ≤ 256) (w9 : True) : ∀ (m : Nat) (k : Int) (D : Dd) (w1 : AV), (k + 1).toNat < m → -1 ≤ k → k < m0 → WS D → D 279 11 = m0 → (∀ D2 w2, D2 = dn rdM2 (k + 1).toNat k D → WS D2 → W0 X Q 74 [vR 279, vI (-1), w2] [] D2) → W0 X Q 7 [vR 279, vI k, w1] [] D := by
  intro m
  induction m with
  | zero =>
    intro k D w1 hm h0 h1 hS hmm hz
    exact absurd hm (Nat.not_lt_zero _)
  | succ m ih =>
    intro k D w1 hm h0 h1 hS hmm hz
    have zq_F := hS.1
    unfold FM at zq_F
    refine w_iload_n (i := 1) hX dX10_stepsOf_7 rfl rfl rfl ?_
    refine w_if_lt (tgt := 74) hX dX10_stepsOf_8 rfl (by decide) (fun h8 => ?_) (fun h8 => ?_)
    · have zq_e : k = -1 := by omega
      subst zq_e
      exact hz D _ rfl hS
    · refine w_aload_n (i := 0) hX dX10_stepsOf_11 rfl rfl rfl ?_
      refine w_iload_n (i := 1) hX dX10_stepsOf_12 rfl rfl rfl ?_
      refine c_V hX ml_RX10_128 cl9 dX10_stepsOf_13 rfl (r_numberAt D hS.1 k (by omega)) rfl rfl rfl (by decide) (Nat.le_of_ble_eq_true rfl) ?_
      rintro _ _ ⟨rfl, rfl⟩ -
      all_goals try dsimp only [Option.toList, List.cons_append, List.nil_append]
      refine w_bipush hX dX10_stepsOf_16 rfl (by decide) ?_
      refine w_icmp_ne (tgt := 68) hX dX10_stepsOf_18 rfl (by decide) (fun h18 => ?_) (fun h18 => ?_)
      · refine w_iinc hX dX10_stepsOf_68 rfl rfl (by decide) (by omega) ?_
        dsimp only [st1X, st2X, klX_I, klX_L, klX_R, klX_S, klX_N]
        refine w_goto (tgt := 7) hX dX10_stepsOf_71 (by decide) ?_
        have zq_i : rdM2 k D = D := it_f h18
        refine ih (k + -1) D _ (by omega) (by omega) (by omega) hS hmm (fun D2 w2 zq_d => hz D2 w2 ?_)
        rw [zq_d, show (k + 1).toNat = (k + -1 + 1).toNat + 1 by omega]
        show _ = dn rdM2 _ (k - 1) (rdM2 k D)
        rw [zq_i]
        rfl
      · have zq_v := (hS.2.2 k (by omega) (by omega)).2.1 (Classical.not_not.mp h18)
        refine w_aload_n (i := 0) hX dX10_stepsOf_21 rfl rfl rfl ?_
        refine w_iload_n (i := 1) hX dX10_stepsOf_22 rfl rfl rfl ?_
        refine c_V hX ml_RX10_150 cl9 dX10_stepsOf_23 rfl (r_lastOf D hS.1 k (by omega) (by omega)) rfl rfl rfl (by decide) (Nat.le_of_ble_eq_true rfl) ?_
        rintro _ _ ⟨rfl, rfl⟩ -
        all_goals try dsimp only [Option.toList, List.cons_append, List.nil_append]
        refine w_istore_n (i := 2) hX dX10_stepsOf_26 rfl rfl (by decide) ?_
        dsimp only [st1X, st2X, klX_I, klX_L, klX_R, klX_S, klX_N]
        refine l_inner hX hF k m0 (by omega) (by omega) _ ((D 285 (D 279 10 + k).toNat) - 1) D (Nat.lt_succ_self _) (by omega) (by omega) hS hmm (fun _ => by omega) (fun E zq_d zq_S => ?_)
        have zq_E : keepY D E := by rw [zq_d]; exact keepY.dn (keepY.st k)
        have zq_b := bh_in 1 (E 288 (k + 1).toNat)
        refine w_aload_n (i := 0) hX dX10_stepsOf_50 rfl rfl rfl ?_
        refine w_getR (j := 14) hX cl9 fl_RX10_38_9 rfl (by decide) rfl rfl dX10_stepsOf_51 rfl ?_
        refine w_iload_n (i := 1) hX dX10_stepsOf_54 rfl rfl rfl ?_
        refine w_lconst1 hX dX10_stepsOf_55 rfl ?_
        refine w_aload_n (i := 0) hX dX10_stepsOf_56 rfl rfl rfl ?_
        refine w_getR (j := 13) hX cl9 fl_RX10_34_9 rfl (by decide) rfl rfl dX10_stepsOf_57 rfl ?_
        refine w_iload_n (i := 1) hX dX10_stepsOf_60 rfl rfl rfl ?_
        refine w_iconst hX dX10_stepsOf_61 rfl (by decide) ?_
        refine w_iadd hX dX10_stepsOf_62 rfl (by omega) ?_
        refine w_lald hX rfl (by omega) (by omega) dX10_stepsOf_63 rfl ?_
        refine c_S hX ml_RX10_181 dX10_stepsOf_64 rfl (r_behind E 1 _ (by decide) (by have zq_w := zq_S.2.1.1 (k + 1).toNat (by omega); omega)) rfl rfl (by decide) (Nat.le_of_ble_eq_true rfl) ?_
        rintro _ _ ⟨rfl, rfl⟩ -
        all_goals try dsimp only [Option.toList, List.cons_append, List.nil_append]
        refine w_last hX rfl (by omega) (by omega) dX10_stepsOf_67 rfl ?_
        refine w_iinc hX dX10_stepsOf_68 rfl rfl (by decide) (by omega) ?_
        dsimp only [st1X, st2X, klX_I, klX_L, klX_R, klX_S, klX_N]
        refine w_goto (tgt := 7) hX dX10_stepsOf_71 (by decide) ?_
        have zq_i : upD E 289 k.toNat (bhF 1 (E 288 (k + 1).toNat)) = rdM2 k D := by
          unfold rdM2
          rw [it_t (Classical.not_not.mp h18), rdM, ← zq_d]
        rw [zq_i]
        refine ih (k + -1) _ _ (by omega) (by omega) (by omega) (by rw [← zq_i]; exact zq_S.rd (by omega) zq_b) ((keepY.rd2 k D _ _ (by decide) (by decide)).trans hmm) (fun D2 w2 zq_d2 => hz D2 w2 ?_)
        rw [zq_d2, show (k + 1).toNat = (k + -1 + 1).toNat + 1 by omega]
        rfl
