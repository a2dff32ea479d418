/-! LoopPass (fault 7) -/
abbrev fN (D : Dd) (u i : Int) : Int := D (atF D u i) 0
abbrev fA (D : Dd) (u i : Int) : Int := D (atF D u i) 1
abbrev fB (D : Dd) (u i : Int) : Int := D (atF D u i) 2
/-- the 13s of a unit, as the pass keeps them -/
def NXP (D : Dd) (u : Int) : Prop := (0 ≤ D 266 2 ∧ D 266 2 ≤ 256) ∧ (∀ k : Nat, (k : Int) < D 266 2 → 0 ≤ D 267 k ∧ D 267 k < szF D u ∧ (D (atF D u (D 267 k)) 0) = 13) ∧ ∀ i : Int, 0 ≤ i → i < szF D u → (D (atF D u i) 0) = 13 → ∃ k : Nat, (k : Int) < D 266 2 ∧ D 267 k = i
theorem NXP.ex {D : Dd} {u : Int} (h : NXP D u) (p : Int → Prop) : (∃ k : Nat, (k : Int) < D 266 2 ∧ p (D 267 k)) ↔ ∃ j : Int, 0 ≤ j ∧ j < szF D u ∧ (D (atF D u j) 0) = 13 ∧ p j := by
  constructor
  · rintro ⟨k, h1, h2⟩
    obtain ⟨a, b, c⟩ := h.2.1 k h1
    exact ⟨_, a, b, c, h2⟩
  · rintro ⟨j, a, b, c, d⟩
    obtain ⟨k, h1, h2⟩ := h.2.2 j a b c
    exact ⟨k, h1, by rw [h2]; exact d⟩
/-- two worlds with the same code -/
def smC (D D' : Dd) : Prop := ∀ k j, k < 264 → D' k j = D k j
theorem smC.rf (D : Dd) : smC D D := fun _ _ _ => rfl
theorem smC.tr {D D' D2 : Dd} (h : smC D D') (h2 : smC D' D2) : smC D D2 := fun k j hk => (h2 k j hk).trans (h k j hk)
theorem smC.up {D D' : Dd} (h : smC D D') {k j : Nat} {x : Int} (hk : 264 ≤ k) : smC D (upD D' k j x) := fun a b ha => by rw [upD_k (by omega)]; exact h a b ha
theorem sz_sm {D D' : Dd} (h : smC D D') (u : Int) : szF D' u = szF D u := by
  unfold szF; rw [h 1 7 (by decide), h 5 _ (by decide)]
theorem fr_sm {D D' : Dd} (h : smC D D') (u : Int) : frF D' u = frF D u := by
  unfold frF; rw [h 1 7 (by decide), h 6 _ (by decide)]
theorem pl_sm {D D' : Dd} (h : smC D D') (u : Int) : plF D' u = plF D u := by
  unfold plF; rw [h 1 7 (by decide), h 7 _ (by decide)]
theorem at_sm {D D' : Dd} (h : smC D D') (u i : Int) : atF D' u i = atF D u i := by
  unfold atF; rw [h 1 7 (by decide), h 5 _ (by decide), h 4 _ (by decide)]
theorem in_sm {D D' : Dd} (h : smC D D') (hI : InC D) : InC D' := by
  unfold InC at *
  rw [h 1 7 (by decide), h 1 8 (by decide)]
  exact ⟨hI.1, hI.2.1, fun u hu => by rw [h 4 _ (by decide), h 5 _ (by decide)]; exact hI.2.2 u hu⟩
theorem at_lt {D : Dd} (hI : InC D) (u i : Int) : atF D u i < 264 := by
  rcases at_ins hI u i with h | h
  · rw [h]; decide
  · exact h.2
theorem f_sm {D D' : Dd} (h : smC D D') (hI : InC D) (u i : Int) (j : Nat) : D' (atF D' u i) j = D (atF D u i) j := by
  rw [at_sm h, h _ _ (at_lt hI u i)]
theorem sz_256 {D : Dd} (hI : InC D) (u : Int) : 0 ≤ szF D u ∧ szF D u ≤ 256 := by
  unfold szF
  split
  · rename_i h; have := hI.u h.1 h.2; have := hI.2.1; omega
  · omega

/-- LoopPass.open, as far as i -/
def NXI (D D2 : Dd) (u i : Int) : Prop := (0 ≤ D2 266 2 ∧ D2 266 2 ≤ i) ∧ (∀ k : Nat, (k : Int) < D2 266 2 → 0 ≤ D2 267 k ∧ D2 267 k < i ∧ (D (atF D u (D2 267 k)) 0) = 13) ∧ ∀ j : Int, 0 ≤ j → j < i → (D (atF D u j) 0) = 13 → ∃ k : Nat, (k : Int) < D2 266 2 ∧ D2 267 k = j
theorem NXI.skip {D D2 : Dd} {u i : Int} (h : NXI D D2 u i) (hn : (D (atF D u i) 0) ≠ 13) : NXI D D2 u (i + 1) := by
  obtain ⟨a, b, c⟩ := h
  refine ⟨⟨a.1, by omega⟩, fun k hk => ?_, fun j h0 h1 h2 => ?_⟩
  · have := b k hk; omega
  · by_cases e : j = i
    · exact absurd (e ▸ h2) hn
    · exact c j h0 (by omega) h2
theorem NXI.push {D D2 : Dd} {u i : Int} (h : NXI D D2 u i) (hi : 0 ≤ i) (hn : (D (atF D u i) 0) = 13) : NXI D (upD (upD D2 267 (D2 266 2).toNat i) 266 2 (D2 266 2 + 1)) u (i + 1) := by
  obtain ⟨a, b, c⟩ := h
  have e1 : upD (upD D2 267 (D2 266 2).toNat i) 266 2 (D2 266 2 + 1) 266 2 = D2 266 2 + 1 := upD_eq _ _ _ _
  have e2 : ∀ k, upD (upD D2 267 (D2 266 2).toNat i) 266 2 (D2 266 2 + 1) 267 k = if k = (D2 266 2).toNat then i else D2 267 k := fun k => by simp +decide only [upD_rd, ↓reduceIte]
  refine ⟨⟨by rw [e1]; omega, by rw [e1]; omega⟩, fun k hk => ?_, fun j h0 h1 h2 => ?_⟩
  · rw [e1] at hk
    rw [e2]
    by_cases e : k = (D2 266 2).toNat
    · rw [if_pos e]; exact ⟨hi, by omega, hn⟩
    · rw [if_neg e]
      have := b k (by omega)
      exact ⟨this.1, by omega, this.2.2⟩
  · rw [e1]
    by_cases e : j = i
    · exact ⟨(D2 266 2).toNat, by omega, by rw [e2, if_pos rfl, e]⟩
    · obtain ⟨k, k1, k2⟩ := c j h0 (by omega) h2
      exact ⟨k, by omega, by rw [e2, if_neg (by omega)]; exact k2⟩
theorem NXI.done {D D2 : Dd} {u : Int} (hs : smC D D2) (hI : InC D) (h : NXI D D2 u (szF D u)) : NXP D2 u := by
  have hz := sz_256 hI u
  obtain ⟨a, b, c⟩ := h
  refine ⟨⟨a.1, by omega⟩, fun k hk => ?_, fun i h0 h1 h2 => ?_⟩
  · rw [sz_sm hs]
    have := b k hk
    exact ⟨this.1, this.2.1, (f_sm hs hI u _ 0).trans this.2.2⟩
  · rw [sz_sm hs] at h1
    exact c i h0 h1 ((f_sm hs hI u i 0).symm.trans h2)
/-- all but the pass's own numbers stays -/
def keepL (D D2 : Dd) : Prop := ∀ k j, k ≠ 266 → k ≠ 267 → D2 k j = D k j
theorem keepL.sm {D D2 : Dd} (h : keepL D D2) : smC D D2 := fun k j hk => h k j (by omega) (by omega)

set_option maxRecDepth 100000 in
set_option maxHeartbeats 4000000 in
theorem l_loopOpen {X : Cx} {Q : State → Prop} {P : Option AV → Dd → Prop} (hX : GX X yX3_open cX3_open 4 none 2 0 0) (hF : FX X Q P) (D : Dd) (hI : InC D) (u sz : Int) (hsz : sz = szF D u) (hyes : ∀ D2, keepL D D2 → NXP D2 u → P none D2) : ∀ (m : Nat) (i : Int) (D2 : Dd), (sz - i).toNat < m → 0 ≤ i → i ≤ sz → keepL D D2 → NXI D D2 u i → W0 X Q 16 [vR 266, vI u, vI sz, vI i] [] D2 := by
  intro m
  induction m with
  | zero =>
    intro i D2 hm h0 h1 hk hN
    exact absurd hm (Nat.not_lt_zero _)
  | succ m ih =>
    intro i D2 hm h0 h1 hk hN
    have hz := sz_256 hI u
    have hI2 := in_sm hk.sm hI
    have hN1 := hN.1
    refine w_iload_n (i := 3) hX dX3_open_16 rfl rfl rfl ?_
    refine w_iload_n (i := 2) hX dX3_open_17 rfl rfl rfl ?_
    refine w_icmp_ge (tgt := 74) hX dX3_open_18 rfl (by decide) (fun h18 => ?_) (fun h18 => ?_)
    · exact e_v hX hF dX3_open_74 (hyes D2 hk (NXI.done hk.sm hI (by rw [show szF D u = i by omega]; exact hN)))
    · refine w_aload_n (i := 0) hX dX3_open_21 rfl rfl rfl ?_
      refine w_getR (j := 0) hX cl3 fl_RX3_19_3 rfl (by decide) rfl rfl dX3_open_22 rfl ?_
      refine w_iload_n (i := 1) hX dX3_open_25 rfl rfl rfl ?_
      refine w_iload_n (i := 3) hX dX3_open_26 rfl rfl rfl ?_
      refine c_V hX ml_RX3_29 cl0 dX3_open_27 rfl (m_at D2 hI2 u i) rfl rfl rfl (by decide) (Nat.le_of_ble_eq_true rfl) ?_
      rintro _ _ ⟨rfl, rfl⟩ -
      all_goals try dsimp only [Option.toList, List.cons_append, List.nil_append]
      refine w_getI (j := 0) hX cl2 fl_RX3_33_2 (K0_ins (at_ins hI2 u i)) (by decide) rfl dX3_open_30 rfl ?_
      rw [f_sm hk.sm hI]
      refine w_bipush hX dX3_open_33 rfl (by decide) ?_
      refine w_icmp_ne (tgt := 68) hX dX3_open_35 rfl (by decide) (fun h35 => ?_) (fun h35 => ?_)
      · refine w_iinc hX dX3_open_68 rfl rfl (by decide) (by omega) ?_
        dsimp only [st1X, st2X, klX_I, klX_L, klX_R, klX_S, klX_N]
        refine w_goto (tgt := 16) hX dX3_open_71 (by decide) ?_
        exact ih (i + 1) D2 (by omega) (by omega) (by omega) hk (hN.skip h35)
      · refine w_aload_n (i := 0) hX dX3_open_38 rfl rfl rfl ?_
        refine w_getI (j := 2) hX cl3 fl_RX3_15_3 rfl (by decide) rfl dX3_open_39 rfl ?_
        refine w_sipush hX dX3_open_42 rfl (by decide) ?_
        refine w_icmp_ge (tgt := 68) hX dX3_open_45 rfl (by decide) (fun h45 => ?_) (fun h45 => ?_)
        · exfalso; omega
        · refine w_aload_n (i := 0) hX dX3_open_48 rfl rfl rfl ?_
          refine w_getR (j := 1) hX cl3 fl_RX3_9_3 rfl (by decide) rfl rfl dX3_open_49 rfl ?_
          refine w_aload_n (i := 0) hX dX3_open_52 rfl rfl rfl ?_
          refine w_getI (j := 2) hX cl3 fl_RX3_15_3 rfl (by decide) rfl dX3_open_53 rfl ?_
          refine w_iload_n (i := 3) hX dX3_open_56 rfl rfl rfl ?_
          refine w_iast hX rfl (by omega) (by omega) dX3_open_57 rfl ?_
          refine w_aload_n (i := 0) hX dX3_open_58 rfl rfl rfl ?_
          refine w_dup hX dX3_open_59 rfl rfl ?_
          refine w_getI (j := 2) hX cl3 fl_RX3_15_3 rfl (by decide) rfl dX3_open_60 rfl ?_
          try simp +decide only [upD_rd, ↓reduceIte]
          refine w_iconst hX dX3_open_63 rfl (by decide) ?_
          refine w_iadd hX dX3_open_64 rfl (by omega) ?_
          refine w_putI (j := 2) hX cl3 fl_RX3_15_3 rfl (by decide) rfl rfl (Or.inl rfl) dX3_open_65 rfl ?_
          refine w_iinc hX dX3_open_68 rfl rfl (by decide) (by omega) ?_
          dsimp only [st1X, st2X, klX_I, klX_L, klX_R, klX_S, klX_N]
          refine w_goto (tgt := 16) hX dX3_open_71 (by decide) ?_
          exact ih (i + 1) _ (by omega) (by omega) (by omega) (fun k j hk1 hk2 => by simp only [upD_rd, if_neg hk1, if_neg hk2]; exact hk k j hk1 hk2) (hN.push h0 (Classical.not_not.mp h35))

set_option maxRecDepth 100000 in
set_option maxHeartbeats 4000000 in
theorem m_loopOpen (D : Dd) (hI : InC D) (u : Int) : MC 2 yX3_open cX3_open 4 none [vR 266, vI u] D (fun r D2 => none = r ∧ keepL D D2 ∧ NXP D2 u) := by
  refine MC.mk [vR 266, vI u, vN, vN] (by decide) (Nat.le_of_ble_eq_true rfl) rfl (fun X Q hX hF hok hol => ?_)
  have hz := sz_256 hI u
  have hs : smC D (upD D 266 2 0) := (smC.rf D).up (by decide)
  refine w_aload_n (i := 0) hX dX3_open_0 rfl rfl rfl ?_
  refine w_iconst hX dX3_open_1 rfl (by decide) ?_
  refine w_putI (j := 2) hX cl3 fl_RX3_15_3 rfl (by decide) rfl rfl (Or.inl rfl) dX3_open_2 rfl ?_
  refine w_aload_n (i := 0) hX dX3_open_5 rfl rfl rfl ?_
  refine w_getR (j := 0) hX cl3 fl_RX3_19_3 rfl (by decide) rfl rfl dX3_open_6 rfl ?_
  refine w_iload_n (i := 1) hX dX3_open_9 rfl rfl rfl ?_
  refine c_V hX ml_RX3_23 cl0 dX3_open_10 rfl (m_sizeOf _ (in_sm hs hI) u) rfl rfl rfl (by decide) (Nat.le_of_ble_eq_true rfl) ?_
  rintro _ _ ⟨rfl, rfl⟩ -
  rw [sz_sm hs]
  all_goals try dsimp only [Option.toList, List.cons_append, List.nil_append]
  refine w_istore_n (i := 2) hX dX3_open_13 rfl rfl (by decide) ?_
  dsimp only [st1X, st2X, klX_I, klX_L, klX_R, klX_S, klX_N]
  refine w_iconst hX dX3_open_14 rfl (by decide) ?_
  refine w_istore_n (i := 3) hX dX3_open_15 rfl rfl (by decide) ?_
  dsimp only [st1X, st2X, klX_I, klX_L, klX_R, klX_S, klX_N]
  exact l_loopOpen hX hF D hI u _ rfl (fun D2 h1 h2 => ⟨rfl, h1, h2⟩) _ 0 _ (Nat.lt_succ_self _) (by omega) (by omega) (fun k j h1 h2 => upD_k h1) ⟨⟨by rw [upD_eq]; omega, by rw [upD_eq]; omega⟩, fun k hk => by rw [upD_eq] at hk; omega, fun j h1 h2 => by omega⟩
