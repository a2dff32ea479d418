/-! Proof.search, CodeProof.prove -/
theorem st_B {D : Dd} {u : Int} (hI : InC D) (hu : 0 ≤ u ∧ u < 16) (hln : okLn D u) (hdp : dpW D u) : ∀ m : Nat, (m : Int) ≤ szF D u → (∀ j : Nat, j < m → skF (stW u j (soD D u)) u j = 0) → dzB (stW u m (soD D u)) (szF D u) ∧ dpV (stW u m (soD D u)) u
  | 0, _, _ => ⟨so_dz D u _ rfl, so_dp hdp⟩
  | m + 1, hm, h => by
    have ih := st_B hI hu hln hdp m (by omega) (fun j hj => h j (by omega))
    have h0 := h m (by omega)
    have hk : smC D (stW u m (soD D u)) := (so_sm D u).tr (keepS.st (m := m)).sm
    refine ⟨ih.1.sk (by omega) h0, ih.2.sk ih.1 (by omega) hu ?_ h0⟩
    rw [f_sm hk hI, f_sm hk hI]
    have hw := (ln_0 (hln m (by omega) (by omega))).2.1
    unfold wuP at hw
    omega
/-- what search keeps between units -/
def SI (D : Dd) : Prop := InC D ∧ InF D ∧ D 3 0 = -1 ∧ wyB D
theorem RFo.keep {D D2 : Dd} {u : Int} (h : SI D) (hu : 0 ≤ u ∧ u < 16) (hdp : dpW D u) (hr : RFo D u (some (vI 0)) D2) : smC D D2 ∧ SI D2 ∧ dpW D2 (u + 1) := by
  obtain ⟨hI, hf, h0, hw⟩ := h
  rcases hr with ⟨_, hr, _⟩ | ⟨_, hr⟩
  · cases hr
  · rcases hr with ⟨i, _, _, _, _, hr, _⟩ | ⟨hln, D1, hk, hr⟩
    · cases hr
    · rcases hr with ⟨i, _, _, _, _, hr, _⟩ | ⟨hlp, hr⟩
      · cases hr
      · rcases hr with ⟨i, _, _, _, hr, _⟩ | ⟨hs, hr⟩
        · cases hr
        · rcases hr with ⟨_, hr, _⟩ | ⟨hle, _, hr⟩
          · cases hr
          · have hz := sz_256 hI u
            have e1 : smC D (s3 D1 u) := hk.sm.tr (s3_sm D1 u)
            have hI1 := in_sm hk.sm hI
            have hI3 := in_sm e1 hI
            have hz1 : szF (s3 D1 u) u = szF D u := sz_sm e1 u
            have hw3 : wyB (s3 D1 u) := hw.kp (fun k j a b => (s3_keep D1 u k j (by omega) (by omega) (by omega)).trans (hk k j (by omega) (by omega)))
            have hv3 : VLP (s3 D1 u) u := VLP.of (by rw [e1 _ _ (by decide)]; exact h0) (okLn.sm hln e1 hI) (okLp.sm hlp e1 hI)
            have hw4 := wyB.rd (u := u) (m := (szF (s3 D1 u) u).toNat) hI3 hw3 hv3 (by omega)
            have k4 : keepW (s3 D1 u) (rdW u (szF (s3 D1 u) u).toNat (s3 D1 u)) := keepW.rd
            have hI4 := in_sm k4.sm hI3
            have k5 : keepW (s3 D1 u) (lgU (s3 D1 u) u) := k4.tr keepB.lg.W
            have hb5 : bfB (lgU (s3 D1 u) u) := bfB.lg hI4 hw4.1 hw4.2.1 hw4.2.2 (hv3.1.sm k4.sm hI3) (by omega) (by omega)
            have hx : -1 ≤ spF (s3 D1 u) u := (hb5 _ (by omega)).1
            have e2 : smC D D2 := by rw [← hr]; exact (e1.tr k5.sm).up (by decide)
            have hd3 : dpV (s3 D1 u) u := (st_B hI1 hu (okLn.sm hln hk.sm hI) (fun v hv => by rw [hk _ _ (by decide) (by decide)]; exact hdp v hv) (szF D1 u).toNat (by have := sz_256 hI1 u; omega) (fun j hj => hs j (by omega))).2
            refine ⟨e2, ⟨in_sm e2 hI, hf.sm e2, by rw [e2 _ _ (by decide)]; exact h0, ?_⟩, fun v hv => ?_⟩
            rotate_left
            · rw [← hr, upD_k (by decide), k5 _ _ (by decide) (by decide) (by decide)]; exact hd3 v (by omega)
            · rw [← hr]
              refine ⟨fun j hj => by rw [upD_k (by decide)]; exact hb5 j hj, fun j hj => by rw [upD_k (by decide)]; exact (hw4.2.1.kp keepB.lg) j hj, fun j hj => ?_⟩
              rw [upD_rd, if_pos rfl]
              split
              · omega
              · exact (hw4.2.2.kp keepB.lg) j hj
/-- the first m units are accepted, one after the other -/
def SR (D0 : Dd) : Nat → Dd → Prop
  | 0, D => D = D0
  | m + 1, D => ∃ D', SR D0 m D' ∧ RFo D' m (some (vI 0)) D
theorem SR.keep {D0 : Dd} (h : SI D0) : ∀ {m : Nat} {D : Dd}, m ≤ 16 → SR D0 m D → smC D0 D ∧ SI D ∧ dpW D m
  | 0, D, _, hr => by have hr : D = D0 := hr; subst hr; exact ⟨smC.rf D, h, fun v hv => by omega⟩
  | m + 1, D, hm, hr => by
    obtain ⟨D', h1, h2⟩ := hr
    have ih := SR.keep h (m := m) (by omega) h1
    have h3 := RFo.keep ih.2.1 (by omega) ih.2.2 h2
    exact ⟨ih.1.tr h3.1, h3.2.1, h3.2.2⟩
/-- what search answers: from the numbers D0, forgotten -/
def SRo (D0 : Dd) (r : Option AV) (D2 : Dd) : Prop :=
  (∃ (m : Nat) (D' : Dd), (m : Int) < D0 1 7 ∧ SR D0 m D' ∧ RFo D' m (some (vI 1)) D2 ∧ some (vI (D2 264 6)) = r) ∨
  (∃ D', SR D0 (D0 1 7).toNat D' ∧ upD D' 264 5 1 = D2 ∧ some (vI 0) = r)
theorem SI.fg {D : Dd} (h : SI D) : SI (fgD D) := by
  have k : ∀ a b, a ≠ 264 → fgD D a b = D a b := fun a b ha => by
    unfold fgD fdD
    rw [upD_k ha, upD_k ha, upD_k ha, upD_k ha]
  have s : smC D (fgD D) := fun a b ha => k a b (by omega)
  obtain ⟨hI, hf, h0, hw⟩ := h
  exact ⟨in_sm s hI, hf.sm s, by rw [s _ _ (by decide)]; exact h0, hw.kp (fun a b h1 h2 => k a b (by omega))⟩
theorem RFo.r {D D2 : Dd} {u : Int} {r : Option AV} (h : RFo D u r D2) : r = some (vI 0) ∨ r = some (vI 1) := by
  rcases h with ⟨_, h, _⟩ | ⟨_, ⟨i, _, _, _, _, h, _⟩ | ⟨_, D1, _, ⟨i, _, _, _, _, h, _⟩ | ⟨_, ⟨i, _, _, _, h, _⟩ | ⟨_, ⟨_, h, _⟩ | ⟨_, h, _⟩⟩⟩⟩⟩
  · exact Or.inr h.symm
  · exact Or.inr h.symm
  · exact Or.inr h.symm
  · exact Or.inr h.symm
  · exact Or.inr h.symm
  · exact Or.inl h.symm

set_option maxRecDepth 100000 in
set_option maxHeartbeats 4000000 in
theorem l_search {X : Cx} {Q : State → Prop} {P : Option AV → Dd → Prop} (hX : GX X yX5_search cX5_search 2 (some .int) 7 0 0) (hF : FX X Q P) (D0 : Dd) (hS : SI D0) (hyes : ∀ r D2, SRo D0 r D2 → P r D2) : ∀ (m : Nat) (i : Nat) (D : Dd), (D0 1 7 - i).toNat < m → (i : Int) ≤ D0 1 7 → SR D0 i D → W0 X Q 6 [vR 264, vI i] [] D := by
  intro m
  induction m with
  | zero =>
    intro i D hm h0 hr
    exact absurd hm (Nat.not_lt_zero _)
  | succ m ih =>
    intro i D hm h0 hr
    have zq_7 := hS.1.1
    have zq_k := SR.keep hS (by omega) hr
    have zq_u : D 1 7 = D0 1 7 := zq_k.1 _ _ (by decide)
    refine w_iload_n (i := 1) hX dX5_search_6 rfl rfl rfl ?_
    refine w_aload_n (i := 0) hX dX5_search_7 rfl rfl rfl ?_
    refine w_getR (j := 0) hX cl4 fl_RX5_18_4 rfl (by decide) rfl rfl dX5_search_8 rfl ?_
    refine w_getI (j := 7) hX cl0 fl_RX5_69_0 rfl (by decide) rfl dX5_search_11 rfl ?_
    rw [zq_u]
    refine w_icmp_ge (tgt := 36) hX dX5_search_14 rfl (by decide) (fun h14 => ?_) (fun h14 => ?_)
    · refine w_aload_n (i := 0) hX dX5_search_36 rfl rfl rfl ?_
      refine w_iconst hX dX5_search_37 rfl (by decide) ?_
      refine w_putI (j := 5) hX cl4 fl_RX5_52_4 rfl (by decide) rfl rfl (Or.inr ⟨rfl, (by decide)⟩) dX5_search_38 rfl ?_
      refine w_iconst hX dX5_search_41 rfl (by decide) ?_
      exact e_i hX hF dX5_search_42 (hyes _ _ (Or.inr ⟨D, by rw [show (D0 1 7).toNat = i by omega]; exact hr, rfl, rfl⟩))
    · refine w_aload_n (i := 0) hX dX5_search_17 rfl rfl rfl ?_
      refine w_iload_n (i := 1) hX dX5_search_18 rfl rfl rfl ?_
      refine c_V hX ml_RX5_72 cl4 dX5_search_19 rfl (m_isRefused D zq_k.2.1.1 zq_k.2.1.2.1 i (by omega) zq_k.2.1.2.2.1 zq_k.2.2 zq_k.2.1.2.2.2) rfl rfl rfl (by decide) (Nat.le_of_ble_eq_true rfl) ?_
      rintro r D2 zq_r -
      rcases zq_r.r with rfl | rfl
      all_goals try dsimp only [Option.toList, List.cons_append, List.nil_append]
      · refine w_if_eq (tgt := 30) hX dX5_search_22 rfl (by decide) (fun _ => ?_) (fun h22 => absurd (by decide) h22)
        refine w_iinc hX dX5_search_30 rfl rfl (by decide) (by omega) ?_
        dsimp only [st1X, st2X, klX_I, klX_L, klX_R, klX_S, klX_N]
        refine w_goto (tgt := 6) hX dX5_search_33 (by decide) ?_
        exact ih (i + 1) D2 (by omega) (by omega) ⟨D, hr, zq_r⟩
      · refine w_if_eq (tgt := 30) hX dX5_search_22 rfl (by decide) (fun h22 => absurd h22 (by decide)) (fun _ => ?_)
        refine w_aload_n (i := 0) hX dX5_search_25 rfl rfl rfl ?_
        refine w_getI (j := 6) hX cl4 fl_RX5_75_4 rfl (by decide) rfl dX5_search_26 rfl ?_
        exact e_i hX hF dX5_search_29 (hyes _ _ (Or.inl ⟨i, D, by omega, hr, zq_r, rfl⟩))

set_option maxRecDepth 100000 in
set_option maxHeartbeats 4000000 in
theorem m_search (D : Dd) (hS : SI D) : MC 7 yX5_search cX5_search 2 (some .int) [vR 264] D (fun r D2 => SRo (fgD D) r D2) := by
  refine MC.mk [vR 264, vN] (by decide) (Nat.le_of_ble_eq_true rfl) rfl (fun X Q hX hF hok hol => ?_)
  have zq_7 := hS.fg.1.1
  refine w_aload_n (i := 0) hX dX5_search_0 rfl rfl rfl ?_
  refine c_V hX ml_RX5_66 cl4 dX5_search_1 rfl (m_forget D) rfl rfl rfl (by decide) (Nat.le_of_ble_eq_true rfl) ?_
  rintro _ _ ⟨rfl, rfl⟩ -
  all_goals try dsimp only [Option.toList, List.cons_append, List.nil_append]
  refine w_iconst hX dX5_search_4 rfl (by decide) ?_
  refine w_istore_n (i := 1) hX dX5_search_5 rfl rfl (by decide) ?_
  dsimp only [st1X, st2X, klX_I, klX_L, klX_R, klX_S, klX_N]
  exact l_search hX hF (fgD D) hS.fg (fun r D2 zq_h => zq_h) _ 0 _ (Nat.lt_succ_self _) (by omega) rfl

set_option maxRecDepth 100000 in
set_option maxHeartbeats 4000000 in
theorem f_prove (D : Dd) (hS : SI D) : MC 8 yX9_prove cX9_prove 1 (some .int) [vR 0] D (fun r D2 => SRo (fgD D) r D2 ∧ ∃ x, r = some (vI x)) := by
  refine MC.mk [vR 0] (by decide) (Nat.le_of_ble_eq_true rfl) rfl (fun X Q hX hF hok hol => ?_)
  refine w_aload_n (i := 0) hX dX9_prove_0 rfl rfl rfl ?_
  refine w_getR (j := 1) hX cl8 fl_RX9_21_8 rfl (by decide) rfl rfl dX9_prove_1 rfl ?_
  refine c_V hX ml_RX9_61 cl4 dX9_prove_4 rfl (m_search D hS) rfl rfl rfl (by decide) (Nat.le_of_ble_eq_true rfl) ?_
  rintro r D2 zq_r -
  obtain ⟨zq_x, rfl⟩ : ∃ x, r = some (vI x) := by
    rcases zq_r with ⟨_, _, _, _, _, h⟩ | ⟨_, _, _, h⟩
    · exact ⟨_, h.symm⟩
    · exact ⟨_, h.symm⟩
  all_goals try dsimp only [Option.toList, List.cons_append, List.nil_append]
  exact e_i hX hF dX9_prove_7 ⟨zq_r, _, rfl⟩
