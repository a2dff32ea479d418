/-! Proof: the stack pass over a unit; a unit; the search -/
/-- the numbers behind the first m instructions -/
noncomputable def stW (u : Int) : Nat → Dd → Dd
  | 0, D => D
  | m + 1, D => skD (stW u m D) u m
def dpV (D : Dd) (e : Int) : Prop := ∀ v : Nat, (v : Int) ≤ e → 0 ≤ D 270 v ∧ D 270 v ≤ 64 * (v + 1)
theorem dpV.B {D : Dd} {e : Int} (h : dpV D e) (he : e < 16) : dpB D e := fun v hv => by have := h v hv; omega
theorem keepS.sk {D : Dd} {u i : Int} : keepS D (skD D u i) := by
  unfold skD
  by_cases h : D 269 i.toNat = -1
  · rw [it_t h]; exact keepS.rf D
  · rw [it_f h]
    by_cases h2 : (D (atF D u i) 0) = 15 ∨ (D (atF D u i) 0) = 16
    · rw [it_t h2]; exact (keepS.cme.tr keepS.nd).tr keepS.nd
    · rw [it_f h2]; exact keepS.cme.tr keepS.nd
theorem keepS.st {u : Int} : ∀ {m : Nat} {D : Dd}, keepS D (stW u m D)
  | 0, D => keepS.rf D
  | m + 1, D => (keepS.st (m := m)).tr keepS.sk
/-- depths are none, or 0 to 64 -/
def dzB (D : Dd) (sz : Int) : Prop := ∀ j : Nat, (j : Int) ≤ sz → -1 ≤ D 269 j ∧ D 269 j ≤ 64
theorem dzB.cm {D : Dd} {sz t d : Int} (h : dzB D sz) (hd : 0 ≤ d ∧ d ≤ 64) : dzB (cmD D t d) sz := fun j hj => by
  unfold cmD
  split
  · rw [upD_rd, if_pos rfl]
    split
    · omega
    · exact h j hj
  · exact h j hj
theorem dzB.cme {sz d : Int} (hd : 0 ≤ d ∧ d ≤ 64) : ∀ {r : List Int} {D : Dd}, dzB D sz → dzB (cmE d D r) sz
  | [], _, h => h
  | _ :: r, _, h => dzB.cme hd (r := r) (h.cm hd)
theorem dzB.nd {D : Dd} {sz u x : Int} (h : dzB D sz) : dzB (ndF D u x) sz := fun j hj => by
  unfold ndF
  split
  · rw [upD_k (by decide)]; exact h j hj
  · exact h j hj
theorem dpV.cm {D : Dd} {t d e : Int} (h : dpV D e) : dpV (cmD D t d) e := fun v hv => by
  unfold cmD
  split
  · rw [upD_k (by decide)]; exact h v hv
  · exact h v hv
theorem dpV.cme {d e : Int} : ∀ {r : List Int} {D : Dd}, dpV D e → dpV (cmE d D r) e
  | [], _, h => h
  | _ :: r, _, h => dpV.cme (r := r) h.cm
theorem dpV.nd {D : Dd} {u x e : Int} (h : dpV D e) (hx : 0 ≤ x ∧ (0 ≤ u → x ≤ 64 * (u + 1))) : dpV (ndF D u x) e := fun v hv => by
  unfold ndF
  split
  · rename_i hq
    rw [upD_rd, if_pos rfl]
    split
    · rename_i e
      have := hx.2 hq.1.1
      omega
    · exact h v hv
  · exact h v hv
theorem sk_0 {D : Dd} {u i : Int} (h : skF D u i = 0) (hn : D 269 i.toNat ≠ -1) : tk ((D (atF D u i) 0)) ≤ D 269 i.toNat ∧ D 269 i.toNat - tk ((D (atF D u i) 0)) + lf ((D (atF D u i) 0)) ≤ 64 ∧ cmL (D 269 i.toNat - tk ((D (atF D u i) 0)) + lf ((D (atF D u i) 0))) D (tgF ((D (atF D u i) 0)) i ((D (atF D u i) 1)) ((D (atF D u i) 2)) (D 268 3)) := by
  unfold skF at h
  rw [it_f hn] at h
  by_cases h1 : D 269 i.toNat < tk ((D (atF D u i) 0))
  · rw [it_t h1] at h; omega
  · rw [it_f h1] at h
    by_cases h2 : 64 < D 269 i.toNat - tk ((D (atF D u i) 0)) + lf ((D (atF D u i) 0))
    · rw [it_t h2] at h; omega
    · rw [it_f h2] at h
      refine ⟨by omega, by omega, Classical.byContradiction (fun q => ?_)⟩
      rw [it_t q] at h; omega
theorem dzB.sk {D : Dd} {sz u i : Int} (h : dzB D sz) (hi : 0 ≤ i ∧ i < sz) (h0 : skF D u i = 0) : dzB (skD D u i) sz := by
  unfold skD
  by_cases hq : D 269 i.toNat = -1
  · rw [it_t hq]; exact h
  · have h1 := sk_0 h0 hq
    have h2 := lf_in ((D (atF D u i) 0))
    rw [it_f hq]
    by_cases h3 : (D (atF D u i) 0) = 15 ∨ (D (atF D u i) 0) = 16
    · rw [it_t h3]; exact ((h.cme (by omega)).nd).nd
    · rw [it_f h3]; exact (h.cme (by omega)).nd
theorem dpV.sk {D : Dd} {sz u i : Int} (h : dpV D u) (hz : dzB D sz) (hi : 0 ≤ i ∧ i < sz) (hu : 0 ≤ u ∧ u < 16) (ha : (D (atF D u i) 0) = 15 ∨ (D (atF D u i) 0) = 16 → 0 ≤ (D (atF D u i) 1) ∧ (D (atF D u i) 1) < u) (h0 : skF D u i = 0) : dpV (skD D u i) u := by
  unfold skD
  by_cases hq : D 269 i.toNat = -1
  · rw [it_t hq]; exact h
  · have h1 := sk_0 h0 hq
    have h2 := lf_in ((D (atF D u i) 0))
    have h4 := hz i.toNat (by omega)
    rw [it_f hq]
    have hb : dpV (ndF (cmE (D 269 i.toNat - tk ((D (atF D u i) 0)) + lf ((D (atF D u i) 0))) D (tgF ((D (atF D u i) 0)) i ((D (atF D u i) 1)) ((D (atF D u i) 2)) (D 268 3))) u (D 269 i.toNat - tk ((D (atF D u i) 0)) + lf ((D (atF D u i) 0)))) u := h.cme.nd ⟨by omega, by omega⟩
    by_cases h3 : (D (atF D u i) 0) = 15 ∨ (D (atF D u i) 0) = 16
    · rw [it_t h3]
      have h5 := ha h3
      refine hb.nd ?_
      unfold gtF
      rw [if_pos (by omega)]
      have h6 := hb ((D (atF D u i) 1)).toNat (by omega)
      omega
    · rw [it_f h3]; exact hb
/-- the stack pass begins -/
theorem so_keep (D : Dd) (u : Int) : ∀ k j, k ≠ 269 → k ≠ 270 → k ≠ 268 → soD D u k j = D k j := fun k j h1 h2 h3 => by
  unfold soD
  rw [upD_k h2, upD_k h1, upD_k h1, flD_ne h1, upD_k h3]
theorem so_sm (D : Dd) (u : Int) : smC D (soD D u) := fun k j hk => so_keep D u k j (by omega) (by omega) (by omega)
theorem so_dz (D : Dd) (u : Int) (sz : Int) (h : sz = szF D u) : dzB (soD D u) sz := fun j hj => by
  unfold soD
  rw [upD_k (by decide), upD_rd, if_pos rfl]
  split
  · omega
  · rw [upD_rd, if_pos rfl]
    split
    · omega
    · unfold flD
      rw [if_pos ⟨rfl, by omega, by omega⟩]
      omega
theorem so_st (D : Dd) (u : Int) : soD D u 268 3 = szF D u := by
  unfold soD
  rw [upD_k (by decide), upD_k (by decide), upD_k (by decide), flD_ne (by decide), upD_eq]
def dpW (D : Dd) (e : Int) : Prop := ∀ v : Nat, (v : Int) < e → 0 ≤ D 270 v ∧ D 270 v ≤ 64 * (v + 1)
theorem so_dp {D : Dd} {u : Int} (h : dpW D u) : dpV (soD D u) u := fun v hv => by
  unfold soD
  rw [upD_rd, if_pos rfl]
  split
  · omega
  · rw [upD_k (by decide), upD_k (by decide), flD_ne (by decide), upD_k (by decide)]; exact h v (by omega)

set_option maxRecDepth 100000 in
set_option maxHeartbeats 4000000 in
theorem l_stopsStack {X : Cx} {Q : State → Prop} {P : Option AV → Dd → Prop} (hX : GX X yX5_stopsIn cX5_stopsIn 6 (some .boolean) 5 0 0) (hF : FX X Q P) (D : Dd) (hI : InC D) (u : Int) (hu : 0 ≤ u ∧ u < 16) (hln : okLn D u) (hyes : ∀ r D2, ((∃ i : Nat, (i : Int) < szF D u ∧ skF (stW u i (soD D u)) u i ≠ 0 ∧ (∀ j : Nat, j < i → skF (stW u j (soD D u)) u j = 0) ∧ some (vI 1) = r ∧ ∃ D1, keepS (soD D u) D1 ∧ fdD D1 (skF (stW u i (soD D u)) u i) u i = D2) ∨ ((∀ j : Nat, (j : Int) < szF D u → skF (stW u j (soD D u)) u j = 0) ∧ some (vI 0) = r ∧ stW u (szF D u).toNat (soD D u) = D2)) → P r D2) : ∀ (m : Nat) (i : Nat) (w1 : AV), (szF D u - i).toNat < m → (i : Int) ≤ szF D u → (∀ j : Nat, j < i → skF (stW u j (soD D u)) u j = 0) → dzB (stW u i (soD D u)) (szF D u) → dpV (stW u i (soD D u)) u → W0 X Q 17 [vR 264, vR 268, vI u, vI (szF D u), vI i, w1] [] (stW u i (soD D u)) := by
  intro m
  induction m with
  | zero =>
    intro i w1 hm h0 hn hdz hdp
    exact absurd hm (Nat.not_lt_zero _)
  | succ m ih =>
    intro i w1 hm h0 hn hdz hdp
    have zq_z := sz_256 hI u
    have zq_k : smC D (stW u i (soD D u)) := (so_sm D u).tr (keepS.st (m := i)).sm
    have zq_I := in_sm zq_k hI
    have zq_s : stW u i (soD D u) 268 3 = szF (stW u i (soD D u)) u := by rw [sz_sm zq_k, keepS.st (m := i) _ _ (by decide) (by decide)]; exact so_st D u
    refine w_iload hX dX5_stopsIn_17 rfl rfl ?_
    refine w_iload_n (i := 3) hX dX5_stopsIn_19 rfl rfl rfl ?_
    refine w_icmp_ge (tgt := 53) hX dX5_stopsIn_20 rfl (by decide) (fun h20 => ?_) (fun h20 => ?_)
    · refine w_iconst hX dX5_stopsIn_53 rfl (by decide) ?_
      exact e_z hX hF dX5_stopsIn_54 (by decide) (hyes _ _ (Or.inr ⟨fun j zq_1 => hn j (by omega), rfl, by rw [show (szF D u).toNat = i by omega]⟩))
    · refine w_aload_n (i := 1) hX dX5_stopsIn_23 rfl rfl rfl ?_
      refine w_iload_n (i := 2) hX dX5_stopsIn_24 rfl rfl rfl ?_
      refine w_iload hX dX5_stopsIn_25 rfl rfl ?_
      refine c_A hX al_RX5_120_5 cl5 dX5_stopsIn_27 rfl (m_stackAt (stW u i (soD D u)) zq_I u i zq_s (by rw [sz_sm zq_k]; omega) (by rw [f_sm zq_k hI]; have zq_w := (ln_0 (hln i (by omega) (by omega))).1; unfold wfP at zq_w; omega) (by rw [sz_sm zq_k]; exact fun j zq_j => hdz j (by omega)) (hdp.B hu.2) (by rw [f_sm zq_k hI, f_sm zq_k hI]; have zq_w := (ln_0 (hln i (by omega) (by omega))).2.1; unfold wuP at zq_w; omega)) rfl rfl rfl (by decide) (Nat.le_of_ble_eq_true rfl) ?_
      rintro r D1 ⟨rfl, zq_ks, zq_kd⟩ -
      all_goals try dsimp only [Option.toList, List.cons_append, List.nil_append]
      refine w_istore hX dX5_stopsIn_30 rfl (by decide) ?_
      dsimp only [st1X, st2X, klX_I, klX_L, klX_R, klX_S, klX_N]
      refine w_iload hX dX5_stopsIn_32 rfl rfl ?_
      refine w_if_eq (tgt := 47) hX dX5_stopsIn_34 rfl (by decide) (fun h34 => ?_) (fun h34 => ?_)
      · have zq_e2 := zq_kd h34
        subst zq_e2
        refine w_iinc hX dX5_stopsIn_47 rfl rfl (by decide) (by omega) ?_
        dsimp only [st1X, st2X, klX_I, klX_L, klX_R, klX_S, klX_N]
        refine w_goto (tgt := 17) hX dX5_stopsIn_50 (by decide) ?_
        exact ih (i + 1) _ (by omega) (by omega) (fun j zq_1 => by
          by_cases zq_e : j = i
          · subst zq_e; exact h34
          · exact hn j (by omega)) (hdz.sk (by omega) h34) (hdp.sk hdz (by omega) hu (by rw [f_sm zq_k hI, f_sm zq_k hI]; have zq_w := (ln_0 (hln i (by omega) (by omega))).2.1; unfold wuP at zq_w; omega) h34)
      · refine w_aload_n (i := 0) hX dX5_stopsIn_37 rfl rfl rfl ?_
        refine w_iload hX dX5_stopsIn_38 rfl rfl ?_
        refine w_iload_n (i := 2) hX dX5_stopsIn_40 rfl rfl rfl ?_
        refine w_iload hX dX5_stopsIn_41 rfl rfl ?_
        refine c_V hX ml_RX5_56 cl4 dX5_stopsIn_43 rfl (m_found D1 (skF (stW u i (soD D u)) u i) u i) rfl rfl rfl (by decide) (Nat.le_of_ble_eq_true rfl) ?_
        rintro _ _ ⟨rfl, rfl⟩ -
        all_goals try dsimp only [Option.toList, List.cons_append, List.nil_append]
        exact e_z hX hF dX5_stopsIn_46 (b2_01 _) (hyes _ _ (Or.inl ⟨i, by omega, h34, hn, by rw [b2_t h34], D1, keepS.st.tr zq_ks, rfl⟩))

set_option maxRecDepth 100000 in
set_option maxHeartbeats 4000000 in
theorem m_stopsStack (D : Dd) (hI : InC D) (u : Int) (hu : 0 ≤ u ∧ u < 16) (hln : okLn D u) (hdp : dpW D u) : MC 5 yX5_stopsIn cX5_stopsIn 6 (some .boolean) [vR 264, vR 268, vI u] D (fun r D2 => (∃ i : Nat, (i : Int) < szF D u ∧ skF (stW u i (soD D u)) u i ≠ 0 ∧ (∀ j : Nat, j < i → skF (stW u j (soD D u)) u j = 0) ∧ some (vI 1) = r ∧ ∃ D1, keepS (soD D u) D1 ∧ fdD D1 (skF (stW u i (soD D u)) u i) u i = D2) ∨ ((∀ j : Nat, (j : Int) < szF D u → skF (stW u j (soD D u)) u j = 0) ∧ some (vI 0) = r ∧ stW u (szF D u).toNat (soD D u) = D2)) := by
  refine MC.mk [vR 264, vR 268, vI u, vN, vN, vN] (by decide) (Nat.le_of_ble_eq_true rfl) rfl (fun X Q hX hF hok hol => ?_)
  have zq_z := sz_256 hI u
  refine w_aload_n (i := 1) hX dX5_stopsIn_0 rfl rfl rfl ?_
  refine w_iload_n (i := 2) hX dX5_stopsIn_1 rfl rfl rfl ?_
  refine c_A hX al_RX5_111_5 cl5 dX5_stopsIn_2 rfl (m_stackOpen D hI u hu) rfl rfl rfl (by decide) (Nat.le_of_ble_eq_true rfl) ?_
  rintro _ _ ⟨rfl, rfl⟩ -
  all_goals try dsimp only [Option.toList, List.cons_append, List.nil_append]
  refine w_aload_n (i := 0) hX dX5_stopsIn_5 rfl rfl rfl ?_
  refine w_getR (j := 0) hX cl4 fl_RX5_18_4 rfl (by decide) rfl rfl dX5_stopsIn_6 rfl ?_
  refine w_iload_n (i := 2) hX dX5_stopsIn_9 rfl rfl rfl ?_
  refine c_V hX ml_RX5_117 cl0 dX5_stopsIn_10 rfl (m_sizeOf (soD D u) (in_sm (so_sm D u) hI) u) rfl rfl rfl (by decide) (Nat.le_of_ble_eq_true rfl) ?_
  rintro _ _ ⟨rfl, rfl⟩ -
  rw [sz_sm (so_sm D u)]
  all_goals try dsimp only [Option.toList, List.cons_append, List.nil_append]
  refine w_istore_n (i := 3) hX dX5_stopsIn_13 rfl rfl (by decide) ?_
  dsimp only [st1X, st2X, klX_I, klX_L, klX_R, klX_S, klX_N]
  refine w_iconst hX dX5_stopsIn_14 rfl (by decide) ?_
  refine w_istore hX dX5_stopsIn_15 rfl (by decide) ?_
  dsimp only [st1X, st2X, klX_I, klX_L, klX_R, klX_S, klX_N]
  exact l_stopsStack hX hF D hI u hu hln (fun r D2 zq_h => zq_h) _ 0 _ (Nat.lt_succ_self _) (by omega) (fun j zq_1 => by omega) (so_dz D u _ rfl) (so_dp hdp)
