/-! The reference: unitFault -/
theorem lnM_in (D : Dd) (k u : Int) : 0 ≤ lnM D k u := by
  unfold lnM itP
  split
  · omega
  · split
    · omega
    · split
      · omega
      · split
        · omega
        · split <;> omega
theorem lnM_0 {D : Dd} {k u : Int} (h : lnM D k u = 0) : ¬ wfP ((D 283 (D 279 10 + k).toNat)) ((D 284 (D 279 10 + k).toNat)) ((D 285 (D 279 10 + k).toNat)) ((D 286 (D 279 10 + k).toNat)) ∧ ¬ wuM D u ((D 283 (D 279 10 + k).toNat)) ((D 284 (D 279 10 + k).toNat)) ∧ ¬ coM D u ((D 283 (D 279 10 + k).toNat)) ((D 284 (D 279 10 + k).toNat)) ((D 285 (D 279 10 + k).toNat)) ((D 286 (D 279 10 + k).toNat)) ∧ ¬ ctM D u ((D 283 (D 279 10 + k).toNat)) ((D 284 (D 279 10 + k).toNat)) ((D 285 (D 279 10 + k).toNat)) ((D 286 (D 279 10 + k).toNat)) ∧ ¬ gwM D k ((D 283 (D 279 10 + k).toNat)) ((D 284 (D 279 10 + k).toNat)) ((D 285 (D 279 10 + k).toNat)) := by
  unfold lnM at h
  have h1 : ¬ wfP ((D 283 (D 279 10 + k).toNat)) ((D 284 (D 279 10 + k).toNat)) ((D 285 (D 279 10 + k).toNat)) ((D 286 (D 279 10 + k).toNat)) := fun q => by rw [it_t q] at h; cases h
  rw [it_f h1] at h
  have h2 : ¬ wuM D u ((D 283 (D 279 10 + k).toNat)) ((D 284 (D 279 10 + k).toNat)) := fun q => by rw [it_t q] at h; cases h
  rw [it_f h2] at h
  have h3 : ¬ coM D u ((D 283 (D 279 10 + k).toNat)) ((D 284 (D 279 10 + k).toNat)) ((D 285 (D 279 10 + k).toNat)) ((D 286 (D 279 10 + k).toNat)) := fun q => by rw [it_t q] at h; cases h
  rw [it_f h3] at h
  have h4 : ¬ ctM D u ((D 283 (D 279 10 + k).toNat)) ((D 284 (D 279 10 + k).toNat)) ((D 285 (D 279 10 + k).toNat)) ((D 286 (D 279 10 + k).toNat)) := fun q => by rw [it_t q] at h; cases h
  rw [it_f h4] at h
  have h5 : ¬ gwM D k ((D 283 (D 279 10 + k).toNat)) ((D 284 (D 279 10 + k).toNat)) ((D 285 (D 279 10 + k).toNat)) := fun q => by rw [it_t q] at h; cases h
  exact ⟨h1, h2, h3, h4, h5⟩
def mkLn (D : Dd) (u : Int) : Prop := ∀ j : Int, 0 ≤ j → j < D 279 11 → lnM D j u = 0
def mkLp (D : Dd) : Prop := ∀ j : Int, 0 ≤ j → j < D 279 11 → ¬ lpM D j
theorem mkLn.V3 {D : Dd} {u : Int} (h : mkLn D u) : V3 D := fun j h0 h1 h2 => by
  have q := (lnM_0 (h j h0 h1)).2.2.2.2
  unfold gwM at q
  omega
theorem mkLn.L {D : Dd} {u : Int} (h : mkLn D u) (hF : FM D) {k : Int} (h0 : 0 ≤ k) (h1 : k < D 279 11) : LOK D u k := by
  have q := lnM_0 (h k h0 h1)
  have q1 := q.1
  have q2 := q.2.1
  have q5 := q.2.2.2.2
  clear q
  unfold gwM at q5
  unfold wuM at q2
  unfold wfP at q1
  unfold FM at hF
  unfold LOK
  omega
/-- the numbers of a unit's pass -/
def frD (D : Dd) (u : Int) : Dd := upD (upD D 279 10 (D 282 u.toNat)) 279 11 (D 282 (u + 1).toNat - D 282 u.toNat)
def fiD (D : Dd) (k : Int) : Dd := fun a b => if a = 287 ∧ (b : Int) < k then (if b = 0 then 0 else -1) else D a b
theorem fi_0 (D : Dd) : fiD D 0 = D := by
  funext a b
  unfold fiD
  rw [if_neg (by omega)]
theorem fi_s (D : Dd) (k : Int) (h0 : 0 ≤ k) : upD (fiD D k) 287 k.toNat (if k = 0 then 0 else -1) = fiD D (k + 1) := by
  funext a b
  unfold fiD
  rw [upD_rd]
  by_cases h : a = 287
  · rw [if_pos h]
    by_cases h2 : b = k.toNat
    · rw [if_pos h2, if_pos (show a = 287 ∧ (b : Int) < k + 1 from ⟨h, by omega⟩)]
      by_cases h3 : k = 0
      · rw [if_pos h3, if_pos (show b = 0 by omega)]
      · rw [if_neg h3, if_neg (show ¬ b = 0 by omega)]
    · rw [if_neg h2]
      by_cases h3 : (b : Int) < k
      · rw [if_pos (show a = 287 ∧ (b : Int) < k from ⟨h, h3⟩), if_pos (show a = 287 ∧ (b : Int) < k + 1 from ⟨h, by omega⟩)]
      · rw [if_neg (show ¬ (a = 287 ∧ (b : Int) < k) by omega), if_neg (show ¬ (a = 287 ∧ (b : Int) < k + 1) by omega)]
  · rw [if_neg h, if_neg (show ¬ (a = 287 ∧ (b : Int) < k) by omega), if_neg (show ¬ (a = 287 ∧ (b : Int) < k + 1) by omega)]
theorem fi_k {D : Dd} {k : Int} {a b : Nat} (h : a ≠ 287) : fiD D k a b = D a b := by
  unfold fiD
  rw [if_neg (by omega)]
/-- the stack pass begins -/
def moD (D : Dd) (u : Int) : Dd := upD (fiD D (D 279 11 + 1)) 291 u.toNat 0
theorem keepR.mo (D : Dd) (u : Int) : keepR D (moD D u) := fun a b h1 h2 => by
  unfold moD
  rw [upD_k h2, fi_k h1]
noncomputable def sfM (D : Dd) (u k : Int) : Int := if D 287 k.toNat < 0 then 0 else skM D k u ((D 283 (D 279 10 + k).toNat)) ((D 284 (D 279 10 + k).toNat)) ((D 285 (D 279 10 + k).toNat))
noncomputable def sdM (D : Dd) (u k : Int) : Dd := if D 287 k.toNat < 0 then D else skMD D k u ((D 283 (D 279 10 + k).toNat)) ((D 284 (D 279 10 + k).toNat)) ((D 285 (D 279 10 + k).toNat))
theorem keepR.sd (D : Dd) (u k : Int) : keepR D (sdM D u k) := by
  unfold sdM
  split
  · exact keepR.rf D
  · unfold skMD
    exact keepR.nd.tr keepR.cme
noncomputable def stM (u : Int) : Nat → Dd → Dd
  | 0, D => D
  | m + 1, D => sdM (stM u m D) u m
theorem keepR.st {u : Int} : ∀ {m : Nat} {D : Dd}, keepR D (stM u m D)
  | 0, D => keepR.rf D
  | m + 1, D => (keepR.st (m := m)).tr (keepR.sd _ u m)
def dzM (D : Dd) (m : Int) : Prop := ∀ j : Nat, (j : Int) ≤ m → -1 ≤ D 287 j ∧ D 287 j ≤ 64
def dpM (D : Dd) (e : Int) : Prop := ∀ v : Nat, (v : Int) ≤ e → 0 ≤ D 291 v ∧ D 291 v ≤ 64 * (v + 1)
theorem dzM.cm {D : Dd} {m t d : Int} (h : dzM D m) (hd : 0 ≤ d ∧ d ≤ 64) : dzM (cmMD D t d) m := fun j hj => by
  unfold cmMD
  split
  · rw [upD_rd, if_pos rfl]
    split
    · omega
    · exact h j hj
  · exact h j hj
theorem dzM.cme {m d : Int} (hd : 0 ≤ d ∧ d ≤ 64) : ∀ {r : List Int} {D : Dd}, dzM D m → dzM (cmEM d D r) m
  | [], _, h => h
  | _ :: r, _, h => dzM.cme hd (r := r) (h.cm hd)
theorem dzM.nd {D : Dd} {m u x : Int} (h : dzM D m) : dzM (ndM D u x) m := fun j hj => by
  unfold ndM
  rw [upD_k (by decide)]
  exact h j hj
theorem dpM.cm {D : Dd} {t d e : Int} (h : dpM D e) : dpM (cmMD D t d) e := fun v hv => by
  unfold cmMD
  split
  · rw [upD_k (by decide)]
    exact h v hv
  · exact h v hv
theorem dpM.cme {d e : Int} : ∀ {r : List Int} {D : Dd}, dpM D e → dpM (cmEM d D r) e
  | [], _, h => h
  | _ :: r, _, h => dpM.cme (r := r) h.cm
theorem dpM.nd {D : Dd} {u x e : Int} (h : dpM D e) (hu : 0 ≤ u) (hx : 0 ≤ x ∧ x ≤ 64 * (u + 1)) : dpM (ndM D u x) e := fun v hv => by
  unfold ndM
  rw [upD_rd, if_pos rfl]
  have h1 := h v hv
  split
  · rename_i e
    subst e
    split <;> omega
  · exact h1
theorem skM_0 {D : Dd} {k u n a b : Int} (h : skM D k u n a b = 0) : ¬ D 287 k.toNat < tk n ∧ ¬ 64 < D 287 k.toNat - tk n + lf n ∧ cmLM (D 287 k.toNat - tk n + lf n) (ndM D u (D 287 k.toNat - tk n + lf n + mrF D n a)) (tgM n k a b (D 279 11)) := by
  unfold skM at h
  have h1 : ¬ D 287 k.toNat < tk n := fun q => by rw [it_t q] at h; cases h
  rw [it_f h1] at h
  have h2 : ¬ 64 < D 287 k.toNat - tk n + lf n := fun q => by rw [it_t q] at h; cases h
  rw [it_f h2] at h
  refine ⟨h1, h2, Classical.byContradiction fun q => ?_⟩
  rw [it_t q] at h
  cases h
theorem skM_in (D : Dd) (k u n a b : Int) : 0 ≤ skM D k u n a b := by
  unfold skM itP
  split
  · omega
  · split
    · omega
    · split <;> omega
theorem sfM_in (D : Dd) (u k : Int) : 0 ≤ sfM D u k := by
  unfold sfM
  split
  · omega
  · exact skM_in _ _ _ _ _ _
theorem sd_B {D : Dd} {u k m : Int} (hz : dzM D m) (hp : dpM D u) (hu : 0 ≤ u ∧ u < 16) (hL : LOK D u k) (h0 : sfM D u k = 0) : dzM (sdM D u k) m ∧ dpM (sdM D u k) u := by
  unfold sfM at h0
  unfold sdM
  by_cases e : D 287 k.toNat < 0
  · rw [if_pos e]; exact ⟨hz, hp⟩
  · rw [if_neg e] at h0 ⊢
    have q := skM_0 h0
    have q1 := lf_in ((D 283 (D 279 10 + k).toNat))
    have q2 := tk_in ((D 283 (D 279 10 + k).toNat))
    have hx : 0 ≤ mrF D ((D 283 (D 279 10 + k).toNat)) ((D 284 (D 279 10 + k).toNat)) ∧ mrF D ((D 283 (D 279 10 + k).toNat)) ((D 284 (D 279 10 + k).toNat)) ≤ 64 * u := by
      unfold mrF
      split
      · rename_i z
        have hl := hL.2.2.2 z
        have := hp ((D 284 (D 279 10 + k).toNat)).toNat (by omega)
        omega
      · omega
    unfold skMD
    exact ⟨(hz.nd).cme (by omega), (hp.nd hu.1 (by omega)).cme⟩
theorem LOK.kp {D D2 : Dd} {u k : Int} (h : LOK D u k) (hk : keepR D D2) : LOK D2 u k := by
  unfold LOK
  rw [hk _ _ (by decide) (by decide), hk _ _ (by decide) (by decide), hk _ _ (by decide) (by decide), hk _ _ (by decide) (by decide)]
  exact h
theorem FM.kp {D D2 : Dd} (h : FM D) (hk : keepR D D2) : FM D2 := by
  unfold FM
  rw [hk _ _ (by decide) (by decide), hk _ _ (by decide) (by decide)]
  exact h
theorem mo_dz (D : Dd) (u : Int) : dzM (moD D u) (D 279 11) := fun j hj => by
  unfold moD
  rw [upD_k (by decide)]
  unfold fiD
  rw [if_pos ⟨rfl, by omega⟩]
  split <;> omega
def dqM (D : Dd) (e : Int) : Prop := ∀ v : Nat, (v : Int) < e → 0 ≤ D 291 v ∧ D 291 v ≤ 64 * (v + 1)
theorem mo_dp {D : Dd} {u : Int} (h : dqM D u) : dpM (moD D u) u := fun v hv => by
  unfold moD
  rw [upD_rd, if_pos rfl]
  split
  · omega
  · rw [fi_k (by decide)]
    exact h v (by omega)
theorem stM_B {D : Dd} {u : Int} (hu : 0 ≤ u ∧ u < 16) (hL : ∀ k : Int, 0 ≤ k → k < D 279 11 → LOK D u k) (hp : dqM D u) : ∀ m : Nat, (m : Int) ≤ D 279 11 → (∀ j : Nat, j < m → sfM (stM u j (moD D u)) u j = 0) → dzM (stM u m (moD D u)) (D 279 11) ∧ dpM (stM u m (moD D u)) u
  | 0, _, _ => ⟨mo_dz D u, mo_dp hp⟩
  | m + 1, hm, h => by
    have ih := stM_B hu hL hp m (by omega) (fun j hj => h j (by omega))
    exact sd_B ih.1 ih.2 hu ((hL m (by omega) (by omega)).kp ((keepR.mo D u).tr keepR.st)) (h m (by omega))

set_option maxRecDepth 100000 in
set_option maxHeartbeats 4000000 in
theorem t_uf5 {X : Cx} {Q : State → Prop} {P : Option AV → Dd → Prop} (hX : GX X yX10_unitFault cX10_unitFault 4 (some .int) 6 0 0) (hF : FX X Q P) (D : Dd) (u : Int) (hu : 0 ≤ u ∧ u < 16) (hS : WS D) (w1 w2 : AV) (hyes : ∀ r D2, ((1000000000 < syF D ∧ some (vI 11) = r ∧ waD (upD (syD D) 290 u.toNat (syF D)) u (-1) = D2) ∨ (syF D ≤ 1000000000 ∧ some (vI 0) = r ∧ upD (syD D) 290 u.toNat (syF D) = D2)) → P r D2) : W0 X Q 197 [vR 279, vI u, w1, w2] [] D := by
  refine w_aload_n (i := 0) hX dX10_unitFault_197 rfl rfl rfl ?_
  refine w_getR (j := 15) hX cl9 fl_RX10_41_9 rfl (by decide) rfl rfl dX10_unitFault_198 rfl ?_
  refine w_iload_n (i := 1) hX dX10_unitFault_201 rfl rfl rfl ?_
  refine w_aload_n (i := 0) hX dX10_unitFault_202 rfl rfl rfl ?_
  refine c_V hX ml_RX10_212 cl9 dX10_unitFault_203 rfl (r_stepsOf D hS) rfl rfl rfl (by decide) (Nat.le_of_ble_eq_true rfl) ?_
  rintro _ _ ⟨rfl, rfl⟩ -
  all_goals try dsimp only [Option.toList, List.cons_append, List.nil_append]
  refine w_last hX rfl (by omega) (by omega) dX10_unitFault_206 rfl ?_
  refine w_aload_n (i := 0) hX dX10_unitFault_207 rfl rfl rfl ?_
  refine w_getR (j := 15) hX cl9 fl_RX10_41_9 rfl (by decide) rfl rfl dX10_unitFault_208 rfl ?_
  refine w_iload_n (i := 1) hX dX10_unitFault_211 rfl rfl rfl ?_
  refine w_lald hX rfl (by omega) (by omega) dX10_unitFault_212 rfl ?_
  rw [upD_eq]
  refine w_ldc2 (x := 1000000000) hX kl_RX10_216 dX10_unitFault_213 rfl (by decide) (by decide) ?_
  refine w_lcmp hX dX10_unitFault_216 rfl ?_
  refine w_if_le (tgt := 231) hX dX10_unitFault_217 rfl (by decide) (fun h217 => ?_) (fun h217 => ?_)
  · rw [lc_le] at h217
    refine w_iconst hX dX10_unitFault_231 rfl (by decide) ?_
    exact e_i hX hF dX10_unitFault_232 (hyes _ _ (by first | exact Or.inl ⟨by omega, rfl, rfl⟩ | exact Or.inr ⟨by omega, rfl, rfl⟩))
  · rw [lc_le] at h217
    refine w_aload_n (i := 0) hX dX10_unitFault_220 rfl rfl rfl ?_
    refine w_bipush hX dX10_unitFault_221 rfl (by decide) ?_
    refine w_iload_n (i := 1) hX dX10_unitFault_223 rfl rfl rfl ?_
    refine w_iconst hX dX10_unitFault_224 rfl (by decide) ?_
    refine c_V hX ml_RX10_198 cl9 dX10_unitFault_225 rfl (r_wrongAt _ 11 u (-1)) rfl rfl rfl (by decide) (Nat.le_of_ble_eq_true rfl) ?_
    rintro _ _ ⟨rfl, rfl⟩ -
    all_goals try dsimp only [Option.toList, List.cons_append, List.nil_append]
    refine w_goto (tgt := 232) hX dX10_unitFault_228 (by decide) ?_
    exact e_i hX hF dX10_unitFault_232 (hyes _ _ (by first | exact Or.inl ⟨by omega, rfl, rfl⟩ | exact Or.inr ⟨by omega, rfl, rfl⟩))

set_option maxRecDepth 100000 in
set_option maxHeartbeats 4000000 in
theorem l_uf4 {X : Cx} {Q : State → Prop} {P : Option AV → Dd → Prop} (hX : GX X yX10_unitFault cX10_unitFault 4 (some .int) 6 0 0) (hF : FX X Q P) (D : Dd) (hF0 : FM D) (u : Int) (hu : 0 ≤ u ∧ u < 16) (hL : ∀ k : Int, 0 ≤ k → k < D 279 11 → LOK D u k) (hyes : ∀ r D2, ((∃ i : Nat, (i : Int) < D 279 11 ∧ 0 < sfM (stM u i (moD D u)) u i ∧ (∀ j : Nat, j < i → sfM (stM u j (moD D u)) u j = 0) ∧ some (vI (sfM (stM u i (moD D u)) u i)) = r ∧ ∃ D1, keepR D D1 ∧ waD D1 u i = D2)) → P r D2) (hgo : (∀ j : Nat, (j : Int) < D 279 11 → sfM (stM u j (moD D u)) u j = 0) → ∀ w1 w2, W0 X Q 197 [vR 279, vI u, w1, w2] [] (stM u (D 279 11).toNat (moD D u))) : ∀ (m : Nat) (i : Nat) (w1 : AV), (D 279 11 - i).toNat < m → (i : Int) ≤ D 279 11 → (∀ j : Nat, j < i → sfM (stM u j (moD D u)) u j = 0) → dzM (stM u i (moD D u)) (D 279 11) → dpM (stM u i (moD D u)) u → W0 X Q 151 [vR 279, vI u, vI i, w1] [] (stM u i (moD D u)) := by
  intro m
  induction m with
  | zero =>
    intro i w1 hm h0 hn hdz hdp
    exact absurd hm (Nat.not_lt_zero _)
  | succ m ih =>
    intro i w1 hm h0 hn hdz hdp
    have zq_F := hF0
    unfold FM at zq_F
    have zq_k : keepR D (stM u i (moD D u)) := (keepR.mo D u).tr keepR.st
    have zq_m : stM u i (moD D u) 279 11 = D 279 11 := zq_k _ _ (by decide) (by decide)
    refine w_iload_n (i := 2) hX dX10_unitFault_151 rfl rfl rfl ?_
    refine w_aload_n (i := 0) hX dX10_unitFault_152 rfl rfl rfl ?_
    refine w_getI (j := 11) hX cl9 fl_RX10_131_9 rfl (by decide) rfl dX10_unitFault_153 rfl ?_
    rw [zq_m]
    refine w_icmp_ge (tgt := 197) hX dX10_unitFault_156 rfl (by decide) (fun h156 => ?_) (fun h156 => ?_)
    · have zq_e : (D 279 11).toNat = i := by omega
      rw [zq_e] at hgo
      exact hgo (fun j zq_j => hn j (by omega)) _ _
    · refine w_aload_n (i := 0) hX dX10_unitFault_159 rfl rfl rfl ?_
      refine w_getR (j := 12) hX cl9 fl_RX10_31_9 rfl (by decide) rfl rfl dX10_unitFault_160 rfl ?_
      refine w_iload_n (i := 2) hX dX10_unitFault_163 rfl rfl rfl ?_
      refine w_iald hX rfl (by omega) (by omega) dX10_unitFault_164 rfl ?_
      refine w_if_ge (tgt := 172) hX dX10_unitFault_165 rfl (by decide) (fun h165 => ?_) (fun h165 => ?_)
      · refine w_aload_n (i := 0) hX dX10_unitFault_172 rfl rfl rfl ?_
        refine w_iload_n (i := 2) hX dX10_unitFault_173 rfl rfl rfl ?_
        refine w_iload_n (i := 1) hX dX10_unitFault_174 rfl rfl rfl ?_
        refine c_V hX ml_RX10_209 cl9 dX10_unitFault_175 rfl (r_stackFault (stM u i (moD D u)) (hF0.kp zq_k) i u (by omega) hu ((hL i (by omega) (by omega)).kp zq_k) (by have zq_d := hdz (i : Int).toNat (by omega); omega) (fun v zq_v => by have zq_d := hdp v zq_v; omega)) rfl rfl rfl (by decide) (Nat.le_of_ble_eq_true rfl) ?_
        rintro r D1 ⟨rfl, zq_kr, zq_kd⟩ -
        have zq_s : sfM (stM u i (moD D u)) u i = skM (stM u i (moD D u)) i u (((stM u i (moD D u)) 283 ((stM u i (moD D u)) 279 10 + i).toNat)) (((stM u i (moD D u)) 284 ((stM u i (moD D u)) 279 10 + i).toNat)) (((stM u i (moD D u)) 285 ((stM u i (moD D u)) 279 10 + i).toNat)) := if_neg (by omega)
        have zq_i := skM_in (stM u i (moD D u)) i u (((stM u i (moD D u)) 283 ((stM u i (moD D u)) 279 10 + i).toNat)) (((stM u i (moD D u)) 284 ((stM u i (moD D u)) 279 10 + i).toNat)) (((stM u i (moD D u)) 285 ((stM u i (moD D u)) 279 10 + i).toNat))
        all_goals try dsimp only [Option.toList, List.cons_append, List.nil_append]
        refine w_istore_n (i := 3) hX dX10_unitFault_178 rfl rfl (by decide) ?_
        dsimp only [st1X, st2X, klX_I, klX_L, klX_R, klX_S, klX_N]
        refine w_iload_n (i := 3) hX dX10_unitFault_179 rfl rfl rfl ?_
        refine w_if_le (tgt := 191) hX dX10_unitFault_180 rfl (by decide) (fun h180 => ?_) (fun h180 => ?_)
        · refine w_iinc hX dX10_unitFault_191 rfl rfl (by decide) (by omega) ?_
          dsimp only [st1X, st2X, klX_I, klX_L, klX_R, klX_S, klX_N]
          refine w_goto (tgt := 151) hX dX10_unitFault_194 (by decide) ?_
          first
            | (have zq_s0 : sfM (stM u i (moD D u)) u i = 0 := by rw [zq_s]; omega
               have zq_e1 : D1 = stM u (i + 1) (moD D u) := by
                 rw [← zq_kd (by omega)]
                 exact (if_neg (by omega) : sdM (stM u i (moD D u)) u i = _).symm
               have zq_b := sd_B hdz hdp hu ((hL i (by omega) (by omega)).kp zq_k) zq_s0
               rw [zq_e1]
               exact ih (i + 1) _ (by omega) (by omega) (fun j zq_1 => by
                 by_cases zq_e : j = i
                 · subst zq_e; exact zq_s0
                 · exact hn j (by omega)) zq_b.1 zq_b.2)
            | (have zq_s0 : sfM (stM u i (moD D u)) u i = 0 := if_pos (by omega)
               have zq_e1 : stM u i (moD D u) = stM u (i + 1) (moD D u) := (if_pos (by omega) : sdM (stM u i (moD D u)) u i = _).symm
               have zq_b := sd_B hdz hdp hu ((hL i (by omega) (by omega)).kp zq_k) zq_s0
               rw [zq_e1]
               exact ih (i + 1) _ (by omega) (by omega) (fun j zq_1 => by
                 by_cases zq_e : j = i
                 · subst zq_e; exact zq_s0
                 · exact hn j (by omega)) zq_b.1 zq_b.2)
        · refine w_aload_n (i := 0) hX dX10_unitFault_183 rfl rfl rfl ?_
          refine w_iload_n (i := 3) hX dX10_unitFault_184 rfl rfl rfl ?_
          refine w_iload_n (i := 1) hX dX10_unitFault_185 rfl rfl rfl ?_
          refine w_iload_n (i := 2) hX dX10_unitFault_186 rfl rfl rfl ?_
          refine c_V hX ml_RX10_198 cl9 dX10_unitFault_187 rfl (r_wrongAt D1 _ u i) rfl rfl rfl (by decide) (Nat.le_of_ble_eq_true rfl) ?_
          rintro _ _ ⟨rfl, rfl⟩ -
          all_goals try dsimp only [Option.toList, List.cons_append, List.nil_append]
          exact e_i hX hF dX10_unitFault_190 (hyes _ _ ⟨i, by omega, by rw [zq_s]; omega, hn, by rw [zq_s], D1, zq_k.tr zq_kr, rfl⟩)
      · refine w_iconst hX dX10_unitFault_168 rfl (by decide) ?_
        refine w_goto (tgt := 178) hX dX10_unitFault_169 (by decide) ?_
        refine w_istore_n (i := 3) hX dX10_unitFault_178 rfl rfl (by decide) ?_
        dsimp only [st1X, st2X, klX_I, klX_L, klX_R, klX_S, klX_N]
        refine w_iload_n (i := 3) hX dX10_unitFault_179 rfl rfl rfl ?_
        refine w_if_le (tgt := 191) hX dX10_unitFault_180 rfl (by decide) (fun _ => ?_) (fun h180 => absurd (by decide) h180)
        refine w_iinc hX dX10_unitFault_191 rfl rfl (by decide) (by omega) ?_
        dsimp only [st1X, st2X, klX_I, klX_L, klX_R, klX_S, klX_N]
        refine w_goto (tgt := 151) hX dX10_unitFault_194 (by decide) ?_
        first
          | (have zq_s0 : sfM (stM u i (moD D u)) u i = 0 := by rw [zq_s]; omega
             have zq_e1 : D1 = stM u (i + 1) (moD D u) := by
               rw [← zq_kd (by omega)]
               exact (if_neg (by omega) : sdM (stM u i (moD D u)) u i = _).symm
             have zq_b := sd_B hdz hdp hu ((hL i (by omega) (by omega)).kp zq_k) zq_s0
             rw [zq_e1]
             exact ih (i + 1) _ (by omega) (by omega) (fun j zq_1 => by
               by_cases zq_e : j = i
               · subst zq_e; exact zq_s0
               · exact hn j (by omega)) zq_b.1 zq_b.2)
          | (have zq_s0 : sfM (stM u i (moD D u)) u i = 0 := if_pos (by omega)
             have zq_e1 : stM u i (moD D u) = stM u (i + 1) (moD D u) := (if_pos (by omega) : sdM (stM u i (moD D u)) u i = _).symm
             have zq_b := sd_B hdz hdp hu ((hL i (by omega) (by omega)).kp zq_k) zq_s0
             rw [zq_e1]
             exact ih (i + 1) _ (by omega) (by omega) (fun j zq_1 => by
               by_cases zq_e : j = i
               · subst zq_e; exact zq_s0
               · exact hn j (by omega)) zq_b.1 zq_b.2)
