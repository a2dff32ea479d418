/-! The walks are the same -/
theorem sam_sf {D S T : Dd} {lev f t : Int} (hW : WKS D) (h : SamW D S lev f T) (ht : 0 ≤ t ∧ t ≤ 1000000) (hf : 0 ≤ f ∧ f ≤ t) : SFW lev t f T := by
  obtain ⟨h1, h2, h3, _, h5, h6⟩ := h
  have hu0 := h5.1 lev.toNat (by omega)
  have hp0 := h5.2.2.1 lev.toNat (by omega)
  have hI16 := hW.1.1
  have hu : 0 ≤ T 293 lev.toNat ∧ T 293 lev.toNat < D 1 7 := by omega
  have hz := sz_256 hW.1 (T 293 lev.toNat)
  have hsz := cd_sz h2 hu
  have q := h2.2.2.1 (T 293 lev.toNat).toNat (by omega)
  rw [show (T 293 lev.toNat).toNat + 1 = (T 293 lev.toNat + 1).toNat by omega] at q
  have q2 := hW.1.2.2 (T 293 lev.toNat).toNat (by omega)
  have q3 := hW.1.2.1
  refine ⟨by omega, ht, hf, by omega, by omega, by omega, fun hp => ?_⟩
  have hpp : 0 ≤ T 295 lev.toNat ∧ T 295 lev.toNat < szF D (T 293 lev.toNat) := by omega
  have hc := cd_at hW.1 h2 hu hpp
  have hg := ok_go (E := T) (hW.un hu).2.1 hpp.1 hpp.2
  rw [← hc.1, ← hc.2.1]
  refine ⟨fun e => ?_, fun e => ?_, fun e => ?_⟩
  · have := hg.2.2.2.2.2 e; omega
  · have c := hW.ct hu hpp e
    have b := HOM.in hW hu.1 (h5.2.2.2.1 lev.toNat (by omega)) (by omega)
    omega
  · have b := hg.2.1 e
    have c := h6 lev.toNat (by omega) (T 295 lev.toNat) ⟨hpp.1, hpp.2, e, Int.le_refl _, b.1⟩
    rw [← c.1]
    exact c.2
def JJ (D : Dd) (lev t f : Int) (T : Dd) : Prop := (0 ≤ t ∧ t ≤ 1000000) ∧ (0 ≤ f ∧ f ≤ t) ∧ (lev < 0 ∨ ∃ S, SamW D S lev f T)
theorem SamW.pop {D S T : Dd} {lev f : Int} (h : SamW D S lev f T) (hl : 1 ≤ lev) : SamW D (cbS S) (lev - 1) f T := by
  obtain ⟨h1, h2, h3, ⟨a1, a2, a3, a4, a5, a6⟩, h5, h6⟩ := h
  exact sam_pop h1 h2 hl a1 a2 a3 (h5.mo (by omega)) (fun l q => h6 l (by omega))
/-- behind a 18 -/
theorem SamW.lv {D S T : Dd} {lev f : Int} (h : SamW D S lev f T) (hp : T 295 lev.toNat < szF D (T 293 lev.toNat)) (hl : 1 ≤ lev) : SamW D (cbS (upD S 275 7 (S 275 6))) (lev - 1) f (upD T 295 lev.toNat (T 295 lev.toNat + 1)) := by
  obtain ⟨h1, h2, h3, ⟨a1, a2, a3, a4, a5, a6⟩, h5, h6⟩ := h
  have hp0 := h5.2.2.1 lev.toNat (by omega)
  have h5b : LVL D (upD T 295 lev.toNat (T 295 lev.toNat + 1)) lev := h5.kp h3 (fun k j _ w => upD_o w) (upD_eq _ _ _ _) (by omega)
  refine sam_pop (h1.up (by decide)) ?_ hl (by rw [upD_j (by decide)]; exact a1) (by rw [upD_j (by decide)]; exact a2) (fun l hl2 => ?_) (h5b.mo (by omega)) (fun l hl2 k hk => ?_)
  · unfold CDe
    simp only [upD_k (show 279 ≠ 295 by decide), upD_k (show 282 ≠ 295 by decide), upD_k (show 280 ≠ 295 by decide), upD_k (show 281 ≠ 295 by decide), upD_k (show 283 ≠ 295 by decide), upD_k (show 284 ≠ 295 by decide), upD_k (show 285 ≠ 295 by decide), upD_k (show 286 ≠ 295 by decide)]
    exact h2
  · rw [upD_k (by decide), upD_k (by decide), upD_k (by decide), upD_o (by omega)]; exact a3 l hl2
  · unfold LIV at hk
    rw [upD_k (by decide), upD_o (by omega)] at hk
    rw [upD_k (by decide), upD_k (by decide), upD_k (by decide), upD_k (by decide)]
    exact h6 l (by omega) k hk
theorem jw_of {D : Dd} (b : Int) (hW : WKS D) : JW b (JJ D) := by
  rintro lev t f T ⟨ht, hf, hj⟩ hl
  obtain ⟨S, h⟩ := hj.resolve_left (by omega)
  have h2 := h.2.1
  have hu0 := h.2.2.2.2.1.1 lev.toNat (by omega)
  have hsz := cd_sz h2 (w := T 293 lev.toNat) (by omega)
  refine ⟨sam_sf hW h ht hf, fun _ => ⟨ht, hf, ?_⟩, fun hp hne => ?_⟩
  · by_cases e : lev = 0
    · exact Or.inl (by omega)
    · exact Or.inr ⟨_, h.pop (by omega)⟩
  · have hp2 : T 295 lev.toNat < szF D (T 293 lev.toNat) := by omega
    rcases sim_step b hW h hf.1 hp2 with ⟨_, q, q2⟩ | ⟨_, _, q⟩
    · exact ⟨by omega, by omega, Or.inr ⟨_, q⟩⟩
    · rw [q]
      refine ⟨by omega, by show 0 ≤ f ∧ f ≤ t + 1; omega, ?_⟩
      by_cases e : lev = 0
      · exact Or.inl (by show lev - 1 < 0; omega)
      · exact Or.inr ⟨_, h.lv hp2 (by omega)⟩
theorem wm_mono (b : Int) : ∀ (m : Nat) (lev t f : Int) (T : Dd) (r : Int × Dd), wmF b m lev t f T = some r → wmF b (m + 1) lev t f T = some r
  | 0, _, _, _, _, _, h => by rw [wmF] at h; cases h
  | m + 1, lev, t, f, T, r, h => by
    rw [wmF] at h ⊢
    by_cases e1 : lev < 0
    · rw [if_pos e1] at h ⊢; exact h
    · rw [if_neg e1] at h ⊢
      by_cases e2 : (T 282 (T 293 lev.toNat + 1).toNat - T 282 (T 293 lev.toNat).toNat) ≤ T 295 lev.toNat
      · rw [if_pos e2] at h ⊢; exact wm_mono b m _ _ _ _ _ h
      · rw [if_neg e2] at h ⊢
        by_cases e3 : t = 1000000
        · rw [if_pos e3] at h ⊢; exact h
        · rw [if_neg e3] at h ⊢; exact wm_mono b m _ _ _ _ _ h
theorem WR.uq {b lev t f x y : Int} {T T2 T3 : Dd} (h : WR b lev t f T x T2) (h2 : WR b lev t f T y T3) : x = y := by
  obtain ⟨m, h⟩ := h
  obtain ⟨n, h2⟩ := h2
  have up : ∀ (k m : Nat) (r : Int × Dd), wmF b m lev t f T = some r → wmF b (m + k) lev t f T = some r := by
    intro k
    induction k with
    | zero => exact fun m r q => q
    | succ k ih => exact fun m r q => wm_mono b _ _ _ _ _ _ (ih m r q)
  have q1 := up n m _ h
  have q2 := up m n _ h2
  rw [show n + m = m + n by omega, q1] at q2
  injection q2 with q2
  injection q2 with q2 _
/-- what the reference's walk leaves as it was -/
def kW (D D2 : Dd) : Prop := ∀ k j, k < 292 ∨ 295 < k → D2 k j = D k j
theorem kW.up {D D' : Dd} (h : kW D D') {k j : Nat} {x : Int} (hk : 292 ≤ k ∧ k ≤ 295) : kW D (upD D' k j x) := fun a b ha => by rw [upD_k (by omega)]; exact h a b ha
theorem kW.rf (D : Dd) : kW D D := fun _ _ _ => rfl
theorem kW.tr {D D' D2 : Dd} (h : kW D D') (h2 : kW D' D2) : kW D D2 := fun k j a => (h2 k j a).trans (h k j a)
theorem kW.go {D D' : Dd} (h : kW D D') (i l : Int) : kW D (goM D' i l) := by
  unfold goM
  split
  · exact h.up (by decide)
  · split
    · exact h.up (by decide)
    · split
      · split
        · exact h.up (by decide)
        · exact h.up (by decide)
      · exact h
theorem kW.ms (b lev f : Int) (T : Dd) : kW T (mstep b lev f T).2.2 := by
  unfold mstep
  split
  · exact ((((kW.rf T).up (by decide)).up (by decide)).up (by decide)).up (by decide)
  · split
    · exact (kW.rf T).up (by decide)
    · split
      · exact ((kW.rf T).up (by decide)).up (by decide)
      · exact ((kW.rf T).up (by decide)).go _ _
theorem kW.wm (b : Int) : ∀ (m : Nat) (lev t f : Int) (T : Dd) (r : Int × Dd), wmF b m lev t f T = some r → kW T r.2
  | 0, _, _, _, _, _, h => by rw [wmF] at h; cases h
  | m + 1, lev, t, f, T, r, h => by
    rw [wmF] at h
    by_cases e1 : lev < 0
    · rw [if_pos e1] at h; injection h with h; rw [← h]; exact kW.rf T
    · rw [if_neg e1] at h
      by_cases e2 : (T 282 (T 293 lev.toNat + 1).toNat - T 282 (T 293 lev.toNat).toNat) ≤ T 295 lev.toNat
      · rw [if_pos e2] at h; exact kW.wm b m _ _ _ _ _ h
      · rw [if_neg e2] at h
        by_cases e3 : t = 1000000
        · rw [if_pos e3] at h; injection h with h; rw [← h]; exact kW.rf T
        · rw [if_neg e3] at h; exact (kW.ms b lev f T).tr (kW.wm b m _ _ _ _ _ h)
theorem WR.W {b lev t f x : Int} {T T2 : Dd} (h : WR b lev t f T x T2) : kW T T2 := by
  obtain ⟨m, h⟩ := h
  exact kW.wm b m _ _ _ _ _ h
theorem kW.w0 (D : Dd) : kW D (w0M D) := by
  unfold w0M
  refine ((kW.up (fun k j hk => ?_) (by decide)).up (by decide)).up (by decide)
  exact cl_k (by omega)
/-- the reference at its last step -/
theorem WR.end (b f : Int) (T : Dd) : ∀ m : Nat, ∃ T2, WR b ((m : Int) - 1) 1000000 f T 1000000 T2
  | 0 => ⟨T, WR.done b 1000000 f T (by omega)⟩
  | m + 1 => by
    by_cases e : (T 282 (T 293 (((m + 1 : Nat) : Int) - 1).toNat + 1).toNat - T 282 (T 293 (((m + 1 : Nat) : Int) - 1).toNat).toNat) ≤ T 295 (((m + 1 : Nat) : Int) - 1).toNat
    · obtain ⟨T2, q⟩ := WR.end b f T m
      refine ⟨T2, WR.pop (by omega) e ?_⟩
      rw [show (((m + 1 : Nat) : Int) - 1 - 1) = (m : Int) - 1 by omega]
      exact q
    · exact ⟨T, WR.cut b f T (by omega) e rfl⟩
theorem cb_fin {S : Dd} {lev : Int} (h4 : S 275 4 = lev) (hl : 1 ≤ lev) (h16 : lev ≤ 16) (hf : S 275 6 ≤ S 275 7) : cbD S = cbD (cbS S) := by
  have q := (cb_v S).2.1
  rw [h4] at q
  show cbW (S 275 4).toNat S = cbW (cbS S 275 4).toNat (cbS S)
  rw [q, h4, show lev.toNat = (lev - 1).toNat + 1 by omega]
  show itP (S 275 6 ≤ S 275 7 ∧ 0 < S 275 4 ∧ S 275 4 ≤ 16) (cbW (lev - 1).toNat (cbS S)) S = _
  rw [it_t ⟨hf, by omega, by omega⟩]
theorem cb_0 {S : Dd} (h4 : S 275 4 = 0) : cbD S = S := by
  show cbW (S 275 4).toNat S = S
  rw [h4]
  rfl
theorem wk_cb {b t : Int} {m : Nat} {S S2 : Dd} (h : cbD S = cbD S2) : (wkF b m t S).1 = (wkF b m t S2).1 := by
  cases m with
  | zero => rfl
  | succ m =>
    show (itP (cbD S 275 7 < cbD S 275 6) (wkF b m (t + 1) (tsD (cbD S) (atF (cbD S) (cbD S 275 5) (cbD S 275 7)) b)) (t, cbD S)).1 = _
    rw [h]
    rfl
theorem wk_WR {D : Dd} (b : Int) (hW : WKS D) : ∀ (m : Nat) (t f : Int), t + m = 1000000 → 0 ≤ f → ∀ (n : Nat) (S : Dd) (lev : Int) (T : Dd), lev = n → SamW D S lev f T → ∃ T2, WR b lev t f T (wkF b m t S).1 T2
  | 0, t, f, hm, hf, n, S, lev, T, hn, h => by
    obtain ⟨T2, q⟩ := WR.end b f T (n + 1)
    rw [show (((n + 1 : Nat) : Int) - 1) = lev by omega] at q
    have e : t = 1000000 := by omega
    subst e
    exact ⟨T2, q⟩
  | m + 1, t, f, hm, hf, n, S, lev, T, hn, h => by
    have h2 := h.2.1
    have hI16 := hW.1.1
    have hu0 := h.2.2.2.2.1.1 lev.toNat (by omega)
    have hsz := cd_sz h2 (w := T 293 lev.toNat) (by omega)
    obtain ⟨a1, a2, a3, a4, a5, a6⟩ := h.2.2.2.1
    by_cases hp : T 295 lev.toNat < szF D (T 293 lev.toNat)
    · -- a step
      have hlt : S 275 7 < S 275 6 := by rw [a5, a6]; exact hp
      have ecb := cb_id hlt
      have ewk : (wkF b (m + 1) t S) = wkF b m (t + 1) (tsD S (atF S (S 275 5) (S 275 7)) b) := by
        show itP (cbD S 275 7 < cbD S 275 6) (wkF b m (t + 1) (tsD (cbD S) (atF (cbD S) (cbD S 275 5) (cbD S 275 7)) b)) (t, cbD S) = _
        rw [ecb, it_t hlt]
      rw [ewk]
      have hnp : ¬ (T 282 (T 293 lev.toNat + 1).toNat - T 282 (T 293 lev.toNat).toNat) ≤ T 295 lev.toNat := by omega
      rcases sim_step b hW h hf hp with ⟨_, q, q2⟩ | ⟨_, q, q2⟩
      · have hl0 := q.2.2.1
        obtain ⟨T2, w⟩ := wk_WR b hW m (t + 1) _ (by omega) (by omega) (mstep b lev f T).1.toNat _ _ _ (by omega) q
        exact ⟨T2, WR.step (by omega) hnp (by omega) rfl w⟩
      · rw [q]
        by_cases e : lev = 0
        · refine ⟨upD T 295 lev.toNat (T 295 lev.toNat + 1), WR.step (by omega) hnp (by omega) q2 ?_⟩
          · have ex : (wkF b m (t + 1) (upD S 275 7 (S 275 6))).1 = t + 1 := by
              cases m with
              | zero => show (1000000 : Int) = t + 1; omega
              | succ m =>
                have c0 : cbD (upD S 275 7 (S 275 6)) = upD S 275 7 (S 275 6) := cb_0 (by rw [upD_j (by decide)]; omega)
                show (itP (cbD (upD S 275 7 (S 275 6)) 275 7 < cbD (upD S 275 7 (S 275 6)) 275 6) _ (t + 1, cbD (upD S 275 7 (S 275 6)))).1 = t + 1
                rw [c0, it_f]
                rw [upD_eq, upD_j (by decide)]
                omega
            rw [ex]
            exact WR.done b (t + 1) f _ (by omega)
        · have hl := h.lv hp (by omega)
          have ec : cbD (upD S 275 7 (S 275 6)) = cbD (cbS (upD S 275 7 (S 275 6))) := cb_fin (lev := lev) (by rw [upD_j (by decide)]; exact a1) (by omega) (by omega) (by rw [upD_eq, upD_j (by decide)]; omega)
          rw [wk_cb ec]
          obtain ⟨T2, w⟩ := wk_WR b hW m (t + 1) f (by omega) hf (lev - 1).toNat _ _ _ (by omega) hl
          exact ⟨T2, WR.step (by omega) hnp (by omega) q2 w⟩
    · -- the unit has ended
      have hfi : S 275 6 ≤ S 275 7 := by rw [a5, a6]; omega
      have hnp : (T 282 (T 293 lev.toNat + 1).toNat - T 282 (T 293 lev.toNat).toNat) ≤ T 295 lev.toNat := by omega
      cases n with
      | zero =>
        have c0 : cbD S = S := cb_0 (by omega)
        have ex : (wkF b (m + 1) t S).1 = t := by
          show (itP (cbD S 275 7 < cbD S 275 6) _ (t, cbD S)).1 = t
          rw [c0, it_f (by omega)]
        rw [ex]
        exact ⟨T, WR.pop (by omega) hnp (WR.done b t f T (by omega))⟩
      | succ n =>
        have ec := cb_fin a1 (by omega) (by omega) hfi
        rw [wk_cb ec]
        obtain ⟨T2, w⟩ := wk_WR b hW (m + 1) t f hm hf n (cbS S) (lev - 1) T (by omega) (h.pop (by omega))
        exact ⟨T2, WR.pop (by omega) hnp w⟩
termination_by m t f _ _ n => (m, n)
/-- both walks begin alike -/
theorem sam_0 {D E : Dd} (hW : WKS D) (hc : CDe D E) (h0 : 0 < D 1 7) : SamW D (w0D D) 0 0 (w0M E) := by
  have k := kW.w0 E
  have hun := hc.2.1
  have w5 : w0M E 293 0 = D 1 7 - 1 := by unfold w0M; rw [upD_k (by decide), upD_k (by decide), upD_eq, hun]
  have w6 : w0M E 294 0 = 0 := by unfold w0M; rw [upD_k (by decide), upD_eq]
  have w7 : w0M E 295 0 = 0 := by unfold w0M; rw [upD_eq]
  have sm : smC D (upD (upD D 275 4 0) 275 8 0) := ((smC.rf D).up (by decide)).up (by decide)
  have sm2 : smC D (w0D D) := sm.tr keepK.wg.sm
  have hz := sz_256 hW.1 (D 1 7 - 1)
  have hp := hW.p0 h0
  refine ⟨sm2, hc.kp hW.1 (smC.rf D) (fun j _ => k _ _ (by decide)) (fun l j h1 h2 => k _ _ (by omega)), by omega, ⟨?_, ?_, fun l hl => by omega, ?_, ?_, ?_⟩, ⟨fun l hl => ?_, fun l hl => by omega, fun l hl => ?_, fun l hl => ?_, fun l l2 h1 h2 => by omega⟩, fun l hl kk hk => ?_⟩
  · unfold w0D wgD; rw [upD_j (by decide), upD_j (by decide), upD_j (by decide), upD_j (by decide), upD_eq]
  · unfold w0D wgD; rw [upD_j (by decide), upD_j (by decide), upD_j (by decide), upD_eq]
  · show _ = w0M E 293 0
    rw [w5]; unfold w0D wgD; rw [upD_j (by decide), upD_j (by decide), upD_eq]
  · show _ = w0M E 295 0
    rw [w7]; unfold w0D wgD; rw [upD_eq]
  · show _ = szF D (w0M E 293 0)
    rw [w5]; unfold w0D wgD; rw [upD_j (by decide), upD_eq, sz_sm sm]
  · have e : l = 0 := by omega
    subst e
    rw [w5]; omega
  · have e : l = 0 := by omega
    subst e
    rw [w5, w7]; omega
  · have e : l = 0 := by omega
    subst e
    unfold HOM
    rw [w5, w6]
    intro hf
    exact ⟨D 1 7 - 1, by omega, by omega, hf, by omega, by omega⟩
  · have e : l = 0 := by omega
    subst e
    obtain ⟨b1, b2, b3, b4, b5⟩ := hk
    rw [w5] at b2 b3
    rw [w7] at b4
    have := (hW.G (v := D 1 7 - 1) (by omega)).lp kk b1 b2 b3
    omega
theorem WC.of {D : Dd} (hW : WKS D) : WC D := by
  intro u i
  by_cases hi : (0 ≤ u ∧ u < D 1 7) ∧ 0 ≤ i ∧ i < szF D u
  · have hg := ok_go (E := D) (hW.un hi.1).2.1 hi.2.1 hi.2.2
    have hz := sz_256 hW.1 u
    refine ⟨fun e => (hg.2.2.2.1 e).1, fun e => ?_, fun e => ?_⟩
    · rcases e with e | e | e
      · have := hg.1 (Or.inl e); omega
      · have := hg.1 (Or.inr e); omega
      · have := hg.2.2.1 e; omega
    · have := hg.2.1 e; omega
  · have e : (D (atF D u i) 0) = -1 := by
      have : atF D u i = 3 := by
        unfold atF
        rw [if_neg]
        intro w
        apply hi
        refine ⟨⟨w.1, w.2.1⟩, w.2.2.1, ?_⟩
        unfold szF
        rw [if_pos ⟨w.1, w.2.1⟩]
        exact w.2.2.2
      rw [this]; exact hW.2.2.1
    refine ⟨fun q => by omega, fun q => by omega, fun q => by omega⟩
/-- the walker's numbers between walks -/
def WKB (D : Dd) : Prop := (∀ j : Nat, j < 256 → 0 ≤ D 276 j) ∧ (∀ j : Nat, j < 16 → 0 ≤ D 278 j ∧ D 278 j ≤ 256)
theorem WI.w0 {D : Dd} (hW : WKS D) (hb : WKB D) : WI (w0D D) 0 := by
  have sm : smC D (upD (upD D 275 4 0) 275 8 0) := ((smC.rf D).up (by decide)).up (by decide)
  have sm2 : smC D (w0D D) := sm.tr keepK.wg.sm
  have hz := sz_256 hW.1 (D 1 7 - 1)
  have e : ∀ l j, l ≠ 275 → w0D D l j = D l j := fun l j hl => by unfold w0D wgD; rw [upD_k hl, upD_k hl, upD_k hl, upD_k hl, upD_k hl]
  refine ⟨in_sm sm2 hW.1, (WC.of hW).sm sm2 hW.1, ?_, ?_, ?_, ?_, fun j hj => by rw [e _ _ (by decide)]; exact hb.1 j hj, fun j hj => by rw [e _ _ (by decide)]; exact hb.2 j hj⟩
  · unfold w0D wgD; rw [upD_j (by decide), upD_j (by decide), upD_j (by decide), upD_j (by decide), upD_eq]; omega
  · unfold w0D wgD; rw [upD_j (by decide), upD_eq, sz_sm sm]; exact hz
  · unfold w0D wgD; rw [upD_eq]; omega
  · unfold w0D wgD; rw [upD_j (by decide), upD_j (by decide), upD_j (by decide), upD_eq]; omega
theorem WI.b {D : Dd} {t : Int} (h : WI D t) : WKB D := ⟨h.2.2.2.2.2.2.1, h.2.2.2.2.2.2.2⟩
theorem WI.wk (b : Int) : ∀ (m : Nat) (t : Int) (S : Dd), 0 ≤ t → WI S t → WKB (wkF b m t S).2
  | 0, t, S, _, h => h.b
  | m + 1, t, S, ht, h => by
    show WKB (itP (cbD S 275 7 < cbD S 275 6) (wkF b m (t + 1) (tsD (cbD S) (atF (cbD S) (cbD S 275 5) (cbD S 275 7)) b)) (t, cbD S)).2
    have hc : WI (cbD S) t := WI.cb h
    by_cases e : cbD S 275 7 < cbD S 275 6
    · rw [it_t e]; exact WI.wk b m (t + 1) _ (by omega) (hc.ts ht e)
    · rw [it_f e]; exact hc.b
theorem keepK.ts {D : Dd} {k : Nat} {b : Int} : keepK D (tsD D k b) := by
  have r := keepK.rf D
  unfold tsD
  by_cases h1 : D k 0 = 10 ∨ D k 0 = 14
  · rw [it_t h1]; exact r.up (by decide)
  rw [it_f h1]
  by_cases h2 : D k 0 = 11
  · rw [it_t h2]; exact (r.up (by decide)).up (by decide)
  rw [it_f h2]
  by_cases h3 : D k 0 = 12
  · rw [it_t h3]
    refine keepK.up (fun a j ha => sc_k (by omega)) (by decide)
  rw [it_f h3]
  by_cases h4 : D k 0 = 13
  · rw [it_t h4]
    refine keepK.up (fun a j ha => cd_k (by omega)) (by decide)
  rw [it_f h4]
  by_cases h5 : D k 0 = 15 ∨ D k 0 = 16
  · rw [it_t h5]
    unfold wiD
    by_cases q : 0 ≤ D 275 4 ∧ D 275 4 < 16
    · rw [it_t q]; exact (((r.up (by decide)).up (by decide)).up (by decide)).tr keepK.wg
    · rw [it_f q]; exact r
  rw [it_f h5]
  by_cases h6 : D k 0 = 18
  · rw [it_t h6]; exact r.up (by decide)
  · rw [it_f h6]; exact r.up (by decide)
theorem keepK.wk (b : Int) : ∀ (m : Nat) (t : Int) (S : Dd), keepK S (wkF b m t S).2
  | 0, t, S => keepK.rf S
  | m + 1, t, S => by
    show keepK S (itP (cbD S 275 7 < cbD S 275 6) (wkF b m (t + 1) (tsD (cbD S) (atF (cbD S) (cbD S 275 5) (cbD S 275 7)) b)) (t, cbD S)).2
    by_cases e : cbD S 275 7 < cbD S 275 6
    · rw [it_t e]; exact (keepK.cb.tr keepK.ts).tr (keepK.wk b m (t + 1) _)
    · rw [it_f e]; exact keepK.cb
theorem keepK.w0 (D : Dd) : keepK D (w0D D) := (((keepK.rf D).up (by decide)).up (by decide)).tr keepK.wg
/-- the class's walk and the reference's answer alike -/
theorem wk_eq {D E T2 : Dd} {b x : Int} (hW : WKS D) (hc : CDe D E) (h0 : 0 < D 1 7) (hr : WR b 0 0 0 (w0M E) x T2) : x = (wkF b 1000000 0 (w0D D)).1 := by
  obtain ⟨T3, q⟩ := wk_WR b hW 1000000 0 0 (by decide) (by decide) 0 (w0D D) 0 (w0M E) rfl (sam_0 hW hc h0)
  exact hr.uq q
