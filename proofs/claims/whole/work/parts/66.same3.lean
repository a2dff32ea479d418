/-! The class's isRefused is the reference's unitFault; its search is prove -/
theorem keepQ.rd {u : Int} : ∀ {m : Nat} {D : Dd}, keepQ D (rdW u m D)
  | 0, D => fun _ _ _ _ => rfl
  | m + 1, D => by
    show keepQ D (rdW u m (itP ((D (atF D u m) 0) = 13) (rdS D u m) D))
    by_cases h : (D (atF D u m) 0) = 13
    · rw [it_t h]; exact fun k j a b => (keepQ.rd (m := m) k j a b).trans (keepQ.rd1 k j a b)
    · rw [it_f h]; exact keepQ.rd
theorem sy_kp (D : Dd) : keepY D (syD D) := by
  unfold syD
  exact (keepY.dn keepY.rd2).tr (keepY.dn (keepY.st (-1)))
/-- good units below u -/
def ACC (D : Dd) (u : Int) : Prop := ∀ v : Int, 0 ≤ v → v < u → ¬ mpP D v ∧ okLn D v ∧ okLp D v
theorem ACC.sm {D D2 : Dd} {u : Int} (h : ACC D u) (k : smC D D2) (hI : InC D) : ACC D2 u := fun v h0 h1 => by
  have q := h v h0 h1
  exact ⟨fun w => q.1 ((mp_sm k v).1 w), q.2.1.sm k hI, q.2.2.sm k hI⟩
/-- the class and the reference have gone through the first u units, and found the same -/
def XS (D E : Dd) (u : Int) : Prop := SI D ∧ dpW D u ∧ MI E ∧ CDe D E ∧ (∀ v : Nat, (v : Int) < u → D 270 v = E 291 v ∧ D 274 v = E 290 v) ∧ ACC D u
theorem XS.xu {D E : Dd} {u : Int} (h : XS D E u) (hu : 0 ≤ u ∧ u < D 1 7) : XU D (frD E u) u := by
  obtain ⟨⟨hI, hf, h0, _⟩, _, _, hc, _, _⟩ := h
  have q := hc.2.2.1 u.toNat (by omega)
  refine ⟨hI, hf, h0, hu, hc.kp hI (smC.rf D) (fun j hj => fr_j (by omega) (by omega)) (fun l j h1 h2 => fr_k (by omega)), ?_, ?_⟩
  · rw [fr_10, q.1]
  · rw [fr_11, show (u + 1).toNat = u.toNat + 1 by omega]; omega
/-- the stack passes go alike -/
theorem st_same {S T : Dd} {u sz : Int} (hX : XU S T u) (hk : okLn S u) (hsz : sz = szF S u) (h : dsR S T u sz) : ∀ m : Nat, (m : Int) ≤ sz → (∀ j : Nat, j < m → skF (stW u j S) u j = 0) → dsR (stW u m S) (stM u m T) u sz ∧ ((m : Int) < sz → skF (stW u m S) u m = sfM (stM u m T) u m) := by
  intro m
  induction m with
  | zero =>
    intro hm _
    exact ⟨h, fun hm2 => (sk_eq hX hk h hsz (by omega) (by omega)).1⟩
  | succ m ih =>
    intro hm hz
    have q := ih (by omega) (fun j hj => hz j (by omega))
    have kS : keepS S (stW u m S) := keepS.st
    have kT : keepR T (stM u m T) := keepR.st
    have hX2 := hX.ks kS kT
    have hk2 : okLn (stW u m S) u := okLn.sm hk kS.sm hX.1
    have q2 := sk_eq (i := m) hX2 hk2 q.1 (by rw [hsz, sz_sm kS.sm]) (by omega) (by omega)
    have q3 := q2.2 (hz m (by omega))
    have kS2 : keepS S (stW u (m + 1) S) := keepS.st
    have kT2 : keepR T (stM u (m + 1) T) := keepR.st
    refine ⟨q3, fun hm2 => ?_⟩
    exact (sk_eq (i := ((m + 1 : Nat) : Int)) (hX.ks kS2 kT2) (okLn.sm hk kS2.sm hX.1) q3 (by rw [hsz, sz_sm kS2.sm]) (by omega) (by omega)).1
theorem fd_6 (D : Dd) (f u i : Int) : fdD D f u i 264 6 = f ∧ fdD D f u i 264 7 = u ∧ fdD D f u i 264 8 = i := by
  unfold fdD
  refine ⟨?_, ?_, ?_⟩
  · rw [upD_j (by decide), upD_j (by decide), upD_eq]
  · rw [upD_j (by decide), upD_eq]
  · rw [upD_eq]
theorem wa_18 (D : Dd) (u i : Int) : waD D u i 279 18 = u ∧ waD D u i 279 19 = i := by
  unfold waD
  exact ⟨by rw [upD_j (by decide), upD_eq], by rw [upD_eq]⟩
/-- both find the fault f there -/
def BF (u f i : Int) (r1 r2 : Option AV) (D2 E2 : Dd) : Prop := f ≠ 0 ∧ some (vI 1) = r1 ∧ some (vI f) = r2 ∧ (D2 264 6 = f ∧ D2 264 7 = u ∧ D2 264 8 = i) ∧ (E2 279 18 = u ∧ E2 279 19 = i)
theorem kp_sp {x y : Int} (h : x = kpT y) (hy : -1 ≤ y) : (1000000000 < x ↔ 1000000000 < y) ∧ (x ≤ 1000000000 → x = y) := by
  rw [h]
  unfold kpT
  split
  · omega
  · split <;> omega
theorem so_ds {D E : Dd} {u : Int} (hX : XU D E u) (hd : ∀ v : Nat, (v : Int) < u → D 270 v = E 291 v ∧ 0 ≤ D 270 v) : dsR (soD D u) (moD E u) u (szF D u) := by
  have hsz := hX.sz
  have hz := sz_256 hX.1 u
  have hu := hX.2.2.2.1
  refine ⟨so_st D u, ?_, fun j hj => ?_, ?_, fun v hv => ?_⟩
  · rw [keepR.mo E u _ _ (by decide) (by decide)]; exact hsz.symm
  · have e2 : moD E u 287 j = if j = 0 then 0 else -1 := by
      unfold moD fiD
      rw [upD_k (by decide)]
      show (if 287 = 287 ∧ (j : Int) < E 279 11 + 1 then _ else _) = _
      rw [if_pos ⟨rfl, by omega⟩]
    have e1 : soD D u 269 j = if j = 0 then 0 else -1 := by
      unfold soD flD
      rw [upD_k (by decide), upD_rd, if_pos rfl, if_neg (by omega), upD_rd, if_pos rfl]
      by_cases e : j = 0
      · rw [if_pos e, if_pos e]
      · rw [if_neg e, if_neg e]
        show (if 269 = 269 ∧ (0 : Int) ≤ j ∧ (j : Int) < szF D u then (-1 : Int) else _) = _
        rw [if_pos ⟨rfl, by omega, hj⟩]
    rw [e1, e2]
    exact ⟨rfl, by split <;> omega⟩
  · unfold soD
    rw [upD_k (by decide), upD_eq]
  · have e1 : soD D u 270 v = if v = u.toNat then 0 else D 270 v := by
      unfold soD
      rw [upD_rd, if_pos rfl]
      by_cases e : v = u.toNat
      · rw [if_pos e, if_pos e]
      · rw [if_neg e, if_neg e, upD_k (by decide), upD_k (by decide), flD_ne (by decide), upD_k (by decide)]
    have e2 : moD E u 291 v = if v = u.toNat then 0 else E 291 v := by
      unfold moD
      rw [upD_rd, if_pos rfl]
      by_cases e : v = u.toNat
      · rw [if_pos e, if_pos e]
      · rw [if_neg e, if_neg e, fi_k (by decide)]
    rw [e1, e2]
    by_cases e : v = u.toNat
    · rw [if_pos e, if_pos e]; omega
    · rw [if_neg e, if_neg e]
      have := hd v (by omega)
      omega
theorem un_eq {D E D2 E2 : Dd} {u : Int} {r1 r2 : Option AV} (h : XS D E u) (hu : 0 ≤ u ∧ u < D 1 7) (hC : RFo D u r1 D2) (hM : UFo E u r2 E2) : (r1 = some (vI 0) ∧ r2 = some (vI 0) ∧ XS D2 E2 (u + 1)) ∨ ∃ f i, BF u f i r1 r2 D2 E2 := by
  have hXU := h.xu hu
  have hC0 := hC
  have hM0 := hM
  obtain ⟨hSI, hdp, hMI, hc, hds, hacc⟩ := h
  obtain ⟨hI, hf, h0, hw⟩ := hSI
  have hu16 : u < 16 := by have := hI.1; omega
  have hz := sz_256 hI u
  have hmp := mp_eq (E := E) hf hu hc
  have hsz := hXU.sz
  rcases hC with ⟨c1, c2, c3⟩ | ⟨c1, hC⟩
  · rcases hM with ⟨_, m2, m3⟩ | ⟨m1, _⟩
    · subst c3 m3
      exact Or.inr ⟨1, -1, by decide, c2, m2, fd_6 _ _ _ _, wa_18 _ _ _⟩
    · exact absurd (hmp.1 c1) m1
  · rcases hM with ⟨m1, _⟩ | ⟨_, hM⟩
    · exact absurd (hmp.2 m1) c1
    · have hln : ∀ j, 0 ≤ j → j < szF D u → lnF D u j = lnM (frD E u) j u := fun j j0 j1 => ln_eq hXU j0 j1
      rcases hC with ⟨i, i0, i1, i2, i3, i4, i5⟩ | ⟨hok, D1, hkL, hC⟩
      · rcases hM with ⟨k, k0, k1, k2, k3, k4, k5⟩ | ⟨mk, _⟩
        · have e : i = k := by
            apply Classical.byContradiction
            intro ne
            by_cases lt : i < k
            · exact i2 ((hln i i0 i1).trans (k3 i i0 lt))
            · have := i3 k k0 (by omega)
              rw [hln k k0 (by omega)] at this
              omega
          subst e
          subst i5 k5
          rw [hln i i0 i1] at i2 ⊢
          exact Or.inr ⟨lnM (frD E u) i u, i, i2, i4, k4, fd_6 _ _ _ _, wa_18 _ _ _⟩
        · exact absurd ((hln i i0 i1).trans (mk i i0 (by omega))) i2
      · rcases hM with ⟨k, k0, k1, k2, k3, k4, k5⟩ | ⟨mk, hM⟩
        · have := hok k k0 (by omega)
          rw [hln k k0 (by omega)] at this
          omega
        · have hlp : ∀ j, 0 ≤ j → j < szF D u → (lpP D u j ↔ lpM (frD E u) j) := fun j j0 j1 => lp_eq hXU hok j0 j1
          rcases hC with ⟨i, i0, i1, i2, i3, i4, i5⟩ | ⟨hokp, hC⟩
          · rcases hM with ⟨k, k0, k1, k2, k3, k4, k5⟩ | ⟨mkp, _⟩
            · have e : i = k := by
                apply Classical.byContradiction
                intro ne
                by_cases lt : i < k
                · exact k3 i i0 lt ((hlp i i0 i1).1 i2)
                · exact i3 k k0 (by omega) ((hlp k k0 (by omega)).2 k2)
              subst e
              subst i5 k5
              exact Or.inr ⟨7, i, by decide, i4, k4, fd_6 _ _ _ _, wa_18 _ _ _⟩
            · exact absurd ((hlp i i0 i1).1 i2) (mkp i i0 (by omega))
          · rcases hM with ⟨k, k0, k1, k2, k3, k4, k5⟩ | ⟨mkp, hM⟩
            · exact absurd ((hlp k k0 (by omega)).2 k2) (hokp k k0 (by omega))
            · -- the stack
              have hz1 : szF D1 u = szF D u := sz_sm hkL.sm u
              have hI1 := in_sm hkL.sm hI
              have hXU1 : XU D1 (frD E u) u := hXU.kp hkL.sm (fun _ _ => rfl) (fun _ _ _ _ => rfl)
              have hds0 : dsR (soD D1 u) (moD (frD E u) u) u (szF D1 u) := so_ds hXU1 (fun v hv => by
                rw [hkL _ _ (by decide) (by decide), fr_k (by decide)]
                exact ⟨(hds v hv).1, (hdp v hv).1⟩)
              have hXS : XU (soD D1 u) (moD (frD E u) u) u := hXU1.kp (so_sm D1 u) (fun j _ => keepR.mo _ u _ _ (by decide) (by decide)) (fun l j h1 h2 => keepR.mo _ u _ _ (by omega) (by omega))
              have hokS : okLn (soD D1 u) u := okLn.sm (okLn.sm hok hkL.sm hI) (so_sm D1 u) hI1
              have hss := st_same (sz := szF D1 u) hXS hokS (sz_sm (so_sm D1 u) u).symm hds0
              rcases hC with ⟨i, i1, i2, i3, i4, D', i5, i6⟩ | ⟨hall, hC⟩
              · rcases hM with ⟨k, k1, k2, k3, k4, E1, k5, k6⟩ | ⟨mall, _⟩
                · have e : i = k := by
                    apply Classical.byContradiction
                    intro ne
                    by_cases lt : i < k
                    · have := (hss i (by omega) i3).2 i1
                      rw [this, k3 i lt] at i2
                      exact i2 rfl
                    · have q := (hss k (by omega) (fun j hj => i3 j (by omega))).2 (by omega)
                      rw [i3 k (by omega)] at q
                      omega
                  subst e
                  subst i6 k6
                  have q := (hss i (by omega) i3).2 i1
                  rw [← q] at k4
                  exact Or.inr ⟨_, i, i2, i4, k4, fd_6 _ _ _ _, wa_18 _ _ _⟩
                · have q := (hss i (by omega) i3).2 i1
                  rw [mall i (by omega)] at q
                  exact absurd q i2
              · rcases hM with ⟨k, k1, k2, k3, k4, E1, k5, k6⟩ | ⟨mall, hM⟩
                · have q := (hss k (by omega) (fun j hj => hall j (by omega))).2 (by omega)
                  rw [hall k (by omega)] at q
                  omega
                · -- the steps
                  have hfin := hss (szF D1 u).toNat (by omega) (fun j hj => hall j (by omega))
                  have kS : keepS (soD D1 u) (s3 D1 u) := keepS.st
                  have hm3 : m3 (frD E u) u = stM u (szF D1 u).toNat (moD (frD E u) u) := by
                    show stM u (frD E u 279 11).toNat _ = _
                    rw [← hsz, hz1]
                  have kT : keepR (moD (frD E u) u) (m3 (frD E u) u) := keepR.st
                  have hX3 : XU (s3 D1 u) (m3 (frD E u) u) u := hXS.ks kS kT
                  have e3 : smC D (s3 D1 u) := hkL.sm.tr (s3_sm D1 u)
                  have hI3 := in_sm e3 hI
                  have hw3 : wyB (s3 D1 u) := hw.kp (fun k j a b => (s3_keep D1 u k j (by omega) (by omega) (by omega)).trans (hkL k j (by omega) (by omega)))
                  have h03 : s3 D1 u 3 0 = -1 := by rw [e3 _ _ (by decide)]; exact h0
                  have hln3 : okLn (s3 D1 u) u := okLn.sm hok e3 hI
                  have hlp3 : okLp (s3 D1 u) u := okLp.sm hokp e3 hI
                  have hG := GLT.of hI3 h03 hln3 hlp3
                  have hv3 : VLP (s3 D1 u) u := VLP.of h03 hln3 hlp3
                  have kE : ∀ l j, l ≠ 287 → l ≠ 291 → l ≠ 279 → m3 (frD E u) u l j = E l j := fun l j a b c => (keepR.m3 _ u l j a b).trans (fr_k c)
                  have hwy : wyR (m3 (frD E u) u) := by
                    refine ⟨fun j hj => ?_, fun j hj => ?_, fun j hj => ?_⟩
                    · rw [kE _ _ (by decide) (by decide) (by decide)]; exact hMI.2.1 j hj
                    · rw [kE _ _ (by decide) (by decide) (by decide)]; exact hMI.2.2.1 j hj
                    · rw [kE _ _ (by decide) (by decide) (by decide)]; exact hMI.2.2.2 j hj
                  have hsp := st_eq (D := s3 D1 u) (E := m3 (frD E u) u) (u := u) hI3 hw3 hv3 hG hX3.sz (fun j j0 j1 => by have q := hX3.f j0 j1; exact ⟨q.1, q.2.1, q.2.2.1⟩) (fun j hj => (hwy.2.1 j hj).1) (fun j j0 j1 j2 => by
                    have ga := (ok_go (E := E) hln3 j0 j1).2.2.2.2.2 j2
                    have q := (hds (s3 D1 u (atF (s3 D1 u) u j) 1).toNat (by omega)).2
                    unfold gtF
                    rw [if_pos (by omega), kE _ _ (by decide) (by decide) (by decide), ← q, s3_keep D1 u _ _ (by decide) (by decide) (by decide), hkL _ _ (by decide) (by decide)])
                  have hsp2 : spF (s3 D1 u) u = kpT (syF (m3 (frD E u) u)) := hsp
                  have hWS : WS (m3 (frD E u) u) := by
                    refine ⟨?_, hwy, (WV.of hu16 mk mkp).kp (keepR.m3 _ u)⟩
                    have q := hI.2.2 u.toNat (by omega)
                    have q2 := hXU.2.2.2.2.2
                    unfold FM
                    rw [keepR.m3 _ u _ _ (by decide) (by decide), keepR.m3 _ u _ _ (by decide) (by decide), q2.1, q2.2]
                    have := hI.2.1
                    omega
                  have hy := sy_in hWS
                  have hk := kp_sp hsp2 hy.1
                  rcases hC with ⟨s1, s2, s3'⟩ | ⟨s1, s2, s3'⟩
                  · rcases hM with ⟨t1, t2, t3⟩ | ⟨t1, _⟩
                    · subst s3' t3
                      exact Or.inr ⟨11, -1, by decide, s2, t2, fd_6 _ _ _ _, wa_18 _ _ _⟩
                    · have := hk.1.1 s1; omega
                  · rcases hM with ⟨t1, _⟩ | ⟨t1, t2, t3⟩
                    · have := hk.1.2 t1; omega
                    · subst s2 t2
                      have kk := RFo.keep ⟨hI, hf, h0, hw⟩ ⟨hu.1, hu16⟩ hdp hC0
                      have kM := UFo.M hM0
                      refine Or.inl ⟨rfl, rfl, kk.2.1, kk.2.2, UFo.mi hMI (by rw [← hc.2.1]; exact hu) hM0, hc.kp hI kk.1 (fun j hj => kM.2 j (by omega) (by omega) (by omega) (by omega)) (fun l j h1 h2 => kM.1 l j (by omega)), fun v hv => ?_, fun v v0 v1 => ?_⟩
                      · have hq : keepQ (s3 D1 u) (lgU (s3 D1 u) u) := fun k j a b => (keepB.lg k j a).trans (keepQ.rd k j a b)
                        have hy2 : keepY (m3 (frD E u) u) (syD (m3 (frD E u) u)) := sy_kp _
                        subst s3' t3
                        constructor
                        · rw [upD_k (by decide), upD_k (by decide), hq _ _ (by decide) (by decide), hy2 _ _ (by decide) (by decide), hm3]
                          exact (hfin.1.2.2.2.2 v (by omega)).1
                        · rw [upD_rd, upD_rd, if_pos rfl, if_pos rfl]
                          by_cases e : v = u.toNat
                          · rw [if_pos e, if_pos e]; exact hk.2 s1
                          · rw [if_neg e, if_neg e, hq _ _ (by decide) (by decide), hy2 _ _ (by decide) (by decide), kE _ _ (by decide) (by decide) (by decide), s3_keep D1 u _ _ (by decide) (by decide) (by decide), hkL _ _ (by decide) (by decide)]
                            exact (hds v (by omega)).2
                      · by_cases e : v < u
                        · exact hacc.sm kk.1 hI v v0 e
                        · have e : v = u := by omega
                          subst e
                          exact ⟨fun w => c1 ((mp_sm kk.1 v).1 w), hok.sm kk.1 hI, hokp.sm kk.1 hI⟩
theorem XS.up {D E : Dd} {u x : Int} {j : Nat} (h : XS D E u) (hj : 10 ≤ j) : XS D (upD E 279 j x) u := by
  obtain ⟨h1, h2, h3, h4, h5, h6⟩ := h
  refine ⟨h1, h2, h3.u17 (by omega), h4.kp h1.1 (smC.rf D) (fun k hk => upD_j (by omega)) (fun l k a b => upD_k (by omega)), fun v hv => ?_, h6⟩
  rw [upD_k (by decide), upD_k (by decide)]
  exact h5 v hv
theorem un_S {D0 E0 : Dd} (h0 : XS D0 E0 0) : ∀ {m : Nat} {D E : Dd}, (m : Int) ≤ D0 1 7 → SR D0 m D → UR E0 m E → XS D E m ∧ smC D0 D
  | 0, D, E, _, h1, h2 => by
    have h1 : D = D0 := h1
    have h2 : E = E0 := h2
    subst h1 h2
    exact ⟨h0, smC.rf D⟩
  | m + 1, D, E, hm, h1, h2 => by
    obtain ⟨D', a1, a2⟩ := h1
    obtain ⟨E', E1, b1, b2, b3⟩ := h2
    have q := un_S h0 (m := m) (by omega) a1 b1
    have hu : 0 ≤ (m : Int) ∧ (m : Int) < D' 1 7 := ⟨by omega, by rw [q.2 1 7 (by decide)]; omega⟩
    have kk := RFo.C a2
    rcases un_eq q.1 hu a2 b2 with ⟨_, _, w⟩ | ⟨f, i, w⟩
    · rw [b3]
      exact ⟨w.up (by decide), q.2.tr kk.sm⟩
    · have := w.2.1
      cases this
theorem SR.pre {D0 : Dd} : ∀ {m : Nat} {D : Dd}, SR D0 m D → ∀ k : Nat, k < m → ∃ D' D1, SR D0 k D' ∧ RFo D' k (some (vI 0)) D1
  | 0, _, _, k, hk => absurd hk (Nat.not_lt_zero _)
  | m + 1, D, h, k, hk => by
    obtain ⟨D', a1, a2⟩ := h
    by_cases e : k = m
    · subst e; exact ⟨D', D, a1, a2⟩
    · exact SR.pre a1 k (by omega)
theorem UR.pre {D0 : Dd} : ∀ {m : Nat} {D : Dd}, UR D0 m D → ∀ k : Nat, k < m → ∃ D' D1, UR D0 k D' ∧ UFo D' k (some (vI 0)) D1
  | 0, _, _, k, hk => absurd hk (Nat.not_lt_zero _)
  | m + 1, D, h, k, hk => by
    obtain ⟨D', D1, a1, a2, a3⟩ := h
    by_cases e : k = m
    · subst e; exact ⟨D', D1, a1, a2⟩
    · exact UR.pre a1 k (by omega)
/-- what both have found -/
def PRo (D E : Dd) : Prop := D 264 6 = E 279 17 ∧ D 264 7 = E 279 18 ∧ D 264 8 = E 279 19
theorem SR.k264 {D0 : Dd} : ∀ {m : Nat} {D : Dd}, SR D0 m D → ∀ j, D 264 j = D0 264 j
  | 0, D, h, j => by have h : D = D0 := h; rw [h]
  | m + 1, D, h, j => by
    obtain ⟨D', a1, a2⟩ := h
    rw [← SR.k264 a1 j]
    rcases a2 with ⟨_, q, _⟩ | ⟨_, ⟨i, _, _, _, _, q, _⟩ | ⟨_, D1, hk, ⟨i, _, _, _, _, q, _⟩ | ⟨_, ⟨i, _, _, _, q, _⟩ | ⟨_, ⟨_, q, _⟩ | ⟨_, _, q⟩⟩⟩⟩⟩
    · cases q
    · cases q
    · cases q
    · cases q
    · cases q
    · rw [← q, upD_k (by decide)]
      unfold lgU
      rw [keepB.lg _ _ (by decide), keepQ.rd _ _ (by decide) (by decide), s3_keep _ _ _ _ (by decide) (by decide) (by decide), hk _ _ (by decide) (by decide)]
theorem UR.k18 {D0 : Dd} (h17 : D0 279 17 = 0) : ∀ {m : Nat} {D : Dd}, UR D0 m D → D 279 17 = 0 ∧ D 279 18 = D0 279 18 ∧ D 279 19 = D0 279 19
  | 0, D, h => by have h : D = D0 := h; rw [h]; exact ⟨h17, rfl, rfl⟩
  | m + 1, D, h => by
    obtain ⟨D', D1, a1, a2, a3⟩ := h
    have q9 := UR.k18 h17 a1
    rw [a3, upD_eq, upD_j (by decide), upD_j (by decide), ← q9.2.1, ← q9.2.2]
    refine ⟨rfl, ?_⟩
    rcases a2 with ⟨_, q, _⟩ | ⟨_, ⟨i, _, _, z, _, q, _⟩ | ⟨hn, ⟨i, _, _, _, _, q, _⟩ | ⟨hp, ⟨i, _, z, _, q, _⟩ | ⟨h0, ⟨_, q, _⟩ | ⟨_, _, q⟩⟩⟩⟩⟩
    · cases q
    · injection q with q; injection q with q; omega
    · cases q
    · injection q with q; injection q with q; omega
    · cases q
    · have k : ∀ j, j ≠ 10 → j ≠ 11 → D1 279 j = D' 279 j := fun j h1 h2 => by
        rw [← q, upD_k (by decide), sy_kp _ _ _ (by decide) (by decide), keepR.m3 _ _ _ _ (by decide) (by decide), fr_j h1 h2]
      exact ⟨k 18 (by decide) (by decide), k 19 (by decide) (by decide)⟩
theorem pr_eq {D0 E0 D2 E2 : Dd} {r1 r2 : Option AV} (h : XS D0 E0 0) (h17 : E0 279 17 = 0) (h5 : D0 264 5 = 0) (h6 : PRo D0 E0) (hC : SRo D0 r1 D2) (hM : UPo E0 r2 E2) : r1 = r2 ∧ PRo D2 E2 ∧ ((D2 264 5 = 0 ∧ E2 279 20 = 0 ∧ kC D0 D2 ∧ kP E0 E2) ∨ (D2 264 5 = 1 ∧ E2 279 20 = 1 ∧ XS D2 E2 (D0 1 7) ∧ kC D0 D2 ∧ kP E0 E2)) := by
  have hun : D0 1 7 = E0 279 1 := h.2.2.2.1.2.1
  have kCS : ∀ {m : Nat} {D : Dd}, SR D0 m D → kC D0 D := by
    intro m
    induction m with
    | zero => intro D q; have q : D = D0 := q; rw [q]; exact kC.rf D0
    | succ m ih => intro D q; obtain ⟨D', a1, a2⟩ := q; exact (ih a1).tr a2.C
  have hu0 : 0 ≤ D0 1 7 := h.1.1.1.1
  rcases hC with ⟨m, D', a1, a2, a3, a4⟩ | ⟨D', a1, a2, a3⟩
  · rcases hM with ⟨m2, E', E1, x, b1, b2, b3, b4, b5, b6⟩ | ⟨E', b1, b2, b3⟩
    · have e : m = m2 := by
        apply Classical.byContradiction
        intro ne
        by_cases lt : m < m2
        · obtain ⟨E'', E3, c1, c2⟩ := UR.pre b2 m lt
          have q := un_S h (by omega) a2 c1
          rcases un_eq q.1 ⟨by omega, by rw [q.2 1 7 (by decide)]; omega⟩ a3 c2 with ⟨w, _, _⟩ | ⟨f, i, w⟩
          · cases w
          · have w2 := w.2.2.1
            cases w2
            exact w.1 rfl
        · obtain ⟨D'', D3, c1, c2⟩ := SR.pre a2 m2 (by omega)
          have q := un_S h (by omega) c1 b2
          rcases un_eq q.1 ⟨by omega, by rw [q.2 1 7 (by decide)]; omega⟩ c2 b3 with ⟨_, w, _⟩ | ⟨f, i, w⟩
          · cases w; exact b4 rfl
          · have w2 := w.2.1
            cases w2
      subst e
      have q := un_S h (by omega) a2 b2
      have k := UR.keep h.2.2.1 h17 (by omega) b2
      rcases un_eq q.1 ⟨by omega, by rw [q.2 1 7 (by decide)]; omega⟩ a3 b3 with ⟨w, _, _⟩ | ⟨f, i, w⟩
      · cases w
      · obtain ⟨w1, w2, w3, w4, w5⟩ := w
        cases w3
        have hk : kP E0 E2 := by
          rw [b5]
          exact ((k.1.tr b3.M.P).up (by decide)).up (by decide)
        have hd5 : D2 264 5 = 0 := by
          have e5 : D' 264 5 = 0 := by rw [SR.k264 a2]; exact h5
          rcases a3 with ⟨_, _, z⟩ | ⟨_, ⟨i, _, _, _, _, _, z⟩ | ⟨_, D1, hk, ⟨i, _, _, _, _, _, z⟩ | ⟨_, ⟨i, _, _, _, _, D3, z1, z⟩ | ⟨_, ⟨_, _, z⟩ | ⟨_, z, _⟩⟩⟩⟩⟩
          · rw [← z]; unfold fdD; rw [upD_j (by decide), upD_j (by decide), upD_j (by decide)]; exact e5
          · rw [← z]; unfold fdD; rw [upD_j (by decide), upD_j (by decide), upD_j (by decide)]; exact e5
          · rw [← z]; unfold fdD; rw [upD_j (by decide), upD_j (by decide), upD_j (by decide), hk _ _ (by decide) (by decide)]; exact e5
          · rw [← z]; unfold fdD; rw [upD_j (by decide), upD_j (by decide), upD_j (by decide), z1 _ _ (by decide) (by decide), so_keep _ _ _ _ (by decide) (by decide) (by decide), hk _ _ (by decide) (by decide)]; exact e5
          · rw [← z]; unfold fdD; rw [upD_j (by decide), upD_j (by decide), upD_j (by decide)]
            unfold lgU
            rw [keepB.lg _ _ (by decide), keepQ.rd _ _ (by decide) (by decide), s3_keep _ _ _ _ (by decide) (by decide) (by decide), hk _ _ (by decide) (by decide)]; exact e5
          · cases z
        refine ⟨?_, ?_, Or.inl ⟨hd5, by rw [b5, upD_eq], (kCS a2).tr a3.C, hk⟩⟩
        · rw [← a4, b6, w4.1]
        · unfold PRo
          rw [b5]
          refine ⟨?_, ?_, ?_⟩
          · rw [upD_j (by decide), upD_eq]; exact w4.1
          · rw [upD_j (by decide), upD_j (by decide), w5.1]; exact w4.2.1
          · rw [upD_j (by decide), upD_j (by decide), w5.2]; exact w4.2.2
    · obtain ⟨E'', E3, c1, c2⟩ := UR.pre b1 m (by omega)
      have q := un_S h (by omega) a2 c1
      rcases un_eq q.1 ⟨by omega, by rw [q.2 1 7 (by decide)]; omega⟩ a3 c2 with ⟨w, _, _⟩ | ⟨f, i, w⟩
      · cases w
      · have w2 := w.2.2.1
        cases w2
        exact absurd rfl w.1
  · rcases hM with ⟨m2, E', E1, x, b1, b2, b3, b4, b5, b6⟩ | ⟨E', b1, b2, b3⟩
    · obtain ⟨D'', D3, c1, c2⟩ := SR.pre a1 m2 (by omega)
      have q := un_S h (by omega) c1 b2
      rcases un_eq q.1 ⟨by omega, by rw [q.2 1 7 (by decide)]; omega⟩ c2 b3 with ⟨_, w, _⟩ | ⟨f, i, w⟩
      · cases w; exact absurd rfl b4
      · have w2 := w.2.1
        cases w2
    · rw [← hun] at b1
      have q := un_S h (by omega) a1 b1
      have q8 := UR.k18 h17 b1
      have k := UR.keep h.2.2.1 h17 (by omega) b1
      have q1 := q.1.up (j := 20) (x := 1) (by decide)
      have kk : smC D' D2 := by rw [← a2]; exact (smC.rf D').up (by decide)
      rw [show (((D0 1 7).toNat : Nat) : Int) = D0 1 7 by omega] at q1
      refine ⟨a3.symm.trans b3.symm, ?_, Or.inr ⟨by rw [← a2, upD_eq], by rw [b2, upD_eq], ?_, by rw [← a2]; exact (kCS a1).up (by decide), by rw [b2]; exact k.1.up (by decide)⟩⟩
      · unfold PRo
        rw [← a2, b2, upD_j (by decide), upD_j (by decide), upD_j (by decide), upD_j (by decide), upD_j (by decide), upD_j (by decide), SR.k264 a1, SR.k264 a1, SR.k264 a1, q8.1, q8.2.1, q8.2.2]
        refine ⟨?_, h6.2⟩
        rw [h6.1, h17]
      · rw [← b2] at q1
        obtain ⟨p1, p2, p3, p4, p5, p6⟩ := q1
        obtain ⟨i1, i2, i3, i4⟩ := p1
        refine ⟨⟨in_sm kk i1, i2.sm kk, by rw [kk _ _ (by decide)]; exact i3, i4.kp (fun a b h1 h2 => by rw [← a2, upD_k (by omega)])⟩, fun v hv => ?_, p3, p4.kp i1 kk (fun _ _ => rfl) (fun _ _ _ _ => rfl), fun v hv => ?_, p6.sm kk i1⟩
        · rw [← a2, upD_k (by decide)]; exact p2 v hv
        · rw [← a2, upD_k (by decide), upD_k (by decide)]; exact p5 v hv
