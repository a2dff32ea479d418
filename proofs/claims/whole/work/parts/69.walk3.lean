/-! The walks: a unit begins, units end -/
theorem LVL.mo {D T : Dd} {lev lev2 : Int} (h : LVL D T lev) (hl : lev2 ≤ lev) : LVL D T lev2 :=
  ⟨fun l q => h.1 l (by omega), fun l q => h.2.1 l (by omega), fun l q => h.2.2.1 l (by omega), fun l q => h.2.2.2.1 l (by omega), fun l l2 a b => h.2.2.2.2 l l2 a (by omega)⟩
theorem cb_v (S : Dd) : (∀ k j, k ≠ 275 → cbS S k j = S k j) ∧ cbS S 275 4 = S 275 4 - 1 ∧ cbS S 275 5 = S 277 (S 275 4 - 1).toNat ∧ cbS S 275 6 = szF S (S 277 (S 275 4 - 1).toNat) ∧ cbS S 275 7 = S 278 (S 275 4 - 1).toNat ∧ cbS S 275 8 = S 275 8 := by
  unfold cbS wgD
  refine ⟨fun k j hk => ?_, ?_, ?_, ?_, ?_, ?_⟩
  · rw [upD_k hk, upD_k hk, upD_k hk, upD_k hk]
  · rw [upD_j (by decide), upD_j (by decide), upD_j (by decide), upD_eq]
  · rw [upD_j (by decide), upD_j (by decide), upD_eq]
  · rw [upD_j (by decide), upD_eq, sz_sm ((smC.rf S).up (by decide))]
  · rw [upD_eq]
  · rw [upD_j (by decide), upD_j (by decide), upD_j (by decide), upD_j (by decide)]
theorem sam_pop {D S T : Dd} {lev f : Int} (h1 : smC D S) (h2 : CDe D T) (h3 : 1 ≤ lev) (a1 : S 275 4 = lev) (a2 : S 275 8 = f) (a3 : ∀ l : Nat, (l : Int) < lev → S 277 l = T 293 l ∧ S 278 l = T 295 l) (h5 : LVL D T (lev - 1)) (h6 : ∀ l : Nat, (l : Int) ≤ lev - 1 → CNT D S T l) : SamW D (cbS S) (lev - 1) f T := by
  have q := cb_v S
  rw [a1] at q
  have e := a3 (lev - 1).toNat (by omega)
  refine ⟨fun k j hk => (q.1 k j (by omega)).trans (h1 k j hk), h2, by omega, ⟨q.2.1, q.2.2.2.2.2.trans a2, fun l hl => ?_, ?_, ?_, ?_⟩, h5, fun l hl => ?_⟩
  · rw [q.1 _ _ (by decide), q.1 _ _ (by decide)]; exact a3 l (by omega)
  · rw [q.2.2.1]; exact e.1
  · rw [q.2.2.2.2.1]; exact e.2
  · rw [q.2.2.2.1, e.1, sz_sm h1]
  · unfold CNT
    simp only [q.1 276 _ (by decide)]
    exact h6 l hl
theorem sam_push {D S T S2 T2 : Dd} {lev f u p a : Int} (hW : WKS D) (h : SamW D S lev f T) (eu : T 293 lev.toNat = u) (ep : T 295 lev.toNat = p) (hp : p < szF D u) (hn : (D (atF D u p) 0) = 15 ∨ (D (atF D u p) 0) = 16) (ha : (D (atF D u p) 1) = a)
    (hs : ∀ k j, k ≠ 275 → ¬ ((k = 277 ∨ k = 278) ∧ j = lev.toNat) → S2 k j = S k j) (sU : S2 277 lev.toNat = u) (sA : S2 278 lev.toNat = p + 1) (s4 : S2 275 4 = lev + 1) (s8 : S2 275 8 = f) (s5 : S2 275 5 = a) (s6 : S2 275 6 = szF D a) (s7 : S2 275 7 = 0)
    (ht : ∀ k j, ¬ (k = 295 ∧ j = lev.toNat) → ¬ ((k = 293 ∨ k = 294 ∨ k = 295) ∧ j = (lev + 1).toNat) → T2 k j = T k j) (t5 : T2 295 lev.toNat = p + 1) (t3 : T2 293 (lev + 1).toNat = a) (t4 : T2 294 (lev + 1).toNat = if (D (atF D u p) 0) = 15 then wrI (T 294 lev.toNat + (D (atF D u p) 2)) else plF D a) (t0 : T2 295 (lev + 1).toNat = 0) : SamW D S2 (lev + 1) f T2 := by
  obtain ⟨h1, h2, h3, ⟨a1, a2, a3, a4, a5, a6⟩, h5, h6⟩ := h
  have hl1 : (lev + 1).toNat = lev.toNat + 1 := by omega
  rw [hl1] at ht t3 t4 t0
  have hu0 := h5.1 lev.toNat (by omega)
  have hp0 := h5.2.2.1 lev.toNat (by omega)
  rw [eu] at hu0 hp0
  rw [ep] at hp0
  have hu : 0 ≤ u ∧ u < D 1 7 := by omega
  have hG := hW.G hu
  have hau : 0 ≤ a ∧ a < u := by
    rcases hn with q | q
    · have := (hW.en hu ⟨hp0.1, hp⟩ q).1; omega
    · have := (hW.ca hu ⟨hp0.1, hp⟩ q).1; omega
  have tU : ∀ l : Nat, (l : Int) ≤ lev → T2 293 l = T 293 l := fun l hl => ht _ _ (by omega) (by omega)
  have tB : ∀ l : Nat, (l : Int) ≤ lev → T2 294 l = T 294 l := fun l hl => ht _ _ (by omega) (by omega)
  have tN : ∀ l : Nat, (l : Int) < lev → T2 295 l = T 295 l := fun l hl => ht _ _ (by omega) (by omega)
  have tC : ∀ j, T2 292 j = T 292 j := fun j => ht _ _ (by omega) (by omega)
  have sz0 := (sz_256 hW.1 a).1
  -- where the begun unit's cells are
  have hbase : 0 < frF D a → ((D (atF D u p) 0) = 15 → T2 294 (lev.toNat + 1) = T 294 lev.toNat + (D (atF D u p) 2) ∧ 0 ≤ (D (atF D u p) 2) ∧ (D (atF D u p) 2) + frF D a ≤ frF D u) ∧ ((D (atF D u p) 0) = 16 → T2 294 (lev.toNat + 1) = plF D a ∧ plF D a ≠ -1) := fun hf => by
    refine ⟨fun q => ?_, fun q => ?_⟩
    · have w := hW.en hu ⟨hp0.1, hp⟩ q
      rw [ha] at w
      have w2 := w.2.2.2 hf
      have hb := HOM.in (l := lev.toNat) hW (by rw [eu]; exact hu.1) (h5.2.2.2.1 lev.toNat (by omega)) (by rw [eu]; omega)
      rw [eu] at hb
      rw [t4, if_pos q, wr_id (by unfold inI; omega)]
      exact ⟨rfl, w.2.2.1, w2.1⟩
    · have w := hW.ca hu ⟨hp0.1, hp⟩ q
      rw [ha] at w
      rw [t4, if_neg (by omega)]
      exact ⟨rfl, by omega⟩
  have hAP : ∀ l : Nat, (l : Int) ≤ lev → APT D T2 l (lev.toNat + 1) := fun l hl hf k k0 k1 k2 => by
    rw [t3] at hf ⊢
    rw [tU l hl] at k1 k2 ⊢
    rw [tB l hl]
    have hul := h5.1 l hl
    have cl := hW.ct (v := T 293 l) (by omega) ⟨k0, k1⟩ k2
    have hb := hbase hf
    rcases hn with q | q
    · have hb := hb.1 q
      rw [hb.1]
      by_cases e : l = lev.toNat
      · subst e
        rw [eu] at k1 k2 ⊢
        have w := ((hW.en hu ⟨hp0.1, hp⟩ q).2.2.2 (by rw [ha]; exact hf)).2 k k0 k1 k2
        rw [ha] at w
        omega
      · have w := h5.2.2.2.2 l lev.toNat (by omega) (by omega)
        unfold APT at w
        rw [eu] at w
        have w := w (by omega) k k0 k1 k2
        omega
    · have hb := hb.2 q
      rw [hb.1]
      obtain ⟨x, x1, x2, x3, x4, x5⟩ := h5.2.2.2.1 l hl (by omega)
      have hlu : u ≤ T 293 l := by
        by_cases e : l = lev.toNat
        · rw [e, eu]; omega
        · have := h5.un (l := l) (l2 := lev.toNat) (by omega) (by omega)
          rw [eu] at this
          omega
      have d := hW.dj (v := x) (w := a) (by omega) (by omega) x2 x3 hb.2 hf
      omega
  have hHO : HOM D T2 (lev.toNat + 1) := fun hf => by
    rw [t3] at hf ⊢
    have hb := hbase hf
    rcases hn with q | q
    · have hb := hb.1 q
      rw [hb.1]
      have w := h5.2.2.2.1 lev.toNat (by omega)
      unfold HOM at w
      rw [eu] at w
      obtain ⟨x, x1, x2, x3, x4, x5⟩ := w (by omega)
      exact ⟨x, by omega, x2, x3, by omega, by omega⟩
    · have hb := hb.2 q
      rw [hb.1]
      exact ⟨a, by omega, hb.2, hf, by omega, by omega⟩
  refine ⟨fun k j hk => (hs k j (by omega) (by omega)).trans (h1 k j hk), ?_, by omega, ⟨s4, s8, fun l hl => ?_, ?_, ?_, ?_⟩, ⟨fun l hl => ?_, fun l hl => ?_, fun l hl => ?_, fun l hl => ?_, fun l l2 w1 w2 => ?_⟩, fun l hl => ?_⟩
  · unfold CDe
    have tk : ∀ k j, k < 292 → T2 k j = T k j := fun k j hk => ht k j (by omega) (by omega)
    simp only [tk 279 _ (by decide), tk 282 _ (by decide), tk 280 _ (by decide), tk 281 _ (by decide), tk 283 _ (by decide), tk 284 _ (by decide), tk 285 _ (by decide), tk 286 _ (by decide)]
    exact h2
  · by_cases e : l = lev.toNat
    · rw [e, sU, sA, tU _ (by omega), t5, eu]; exact ⟨rfl, rfl⟩
    · rw [hs _ _ (by decide) (by omega), hs _ _ (by decide) (by omega), tU l (by omega), tN l (by omega)]
      exact a3 l (by omega)
  · rw [hl1, s5, t3]
  · rw [hl1, s7, t0]
  · rw [hl1, s6, t3]
  · by_cases e : l = lev.toNat + 1
    · rw [e, t3]; omega
    · rw [tU l (by omega)]; exact h5.1 l (by omega)
  · by_cases e : l = lev.toNat
    · rw [e, t3, tU _ (by omega), eu]; exact hau.2
    · rw [tU l (by omega), tU (l + 1) (by omega)]; exact h5.2.1 l (by omega)
  · by_cases e : l = lev.toNat + 1
    · rw [e, t3, t0]; omega
    · rw [tU l (by omega)]
      by_cases e2 : l = lev.toNat
      · rw [e2, t5, eu]; omega
      · rw [tN l (by omega)]; exact h5.2.2.1 l (by omega)
  · by_cases e : l = lev.toNat + 1
    · rw [e]; exact hHO
    · unfold HOM
      rw [tU l (by omega), tB l (by omega)]
      exact h5.2.2.2.1 l (by omega)
  · by_cases e : l2 = lev.toNat + 1
    · rw [e]; exact hAP l (by omega)
    · unfold APT
      rw [tU l (by omega), tB l (by omega), tU l2 (by omega), tB l2 (by omega)]
      exact h5.2.2.2.2 l l2 w1 (by omega)
  · intro k hk
    obtain ⟨b1, b2, b3, b4, b5⟩ := hk
    by_cases e : l = lev.toNat + 1
    · rw [e, t3] at b2 b3
      rw [e, t0] at b4
      have := (hW.G (v := a) (by omega)).lp k b1 b2 b3
      omega
    · rw [tU l (by omega)] at b2 b3 b5 ⊢
      rw [tB l (by omega), tC, hs 276 _ (by decide) (by omega)]
      refine h6 l (by omega) k ⟨b1, b2, b3, ?_⟩
      by_cases e2 : l = lev.toNat
      · subst e2
        rw [t5] at b4 b5
        rw [eu] at b2 b3 b5 ⊢
        rw [ep]
        exact mv_1 hG ⟨hp0.1, hp⟩ (by omega) k b1 b2 b3 b4 b5
      · rw [tN l (by omega)] at b4 b5
        exact ⟨b4, b5⟩
