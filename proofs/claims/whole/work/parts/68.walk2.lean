/-! The walks: steps within a level -/
theorem LVL.kp {D T T2 : Dd} {lev p : Int} (h : LVL D T lev) (h0 : 0 ≤ lev) (ht : ∀ k j, k ≠ 292 → ¬ (k = 295 ∧ j = lev.toNat) → T2 k j = T k j) (hp : T2 295 lev.toNat = p) (hp2 : 0 ≤ p ∧ p ≤ szF D (T 293 lev.toNat)) : LVL D T2 lev := by
  have eu : ∀ j, T2 293 j = T 293 j := fun j => ht _ _ (by decide) (fun w => absurd w.1 (by decide))
  have eb : ∀ j, T2 294 j = T 294 j := fun j => ht _ _ (by decide) (fun w => absurd w.1 (by decide))
  obtain ⟨h1, h2, h3, h4, h5⟩ := h
  refine ⟨fun l hl => by rw [eu]; exact h1 l hl, fun l hl => by rw [eu, eu]; exact h2 l hl, fun l hl => ?_, fun l hl => ?_, fun l l2 a b => ?_⟩
  · rw [eu]
    by_cases e : l = lev.toNat
    · rw [e, hp]; exact hp2
    · rw [ht _ _ (by decide) (fun w => e w.2)]; exact h3 l hl
  · unfold HOM; rw [eu, eb]; exact h4 l hl
  · unfold APT; rw [eu, eu, eb, eb]; exact h5 l l2 a b
theorem sam_stp {D S T S2 T2 : Dd} {lev f f2 p : Int} (h : SamW D S lev f T) (hp : 0 ≤ p ∧ p ≤ szF D (T 293 lev.toNat))
    (hs : ∀ k j, k ≠ 276 → ¬ (k = 275 ∧ (j = 7 ∨ j = 8)) → S2 k j = S k j) (hs7 : S2 275 7 = p) (hs8 : S2 275 8 = f2)
    (ht : ∀ k j, k ≠ 292 → ¬ (k = 295 ∧ j = lev.toNat) → T2 k j = T k j) (ht5 : T2 295 lev.toNat = p)
    (hc : ∀ l : Nat, (l : Int) ≤ lev → CNT D S2 T2 l) : SamW D S2 lev f2 T2 := by
  obtain ⟨h1, h2, h3, ⟨a1, a2, a3, a4, a5, a6⟩, h5, h6⟩ := h
  have hI0 : True := trivial
  have eu : ∀ j, T2 293 j = T 293 j := fun j => ht _ _ (by decide) (fun w => absurd w.1 (by decide))
  refine ⟨fun k j hk => (hs k j (by omega) (by omega)).trans (h1 k j hk), ?_, h3, ⟨?_, hs8, fun l hl => ?_, ?_, ?_, ?_⟩, h5.kp h3 ht ht5 hp, hc⟩
  · unfold CDe
    simp only [ht 279 _ (by decide) (fun w => absurd w.1 (by decide)), ht 282 _ (by decide) (fun w => absurd w.1 (by decide)), ht 280 _ (by decide) (fun w => absurd w.1 (by decide)), ht 281 _ (by decide) (fun w => absurd w.1 (by decide)), ht 283 _ (by decide) (fun w => absurd w.1 (by decide)), ht 284 _ (by decide) (fun w => absurd w.1 (by decide)), ht 285 _ (by decide) (fun w => absurd w.1 (by decide)), ht 286 _ (by decide) (fun w => absurd w.1 (by decide))]
    exact h2
  · rw [hs _ _ (by decide) (by omega)]; exact a1
  · rw [hs _ _ (by decide) (by omega), hs _ _ (by decide) (by omega), eu, ht 295 _ (by decide) (by omega)]; exact a3 l hl
  · rw [hs _ _ (by decide) (by omega), eu]; exact a4
  · rw [hs7, ht5]
  · rw [hs _ _ (by decide) (by omega), eu]; exact a6
/-- counters, where a step moves only -/
theorem cnt_mv {D S T S2 T2 : Dd} {lev p : Int} (h0 : 0 ≤ lev) (h : ∀ l : Nat, (l : Int) ≤ lev → CNT D S T l) (hs : ∀ j, S2 276 j = S 276 j) (ht : ∀ k j, ¬ (k = 295 ∧ j = lev.toNat) → T2 k j = T k j) (ht5 : T2 295 lev.toNat = p)
    (hm : ∀ k, 0 ≤ k → k < szF D (T 293 lev.toNat) → (D (atF D (T 293 lev.toNat) k) 0) = 13 → k ≤ p → p < (D (atF D (T 293 lev.toNat) k) 2) → k ≤ T 295 lev.toNat ∧ T 295 lev.toNat < (D (atF D (T 293 lev.toNat) k) 2)) : ∀ l : Nat, (l : Int) ≤ lev → CNT D S2 T2 l := by
  have eu : ∀ j, T2 293 j = T 293 j := fun j => ht _ _ (fun w => absurd w.1 (by decide))
  have eb : ∀ j, T2 294 j = T 294 j := fun j => ht _ _ (fun w => absurd w.1 (by decide))
  have ec : ∀ j, T2 292 j = T 292 j := fun j => ht _ _ (fun w => absurd w.1 (by decide))
  intro l hl k hk
  have hk2 : LIV D T l k := by
    obtain ⟨b1, b2, b3, b4, b5⟩ := hk
    rw [eu] at b2 b3 b5
    by_cases e : l = lev.toNat
    · subst e
      rw [ht5] at b4 b5
      have q := hm k b1 b2 b3 b4 b5
      exact ⟨b1, b2, b3, q.1, q.2⟩
    · rw [ht _ _ (fun w => e w.2)] at b4 b5
      exact ⟨b1, b2, b3, b4, b5⟩
  have q := h l hl k hk2
  rw [hs, eu, eb, ec]
  exact q
/-- counters, where one is set -/
theorem cnt_st {D S T S2 T2 : Dd} {lev f p k0 x : Int} (hW : WKS D) (h : SamW D S lev f T) (hk0 : 0 ≤ k0 ∧ k0 < szF D (T 293 lev.toNat)) (h13 : (D (atF D (T 293 lev.toNat) k0) 0) = 13) (hx : 0 ≤ x)
    (hs : ∀ j, S2 276 j = if j = (rowF D (T 293 lev.toNat) (k0 - 1)).toNat then x else S 276 j)
    (ht : ∀ k j, k ≠ 292 → ¬ (k = 295 ∧ j = lev.toNat) → T2 k j = T k j) (ht5 : T2 295 lev.toNat = p)
    (htc : ∀ j, T2 292 j = if j = (T 294 lev.toNat + (D (atF D (T 293 lev.toNat) k0) 1)).toNat then x else T 292 j)
    (hm : ∀ k, 0 ≤ k → k < szF D (T 293 lev.toNat) → (D (atF D (T 293 lev.toNat) k) 0) = 13 → k ≤ p → p < (D (atF D (T 293 lev.toNat) k) 2) → k = k0 ∨ (k ≤ T 295 lev.toNat ∧ T 295 lev.toNat < (D (atF D (T 293 lev.toNat) k) 2) ∧ (D (atF D (T 293 lev.toNat) k) 1) ≠ (D (atF D (T 293 lev.toNat) k0) 1))) : ∀ l : Nat, (l : Int) ≤ lev → CNT D S2 T2 l := by
  have eu : ∀ j, T2 293 j = T 293 j := fun j => ht _ _ (by decide) (fun w => absurd w.1 (by decide))
  have eb : ∀ j, T2 294 j = T 294 j := fun j => ht _ _ (by decide) (fun w => absurd w.1 (by decide))
  obtain ⟨h1, h2, h3, _, h5, h6⟩ := h
  have hlv : ((lev.toNat : Nat) : Int) = lev := by omega
  have hu : ∀ l : Nat, (l : Int) ≤ lev → 0 ≤ T 293 l ∧ T 293 l < D 1 7 := fun l hl => by have := h5.1 l hl; omega
  have hu0 := hu lev.toNat (by omega)
  have c0 := hW.ct hu0 hk0 (Or.inr h13)
  have hb0 := HOM.in hW hu0.1 (h5.2.2.2.1 lev.toNat (by omega)) (by omega)
  have g0 : 1 ≤ k0 := ((hW.G hu0).lp k0 hk0.1 hk0.2 h13).1
  intro l hl k hk
  obtain ⟨b1, b2, b3, b4, b5⟩ := hk
  rw [eu] at b2 b3 b5
  have hul := hu l hl
  have g1 : 1 ≤ k := ((hW.G hul).lp k b1 b2 b3).1
  have cl := hW.ct hul ⟨b1, b2⟩ (Or.inr b3)
  have hbl := HOM.in hW hul.1 (h5.2.2.2.1 l hl) (by omega)
  rw [eu, eb]
  by_cases e : l = lev.toNat
  · subst e
    rw [ht5] at b4 b5
    have q := hm k b1 b2 b3 b4 b5
    rw [hs, htc]
    by_cases ek : k = k0
    · rw [ek, if_pos rfl, if_pos rfl]; exact ⟨rfl, hx⟩
    · have q : k ≤ T 295 lev.toNat ∧ T 295 lev.toNat < (D (atF D (T 293 lev.toNat) k) 2) ∧ (D (atF D (T 293 lev.toNat) k) 1) ≠ (D (atF D (T 293 lev.toNat) k0) 1) := q.resolve_left ek
      have r1 := row_in hW.1 hu0 (i := k - 1) (by omega)
      have r2 := row_in hW.1 hu0 (i := k0 - 1) (by omega)
      rw [if_neg (by omega), if_neg (by omega)]
      exact h6 _ hl k ⟨b1, b2, b3, q.1, q.2.1⟩
  · rw [ht _ _ (by decide) (fun w => e w.2)] at b4 b5
    have hlt : l < lev.toNat := by omega
    have hun := h5.un hlt (by omega)
    have r := hW.rw hul (i := k - 1) (by omega) ⟨hu0.1, hun⟩ (j := k0 - 1) (by omega)
    have a := h5.2.2.2.2 l lev.toNat hlt (by omega) (by omega) k b1 b2 (Or.inr b3)
    rw [hs, htc, if_neg r, if_neg (by omega)]
    exact h6 l hl k ⟨b1, b2, b3, b4, b5⟩
/-- moves that enter no loop -/
theorem mv_1 {D : Dd} {u p : Int} (hG : GLT (nU D u) (aU D u) (bU D u) (szF D u)) (hp : 0 ≤ p ∧ p < szF D u) (h12 : (D (atF D u p) 0) ≠ 12) : ∀ k, 0 ≤ k → k < szF D u → (D (atF D u k) 0) = 13 → k ≤ p + 1 → p + 1 < (D (atF D u k) 2) → k ≤ p ∧ p < (D (atF D u k) 2) := by
  intro k k0 k1 k2 k3 k4
  have q := hG.lp k k0 k1 k2
  by_cases e : k = p + 1
  · have q2 : (D (atF D u (k - 1)) 0) = 12 := q.2.1
    rw [e, show p + 1 - 1 = p by omega] at q2
    exact absurd q2 h12
  · omega
theorem mv_j {D : Dd} {u p : Int} (hG : GLT (nU D u) (aU D u) (bU D u) (szF D u)) (hp : 0 ≤ p ∧ p < szF D u) (h10 : (D (atF D u p) 0) = 10 ∨ (D (atF D u p) 0) = 11) : ∀ k, 0 ≤ k → k < szF D u → (D (atF D u k) 0) = 13 → k ≤ (D (atF D u p) 1) → (D (atF D u p) 1) < (D (atF D u k) 2) → k ≤ p ∧ p < (D (atF D u k) 2) := by
  intro k k0 k1 k2 k3 k4
  have q := (hG.go p hp.1 hp.2 h10).2.2 k k0 k1 k2 k3 k4
  have q1 : k < p := q.1
  have q2 : p < (D (atF D u k) 2) := q.2
  omega
theorem mv_b {D : Dd} {u p : Int} (hG : GLT (nU D u) (aU D u) (bU D u) (szF D u)) (hp : 0 ≤ p ∧ p < szF D u) (h14 : (D (atF D u p) 0) = 14) : ∀ k, 0 ≤ k → k < szF D u → (D (atF D u k) 0) = 13 → k ≤ (D (atF D u p) 1) → (D (atF D u p) 1) < (D (atF D u k) 2) → k ≤ p ∧ p < (D (atF D u k) 2) := by
  intro k k0 k1 k2 k3 k4
  obtain ⟨q1, q2, q3, q4⟩ := hG.bk p hp.1 hp.2 h14
  have q1 : 0 ≤ (D (atF D u p) 1) := q1
  have q2 : (D (atF D u p) 1) < p := q2
  have q4 : (D (atF D u ((D (atF D u p) 1))) 2) = p + 1 := q4
  by_cases e : k = (D (atF D u p) 1)
  · rw [e, q4]; omega
  · have q5 : (D (atF D u ((D (atF D u p) 1))) 2) < (D (atF D u k) 2) := hG.ne2 k ((D (atF D u p) 1)) k0 k1 q1 (by omega) k2 q3 (by omega) k4
    omega
theorem mv_e {D : Dd} {u p : Int} (hG : GLT (nU D u) (aU D u) (bU D u) (szF D u)) (hp : 0 ≤ p ∧ p < szF D u) (h13 : (D (atF D u p) 0) = 13) : ∀ k, 0 ≤ k → k < szF D u → (D (atF D u k) 0) = 13 → k ≤ (D (atF D u p) 2) → (D (atF D u p) 2) < (D (atF D u k) 2) → k ≤ p ∧ p < (D (atF D u k) 2) := by
  intro k k0 k1 k2 k3 k4
  have q := hG.lp p hp.1 hp.2 h13
  have q5 : p + 2 ≤ (D (atF D u p) 2) := q.2.2.2.1
  have q6 : (D (atF D u ((D (atF D u p) 2) - 1)) 0) = 14 := q.2.2.2.2.2.1
  have w := hG.lp k k0 k1 k2
  have w2 : (D (atF D u (k - 1)) 0) = 12 := w.2.1
  have e1 : k ≠ (D (atF D u p) 2) := fun e => by rw [e] at w2; omega
  have e2 : k ≠ p := fun e => by rw [e] at k4; omega
  by_cases e3 : p < k
  · have : (D (atF D u k) 2) ≤ (D (atF D u p) 2) := hG.ne p k hp.1 hp.2 k0 k1 h13 k2 e3 (by show k < (D (atF D u p) 2); omega)
    omega
  · omega
