/-! add, change -/
theorem ml_v (D : Dd) (r n a b c : Int) : (∀ k j, k ≠ 279 → ¬ (283 ≤ k ∧ k ≤ 286) → mlD D r n a b c k j = D k j) ∧ (∀ j, j < 17 → mlD D r n a b c 279 j = D 279 j) ∧ (∀ j, mlD D r n a b c 283 j = if j = r.toNat then n else D 283 j) ∧ (∀ j, mlD D r n a b c 284 j = if j = r.toNat then a else D 284 j) ∧ (∀ j, mlD D r n a b c 285 j = if j = r.toNat then b else D 285 j) ∧ (∀ j, mlD D r n a b c 286 j = if j = r.toNat then c else D 286 j) ∧ mlD D r n a b c 279 20 = 0 ∧ mlD D r n a b c 279 17 = 0 ∧ mlD D r n a b c 279 18 = -1 ∧ mlD D r n a b c 279 19 = -1 := by
  have g := mf_v D
  unfold mlD
  refine ⟨fun k j h1 h2 => ?_, fun j hj => ?_, fun j => ?_, fun j => ?_, fun j => ?_, fun j => ?_, ?_, ?_, ?_, ?_⟩
  · rw [upD_k (by omega), upD_k (by omega), upD_k (by omega), upD_k (by omega), g.1 k j h1]
  · rw [upD_k (by decide), upD_k (by decide), upD_k (by decide), upD_k (by decide)]; exact g.2.2.2.2.2 j hj
  · rw [upD_k (by decide), upD_k (by decide), upD_k (by decide), upD_rd, if_pos rfl, g.1 _ _ (by decide)]
  · rw [upD_k (by decide), upD_k (by decide), upD_rd, if_pos rfl, upD_k (by decide), g.1 _ _ (by decide)]
  · rw [upD_k (by decide), upD_rd, if_pos rfl, upD_k (by decide), upD_k (by decide), g.1 _ _ (by decide)]
  · rw [upD_rd, if_pos rfl, upD_k (by decide), upD_k (by decide), upD_k (by decide), g.1 _ _ (by decide)]
  · rw [upD_k (by decide), upD_k (by decide), upD_k (by decide), upD_k (by decide)]; exact g.2.1
  · rw [upD_k (by decide), upD_k (by decide), upD_k (by decide), upD_k (by decide)]; exact g.2.2.1
  · rw [upD_k (by decide), upD_k (by decide), upD_k (by decide), upD_k (by decide)]; exact g.2.2.2.1
  · rw [upD_k (by decide), upD_k (by decide), upD_k (by decide), upD_k (by decide)]; exact g.2.2.2.2.1
/-- one row of the class -/
def rwD (D : Dd) (k : Nat) (x a b c : Int) : Dd := upD (upD (upD (upD D k 0 x) k 1 a) k 2 b) k 3 c
theorem rw_v (D : Dd) (k : Nat) (x a b c : Int) : (∀ l j, l ≠ k → rwD D k x a b c l j = D l j) ∧ rwD D k x a b c k 0 = x ∧ rwD D k x a b c k 1 = a ∧ rwD D k x a b c k 2 = b ∧ rwD D k x a b c k 3 = c := by
  unfold rwD
  refine ⟨fun l j h => ?_, ?_, ?_, ?_, ?_⟩
  · rw [upD_k h, upD_k h, upD_k h, upD_k h]
  · rw [upD_j (by decide), upD_j (by decide), upD_j (by decide), upD_eq]
  · rw [upD_j (by decide), upD_j (by decide), upD_eq]
  · rw [upD_j (by decide), upD_eq]
  · rw [upD_eq]
theorem sim_add {D D1 D2 : Dd} {x a b c : Int} (h : Sim D) (hg : 1 ≤ D 1 7 ∧ D 1 8 < 256) (e1 : fgD (niD D x a b c) = D1) (e2 : upD (upD (mlD D1 (D1 279 5) x a b c) 279 5 (D1 279 5 + 1)) 282 (D1 279 1).toNat (D1 279 5 + 1) = D2) : D 5 (D 1 7 - 1).toNat = D1 279 5 - D1 282 (D1 279 1 - 1).toNat ∧ D1 279 1 = D 279 1 ∧ D1 279 5 = D 279 5 ∧ Sim D2 := by
  have fg := fg_v (niD D x a b c)
  rw [e1] at fg
  obtain ⟨hc, ⟨hI, hF, h0, hw⟩, hm, hb, h6, h8, hu, _⟩ := id h
  have hI8 := hI.2.1
  have hI7 := hI.1
  have en : niD D x a b c = upD (upD (rwD D (8 + (D 1 8).toNat) x a b c) 1 8 (D 1 8 + 1)) 5 (D 1 7 - 1).toNat (D 5 (D 1 7 - 1).toNat + 1) := rfl
  have rv := rw_v D (8 + (D 1 8).toNat) x a b c
  have n : ∀ l j, ¬ (8 ≤ l ∧ l < 264) → l ≠ 1 → l ≠ 5 → niD D x a b c l j = D l j := fun l j h1 h2 h3 => by rw [en, upD_k h3, upD_k h2, rv.1 l j (by omega)]
  have m1 : ∀ l j, 279 ≤ l → D1 l j = D l j := fun l j hl => by rw [fg.1 _ _ (by omega), n _ _ (by omega) (by omega) (by omega)]
  have e5 : D1 279 5 = D 1 8 := by rw [m1 _ _ (by decide)]; exact h8.symm
  have e7 : D1 279 1 = D 1 7 := by rw [m1 _ _ (by decide)]; exact hc.2.1.symm
  have q1 := hc.2.2.1 (D 1 7 - 1).toNat (by omega)
  rw [show (D 1 7 - 1).toNat + 1 = (D 1 7).toNat by omega] at q1
  have q2 := hu (by omega)
  refine ⟨?_, m1 _ _ (by decide), m1 _ _ (by decide), ?_⟩
  · rw [e5, e7, m1 _ _ (by decide)]
    omega
  rw [e5, e7] at e2
  have ml := ml_v D1 (D 1 8) x a b c
  generalize eN : (D 1 7 - 1).toNat = N at *
  have eN1 : (D 1 7).toNat = N + 1 := by omega
  rw [eN1] at e2 q1 q2
  generalize eR : (D 1 8).toNat = r0 at *
  have w2 : ∀ l j, l ≠ 279 → l ≠ 282 → D2 l j = mlD D1 (D 1 8) x a b c l j := fun l j h1 h2 => by rw [← e2, upD_k h2, upD_k h1]
  have xx : ∀ l j, l < 279 → D2 l j = D1 l j := fun l j hl => by rw [w2 l j (by omega) (by omega), ml.1 l j (by omega) (by omega)]
  have cc : ∀ l j, l < 264 → D2 l j = niD D x a b c l j := fun l j hl => by rw [xx l j (by omega), fg.1 l j (by omega)]
  have c8 : D2 1 8 = D 1 8 + 1 := by rw [cc _ _ (by decide), en, upD_k (by decide), upD_eq]
  have c67 : ∀ j, j ≠ 8 → D2 1 j = D 1 j := fun j hj => by rw [cc _ _ (by decide), en, upD_k (by decide), upD_j hj, rv.1 _ _ (by omega)]
  have s5 : ∀ u, D2 5 u = if u = N then D 5 N + 1 else D 5 u := fun u => by rw [cc _ _ (by decide), en, upD_rd, if_pos rfl, upD_k (by decide), rv.1 _ _ (by omega)]
  have so : ∀ l j, 4 ≤ l → l < 8 → l ≠ 5 → D2 l j = D l j := fun l j h1 h2 h3 => by rw [cc l j (by omega), n l j (by omega) (by omega) h3]
  have row : ∀ r j, r < 256 → r ≠ r0 → D2 (8 + r) j = D (8 + r) j := fun r j h1 h2 => by rw [cc _ _ (by omega), en, upD_k (by omega), upD_k (by omega), rv.1 _ _ (by omega)]
  have row0 : D2 (8 + r0) 0 = x ∧ D2 (8 + r0) 1 = a ∧ D2 (8 + r0) 2 = b ∧ D2 (8 + r0) 3 = c := by
    rw [cc _ _ (by omega), cc _ _ (by omega), cc _ _ (by omega), cc _ _ (by omega), en, upD_k (by omega), upD_k (by omega), upD_k (by omega), upD_k (by omega), upD_k (by omega), upD_k (by omega), upD_k (by omega), upD_k (by omega)]
    exact rv.2
  have y : ∀ j, j ≠ 5 → j < 17 → D2 279 j = D 279 j := fun j h1 h2 => by rw [← e2, upD_k (by decide), upD_j h1, ml.2.1 j h2, m1 _ _ (by decide)]
  have y5 : D2 279 5 = D 1 8 + 1 := by rw [← e2, upD_k (by decide), upD_eq]
  have yq : ∀ j, 17 ≤ j → D2 279 j = mlD D1 (D 1 8) x a b c 279 j := fun j h1 => by rw [← e2, upD_k (by decide), upD_j (by omega)]
  have t2 : ∀ u, D2 282 u = if u = N + 1 then D 1 8 + 1 else D 282 u := fun u => by rw [← e2, upD_rd, if_pos rfl, upD_k (by decide), ml.1 _ _ (by decide) (by decide), m1 _ _ (by decide)]
  have tf : ∀ l j, (l = 280 ∨ l = 281 ∨ 286 < l) → D2 l j = D l j := fun l j hl => by rw [w2 l j (by omega) (by omega), ml.1 l j (by omega) (by omega), m1 l j (by omega)]
  have tn : ∀ j, D2 283 j = (if j = r0 then x else D 283 j) ∧ D2 284 j = (if j = r0 then a else D 284 j) ∧ D2 285 j = (if j = r0 then b else D 285 j) ∧ D2 286 j = (if j = r0 then c else D 286 j) := fun j => by
    rw [w2 _ _ (by decide) (by decide), w2 _ _ (by decide) (by decide), w2 _ _ (by decide) (by decide), w2 _ _ (by decide) (by decide), ml.2.2.1, ml.2.2.2.1, ml.2.2.2.2.1, ml.2.2.2.2.2.1, m1 _ _ (by decide), m1 _ _ (by decide), m1 _ _ (by decide), m1 _ _ (by decide)]
    exact ⟨rfl, rfl, rfl, rfl⟩
  refine Sim.mk h ⟨by rw [c67 _ (by decide), y _ (by decide) (by decide)]; exact hc.1, by rw [c67 _ (by decide), y _ (by decide) (by decide)]; exact hc.2.1, fun u hu2 => ?_, fun r hr => ?_⟩ ⟨by rw [c67 _ (by decide)]; exact hI7, by omega, fun u hu2 => ?_⟩ (fun u hu2 => ?_) ⟨⟨by rw [y _ (by decide) (by decide), ← hc.2.1]; exact hI7, by omega, fun u hu2 => ?_⟩, fun u hu2 => ?_⟩ (by rw [c67 _ (by decide)]; exact h6) (by rw [c8, y5]) (fun _ => ?_) (by rw [cc _ _ (by decide), n _ _ (by decide) (by decide) (by decide)]) (fun l j hl => ?_) ?_ ?_ ?_ ?_ ?_ ?_ ?_ ?_
  · rw [c67 _ (by decide)] at hu2
    have q := hc.2.2.1 u hu2
    rw [so 4 _ (by decide) (by decide) (by decide), so 6 _ (by decide) (by decide) (by decide), so 7 _ (by decide) (by decide) (by decide), tf 280 _ (Or.inl rfl), tf 281 _ (Or.inr (Or.inl rfl)), s5, t2, t2, if_neg (by omega)]
    by_cases w : u = N
    · rw [if_pos w, if_pos (by omega)]
      subst w
      exact ⟨q.1, by omega, q.2.2⟩
    · rw [if_neg w, if_neg (by omega)]; exact q
  · rw [c8] at hr
    have k := tn r
    rw [k.1, k.2.1, k.2.2.1, k.2.2.2]
    by_cases w : r = r0
    · rw [w, if_pos rfl, if_pos rfl, if_pos rfl, if_pos rfl]; exact row0
    · rw [if_neg w, if_neg w, if_neg w, if_neg w, row r _ (by omega) w, row r _ (by omega) w, row r _ (by omega) w, row r _ (by omega) w]
      exact hc.2.2.2 r (by omega)
  · rw [c67 _ (by decide)] at hu2
    have q := hI.2.2 u hu2
    rw [so _ _ (by decide) (by decide) (by decide), s5, c8]
    by_cases w : u = N
    · rw [if_pos w]; subst w; omega
    · rw [if_neg w]; omega
  · rw [c67 _ (by decide)] at hu2
    rw [so _ _ (by decide) (by decide) (by decide), so _ _ (by decide) (by decide) (by decide)]
    exact hF u hu2
  · rw [y _ (by decide) (by decide)] at hu2
    have q := hm.1.1.2.2 u hu2
    have hun := hc.2.1
    rw [y5, t2, t2, if_neg (by omega)]
    by_cases w : u + 1 = N + 1
    · rw [if_pos w]; omega
    · rw [if_neg w]; omega
  · rw [tf 280 _ (Or.inl rfl), tf 281 _ (Or.inr (Or.inl rfl))]; exact hm.1.2 u hu2
  · rw [c67 _ (by decide), eN1, t2, if_pos rfl, y5]
  · rcases hl with hl | hl
    · rw [xx l j (by omega), fg.1 l j (by omega), n l j (by omega) (by omega) (by omega)]
    · exact tf l j (Or.inr (Or.inr hl))
  · rw [xx _ _ (by decide)]; exact fg.2.1
  · rw [xx _ _ (by decide)]; exact fg.2.2.1
  · rw [xx _ _ (by decide)]; exact fg.2.2.2.1
  · rw [xx _ _ (by decide)]; exact fg.2.2.2.2
  · rw [yq _ (by decide)]; exact ml.2.2.2.2.2.2.1
  · rw [yq _ (by decide)]; exact ml.2.2.2.2.2.2.2.1
  · rw [yq _ (by decide)]; exact ml.2.2.2.2.2.2.2.2.1
  · rw [yq _ (by decide)]; exact ml.2.2.2.2.2.2.2.2.2
theorem sim_change {D D1 D2 : Dd} {u i x a b c : Int} (h : Sim D) (hg : 0 ≤ i ∧ i < szF D u) (e1 : rwD (fgD D) (atF D u i) x a b c = D1) (e2 : mlD D1 (D1 282 u.toNat + i) x a b c = D2) : Sim D2 := by
  have fg := fg_v D
  obtain ⟨hc, ⟨hI, hF, h0, hw⟩, hm, hb, h6, h8, hu, _⟩ := id h
  have hui : 0 ≤ u ∧ u < D 1 7 := by
    unfold szF at hg
    split at hg
    · assumption
    · omega
  have hq := hI.2.2 u.toNat (by omega)
  have hq2 := hc.2.2.1 u.toNat (by omega)
  have hI8 := hI.2.1
  have hsz : szF D u = D 5 u.toNat := by unfold szF; rw [if_pos hui]
  have eat : atF D u i = 8 + (D 4 u.toNat + i).toNat := by unfold atF; rw [if_pos (by omega)]
  rw [eat] at e1
  have rv := rw_v (fgD D) (8 + (D 4 u.toNat + i).toNat) x a b c
  rw [e1] at rv
  have m1 : ∀ l j, 264 ≤ l → D1 l j = fgD D l j := fun l j hl => rv.1 l j (by omega)
  have ef : D1 282 u.toNat = D 4 u.toNat := by rw [m1 _ _ (by decide), fg.1 _ _ (by decide)]; exact hq2.1.symm
  rw [ef] at e2
  generalize eR : (D 4 u.toNat + i).toNat = r0 at *
  have ml := ml_v D1 (D 4 u.toNat + i) x a b c
  rw [e2, eR] at ml
  have hr0 : (r0 : Int) < D 1 8 := by omega
  have xx : ∀ l j, l < 279 → D2 l j = D1 l j := fun l j hl => ml.1 l j (by omega) (by omega)
  have cc : ∀ l j, l < 264 → l ≠ 8 + r0 → D2 l j = D l j := fun l j hl hn => by rw [xx l j (by omega), rv.1 l j hn, fg.1 l j (by omega)]
  have tf : ∀ l j, 279 < l → (l < 283 ∨ 286 < l) → D2 l j = D l j := fun l j h1 h2 => by rw [ml.1 l j (by omega) (by omega), m1 l j (by omega), fg.1 l j (by omega)]
  have y : ∀ j, j < 17 → D2 279 j = D 279 j := fun j hj => by rw [ml.2.1 j hj, m1 _ _ (by decide), fg.1 _ _ (by decide)]
  have kc : ∀ j, D2 1 j = D 1 j := fun j => cc _ _ (by decide) (by omega)
  refine Sim.mk h ⟨by rw [kc, y _ (by decide)]; exact hc.1, by rw [kc, y _ (by decide)]; exact hc.2.1, fun v hv => ?_, fun r hr => ?_⟩ ⟨by rw [kc]; exact hI.1, by rw [kc]; exact hI.2.1, fun v hv => ?_⟩ (fun v hv => ?_) ⟨⟨by rw [y _ (by decide)]; exact hm.1.1.1, by rw [y _ (by decide)]; exact hm.1.1.2.1, fun v hv => ?_⟩, fun v hv => ?_⟩ (by rw [kc]; exact h6) (by rw [kc, y _ (by decide)]; exact h8) (fun hv => ?_) (cc _ _ (by decide) (by omega)) (fun l j hl => ?_) ?_ ?_ ?_ ?_ ?_ ?_ ?_ ?_
  · rw [kc] at hv
    rw [cc 4 _ (by decide) (by omega), cc 5 _ (by decide) (by omega), cc 6 _ (by decide) (by omega), cc 7 _ (by decide) (by omega), tf 282 _ (by decide) (by decide), tf 282 _ (by decide) (by decide), tf 280 _ (by decide) (by decide), tf 281 _ (by decide) (by decide)]
    exact hc.2.2.1 v hv
  · rw [kc] at hr
    rw [ml.2.2.1, ml.2.2.2.1, ml.2.2.2.2.1, ml.2.2.2.2.2.1, m1 _ _ (by decide), m1 _ _ (by decide), m1 _ _ (by decide), m1 _ _ (by decide), fg.1 _ _ (by decide), fg.1 _ _ (by decide), fg.1 _ _ (by decide), fg.1 _ _ (by decide)]
    by_cases w : r = r0
    · rw [w, if_pos rfl, if_pos rfl, if_pos rfl, if_pos rfl, xx _ _ (by omega), xx _ _ (by omega), xx _ _ (by omega), xx _ _ (by omega)]
      exact rv.2
    · rw [if_neg w, if_neg w, if_neg w, if_neg w, cc _ _ (by omega) (by omega), cc _ _ (by omega) (by omega), cc _ _ (by omega) (by omega), cc _ _ (by omega) (by omega)]
      exact hc.2.2.2 r hr
  · rw [kc] at hv
    rw [cc _ _ (by decide) (by omega), cc _ _ (by decide) (by omega), kc]
    exact hI.2.2 v hv
  · rw [kc] at hv
    rw [cc _ _ (by decide) (by omega), cc _ _ (by decide) (by omega)]
    exact hF v hv
  · rw [y _ (by decide)] at hv
    rw [tf _ _ (by decide) (by decide), tf _ _ (by decide) (by decide), y _ (by decide)]
    exact hm.1.1.2.2 v hv
  · rw [tf _ _ (by decide) (by decide), tf _ _ (by decide) (by decide)]; exact hm.1.2 v hv
  · rw [kc] at hv ⊢
    rw [tf _ _ (by decide) (by decide), y _ (by decide)]; exact hu hv
  · rcases hl with hl | hl
    · rw [xx l j (by omega), rv.1 l j (by omega), fg.1 l j (by omega)]
    · exact tf l j (by omega) (Or.inr hl)
  · rw [xx _ _ (by decide), m1 _ _ (by decide)]; exact fg.2.1
  · rw [xx _ _ (by decide), m1 _ _ (by decide)]; exact fg.2.2.1
  · rw [xx _ _ (by decide), m1 _ _ (by decide)]; exact fg.2.2.2.1
  · rw [xx _ _ (by decide), m1 _ _ (by decide)]; exact fg.2.2.2.2
  · exact ml.2.2.2.2.2.2.1
  · exact ml.2.2.2.2.2.2.2.1
  · exact ml.2.2.2.2.2.2.2.2.1
  · exact ml.2.2.2.2.2.2.2.2.2
/-! prove, walk -/
theorem sim_prove {D D1 D2 : Dd} {r1 r2 : Option AV} (h : Sim D) (hC : SRo (fgD D) r1 D1) (hk : kC (fgD D) D1) (hM : UPo (mfD D1) r2 D2) : r1 = r2 ∧ Sim D2 := by
  have fg := fg_v D
  have g := mf_v D1
  obtain ⟨hc, hSI, hm, hb, h6, h8, hu, _⟩ := h
  have sf : smC D (fgD D) := fun a b hab => fg.1 a b (by omega)
  have m1 : ∀ l j, 274 < l → D1 l j = D l j := fun l j hl => by rw [hk l j (Or.inr hl), fg.1 l j (by omega)]
  have hmD1 : MI D1 := by
    refine ⟨?_, ⟨fun j hj => by rw [m1 _ _ (by decide)]; exact hm.2.1 j hj, fun j hj => by rw [m1 _ _ (by decide)]; exact hm.2.2.1 j hj, fun j hj => by rw [m1 _ _ (by decide)]; exact hm.2.2.2 j hj⟩⟩
    unfold MF InM
    simp only [m1 279 _ (by decide), m1 282 _ (by decide), m1 281 _ (by decide), m1 280 _ (by decide)]
    exact hm.1
  have hX : XS (fgD D) (mfD D1) 0 := by
    refine ⟨hSI.fg, fun v hv => by omega, hmD1.mf, hc.kp hSI.1 sf (fun j hj => by rw [g.2.2.2.2.2 j (by omega), m1 _ _ (by decide)]) (fun l j h1 h2 => by rw [g.1 l j (by omega), m1 l j (by omega)]), fun v hv => by omega, fun v h0 h1 => by omega⟩
  have q := pr_eq hX g.2.2.1 fg.2.1 ⟨by rw [fg.2.2.1, g.2.2.1], by rw [fg.2.2.2.1, g.2.2.2.1], by rw [fg.2.2.2.2, g.2.2.2.2.1]⟩ hC hM
  refine ⟨q.1, ?_⟩
  have hp := q.2.1
  have key : ∀ (kk : kP (mfD D1) D2), (∀ a b, a < 279 → D2 a b = D1 a b) ∧ (∀ a b, a < 264 → D2 a b = D a b) ∧ (∀ j, j < 10 → D2 279 j = D 279 j) ∧ (∀ l j, (279 < l ∧ l < 287) ∨ 291 < l → D2 l j = D l j) ∧ ∀ l j, 274 < l → l < 279 → D2 l j = D l j := fun kk => by
    have w1 : ∀ a b, a < 279 → D2 a b = D1 a b := fun a b ha => by rw [kk.1 a b (Or.inl ha), g.1 a b (by omega)]
    refine ⟨w1, fun a b ha => by rw [w1 a b (by omega), hk a b (by omega), fg.1 a b (by omega)], fun j hj => by rw [kk.2 j hj, g.2.2.2.2.2 j (by omega), m1 _ _ (by decide)], fun l j hl => by rw [kk.1 l j (Or.inr hl), g.1 l j (by omega), m1 l j (by omega)], fun l j h1 h2 => by rw [w1 l j h2, m1 l j h1]⟩
  have fin : ∀ (kk : kP (mfD D1) D2) (e5 : D2 264 5 = D2 279 20) (hw : wyB D2) (hmi : MI D2) (hac : D2 264 5 = 0 ∨ (D2 264 5 = 1 ∧ ACC D2 (D2 1 7) ∧ ∀ v : Nat, (v : Int) < D2 1 7 → D2 270 v = D2 291 v ∧ D2 274 v = D2 290 v)), Sim D2 := by
    intro kk e5 hw hmi hac
    obtain ⟨w1, w2, w3, w4, w5⟩ := key kk
    have sm : smC D D2 := fun a b hab => w2 a b hab
    refine ⟨hc.kp hSI.1 sm w3 (fun l j h1 h2 => w4 l j (by omega)), ⟨in_sm sm hSI.1, hSI.2.1.sm sm, by rw [sm _ _ (by decide)]; exact hSI.2.2.1, hw⟩, hmi, ⟨fun j hj => by rw [w5 _ _ (by decide) (by decide)]; exact hb.1 j hj, fun j hj => by rw [w5 _ _ (by decide) (by decide)]; exact hb.2 j hj⟩, by rw [w2 _ _ (by decide)]; exact h6, by rw [w2 _ _ (by decide), w3 _ (by decide)]; exact h8, by rw [w2 _ _ (by decide), w3 _ (by decide), w4 _ _ (by decide)]; exact hu, ?_, e5, hac⟩
    unfold PRo at hp ⊢
    rw [w1 264 _ (by decide), w1 264 _ (by decide), w1 264 _ (by decide)]
    exact hp
  rcases q.2.2 with ⟨a1, a2, a3, a4⟩ | ⟨a1, a2, a3, a4, a5⟩
  · obtain ⟨w1, w2, w3, w4, w5⟩ := key a4
    refine fin a4 (by rw [w1 _ _ (by decide), a1, a2]) ?_ ?_ (Or.inl (by rw [w1 _ _ (by decide)]; exact a1))
    · have hs1 : SI D1 := by
        rcases hC with ⟨m, D', c1, c2, c3, c4⟩ | ⟨D', c1, c2, c3⟩
        · exact RFo.si (SR.keep hSI.fg (by have := hSI.fg.1.1; omega) c2).2.1 c3 rfl
        · rw [← c2, upD_eq] at a1
          omega
      exact hs1.2.2.2.kp (fun a b h1 h2 => w1 a b (by omega))
    · rcases hM with ⟨m, D', E1, x, c1, c2, c3, c4, c5, c6⟩ | ⟨D', c1, c2, c3⟩
      · have k := UR.keep hmD1.mf g.2.2.1 (by omega) c2
        rw [c5]
        exact ((UFo.mi k.2.1 ⟨by omega, by rw [k.1.2 1 (by decide)]; exact c1⟩ c3).u17 (by decide)).u17 (by decide)
      · rw [c2, upD_eq] at a2
        omega
  · obtain ⟨w1, w2, w3, w4, w5⟩ := key a5
    obtain ⟨b1, b2, b3, b4, b5, b6⟩ := a3
    have e7 : fgD D 1 7 = D2 1 7 := by rw [w2 _ _ (by decide), fg.1 _ _ (by decide)]
    rw [e7] at b5 b6
    have s12 : smC D1 D2 := fun a b hab => w1 a b (by omega)
    refine fin a5 (by rw [w1 _ _ (by decide), a1, a2]) (b1.2.2.2.kp (fun a b h1 h2 => w1 a b (by omega))) b3 (Or.inr ⟨by rw [w1 _ _ (by decide)]; exact a1, b6.sm s12 b1.1, fun v hv => ?_⟩)
    rw [w1 270 _ (by decide), w1 274 _ (by decide)]
    exact b5 v hv
theorem sim_walk {D D2 : Dd} {b x : Int} (h : Sim D) (h5 : D 264 5 ≠ 0) (hu : 0 < D 1 7) (hr : WR b 0 0 0 (w0M (wkF b 1000000 0 (w0D D)).2) x D2) : x = (wkF b 1000000 0 (w0D D)).1 ∧ Sim D2 := by
  have hW := h.wks h5
  have kk : keepK D (wkF b 1000000 0 (w0D D)).2 := (keepK.w0 D).tr (keepK.wk b 1000000 0 (w0D D))
  have hb : WKB (wkF b 1000000 0 (w0D D)).2 := WI.wk b 1000000 0 (w0D D) (by decide) (WI.w0 hW h.2.2.2.1)
  generalize (wkF b 1000000 0 (w0D D)).2 = D1 at *
  have hc : CDe D D1 := h.1.kp hW.1 (smC.rf D) (fun j _ => kk _ _ (by decide)) (fun l j h1 h2 => kk l j (by omega))
  refine ⟨wk_eq hW hc hu hr, ?_⟩
  have k2 : kW D1 D2 := (kW.w0 D1).tr hr.W
  refine h.kp (fun a b2 h1 h2 => (k2 a b2 h2).trans (kk a b2 h1)) ⟨fun j hj => ?_, fun j hj => ?_⟩
  · rw [k2 _ _ (by decide)]; exact hb.1 j hj
  · rw [k2 _ _ (by decide)]; exact hb.2 j hj
theorem sim_J {D : Dd} {b : Int} (h : Sim D) (h5 : D 264 5 ≠ 0) (hu : 0 < D 1 7) : JJ D 0 0 0 (w0M (wkF b 1000000 0 (w0D D)).2) := by
  have hW := h.wks h5
  have kk : keepK D (wkF b 1000000 0 (w0D D)).2 := (keepK.w0 D).tr (keepK.wk b 1000000 0 (w0D D))
  have hc : CDe D (wkF b 1000000 0 (w0D D)).2 := h.1.kp hW.1 (smC.rf D) (fun j _ => kk _ _ (by decide)) (fun l j h1 h2 => kk l j (by omega))
  exact ⟨by decide, by decide, Or.inr ⟨_, sam_0 hW hc hu⟩⟩
