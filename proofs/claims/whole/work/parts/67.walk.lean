/-! The walks: what accepted code gives -/
def WKS (D : Dd) : Prop := InC D ∧ InF D ∧ D 3 0 = -1 ∧ (D 1 6 ≤ 4096) ∧ ACC D (D 1 7) ∧ ∀ u : Nat, (u : Int) + 1 < D 1 7 → D 4 u + D 5 u = D 4 (u + 1)
theorem WKS.un {D : Dd} (h : WKS D) {v : Int} (hv : 0 ≤ v ∧ v < D 1 7) : ¬ mpP D v ∧ okLn D v ∧ okLp D v := h.2.2.2.2.1 v hv.1 hv.2
theorem WKS.G {D : Dd} (h : WKS D) {v : Int} (hv : 0 ≤ v ∧ v < D 1 7) : GLT (nU D v) (aU D v) (bU D v) (szF D v) := GLT.of h.1 h.2.2.1 (h.un hv).2.1 (h.un hv).2.2
theorem fc_12 {n a b : Int} (h : n = 12 ∨ n = 13) : fcF n a b = a := by unfold fcF; rw [if_neg (by omega)]
theorem WKS.ct {D : Dd} (h : WKS D) {v k : Int} (hv : 0 ≤ v ∧ v < D 1 7) (hk : 0 ≤ k ∧ k < szF D v) (h12 : (D (atF D v k) 0) = 12 ∨ (D (atF D v k) 0) = 13) : 0 ≤ (D (atF D v k) 1) ∧ (D (atF D v k) 1) < frF D v := by
  have q := (ln_0 ((h.un hv).2.1 k hk.1 hk.2)).2.2.1
  have e1 : cnF D ((D (atF D v k) 0)) ((D (atF D v k) 1)) ((D (atF D v k) 3)) = 1 := by unfold cnF; rw [if_pos (by omega)]
  have e2 : owF v ((D (atF D v k) 0)) ((D (atF D v k) 1)) = v := by unfold owF; rw [if_neg (by omega)]
  have e3 := fc_12 (a := (D (atF D v k) 1)) (b := (D (atF D v k) 2)) h12
  unfold coP at q
  rw [e1, e2, e3] at q
  omega
theorem WKS.en {D : Dd} (h : WKS D) {v p : Int} (hv : 0 ≤ v ∧ v < D 1 7) (hp : 0 ≤ p ∧ p < szF D v) (h15 : (D (atF D v p) 0) = 15) : (0 ≤ (D (atF D v p) 1) ∧ (D (atF D v p) 1) < v) ∧ plF D ((D (atF D v p) 1)) = -1 ∧ 0 ≤ (D (atF D v p) 2) ∧ (0 < frF D ((D (atF D v p) 1)) → (D (atF D v p) 2) + frF D ((D (atF D v p) 1)) ≤ frF D v ∧ ∀ k : Int, 0 ≤ k → k < szF D v → (D (atF D v k) 0) = 12 ∨ (D (atF D v k) 0) = 13 → ¬ ((D (atF D v p) 2) ≤ (D (atF D v k) 1) ∧ (D (atF D v k) 1) < (D (atF D v p) 2) + frF D ((D (atF D v p) 1)))) := by
  have q := ln_0 ((h.un hv).2.1 p hp.1 hp.2)
  have q2 := q.2.1
  have q3 := q.2.2.1
  have q4 := q.2.2.2.1
  have e1 : cnF D ((D (atF D v p) 0)) ((D (atF D v p) 1)) ((D (atF D v p) 3)) = frF D ((D (atF D v p) 1)) := by unfold cnF; rw [if_neg (by omega), if_neg (by omega), if_pos h15]
  have e2 : owF v ((D (atF D v p) 0)) ((D (atF D v p) 1)) = v := by unfold owF; rw [if_neg (by omega)]
  have e3 : fcF ((D (atF D v p) 0)) ((D (atF D v p) 1)) ((D (atF D v p) 2)) = (D (atF D v p) 2) := by unfold fcF; rw [if_pos (by omega)]
  have hf := h.2.1.f ((D (atF D v p) 1))
  clear q
  unfold coP at q3
  rw [e1, e2, e3] at q3
  unfold ctP at q4
  rw [e1, e2, e3] at q4
  have p2 : (0 ≤ (D (atF D v p) 1) ∧ (D (atF D v p) 1) < v) ∧ plF D ((D (atF D v p) 1)) = -1 := by
    clear q4
    unfold wuP at q2
    omega
  have p3 : 0 ≤ (D (atF D v p) 2) := by clear q4; omega
  refine ⟨p2.1, p2.2, p3, fun hpos => ⟨by clear q4; omega, fun k k0 k1 k2 w => ?_⟩⟩
  exact q4 ⟨by clear q4; omega, by clear q4; omega, k, k0, k1, k2, w.1, w.2⟩
theorem WKS.ca {D : Dd} (h : WKS D) {v p : Int} (hv : 0 ≤ v ∧ v < D 1 7) (hp : 0 ≤ p ∧ p < szF D v) (h16 : (D (atF D v p) 0) = 16) : (0 ≤ (D (atF D v p) 1) ∧ (D (atF D v p) 1) < v) ∧ 0 ≤ plF D ((D (atF D v p) 1)) := by
  have q2 := (ln_0 ((h.un hv).2.1 p hp.1 hp.2)).2.1
  have hf := h.2.1.p ((D (atF D v p) 1))
  unfold wuP at q2
  omega
theorem WKS.pl {D : Dd} (h : WKS D) {v : Int} (hv : 0 ≤ v ∧ v < D 1 7) (hp : plF D v ≠ -1) (hf : 0 < frF D v) : 0 ≤ plF D v ∧ plF D v + frF D v ≤ 4096 := by
  have q := (h.un hv).1
  have p := h.2.1.p v
  have h6 := h.2.2.2.1
  have : ¬ D 1 6 < plF D v + frF D v := fun w => q (Or.inr ⟨hp, by omega, Or.inl w⟩)
  omega
theorem WKS.dj {D : Dd} (h : WKS D) {v w : Int} (hv : 0 ≤ v ∧ v < D 1 7) (hw : 0 ≤ w ∧ w < v) (hp : plF D v ≠ -1) (hf : 0 < frF D v) (hp2 : plF D w ≠ -1) (hf2 : 0 < frF D w) : plF D v + frF D v ≤ plF D w ∨ plF D w + frF D w ≤ plF D v := by
  have q := (h.un hv).1
  have : ¬ ovP D v w := fun z => q (Or.inr ⟨hp, by omega, Or.inr ⟨w, hw.1, hw.2, z⟩⟩)
  unfold ovP at this
  omega
theorem WKS.p0 {D : Dd} (h : WKS D) (h0 : 0 < D 1 7) : plF D (D 1 7 - 1) = 0 := by
  have q := (h.un (v := D 1 7 - 1) (by omega)).1
  exact Classical.byContradiction (fun w => q (Or.inl ⟨rfl, w⟩))
theorem WKS.wc {D : Dd} (h : WKS D) {v p k : Int} (hv : 0 ≤ v ∧ v < D 1 7) (hp : 0 ≤ p ∧ p < szF D v) (h12 : (D (atF D v p) 0) = 12) (hk : 0 ≤ k ∧ k < szF D v) (h13 : (D (atF D v k) 0) = 13) (h1 : k < p) (h2 : p < (D (atF D v k) 2)) : (D (atF D v k) 1) ≠ (D (atF D v p) 1) := fun w =>
  (h.un hv).2.2 p hp.1 hp.2 (Or.inr (Or.inl ⟨h12, Or.inr (Or.inr ⟨k, hk.1, hk.2, h13, w, h1, h2⟩)⟩))
/-- a 13 names the counter of its 12 -/
theorem WKS.sa {D : Dd} (h : WKS D) {v k : Int} (hv : 0 ≤ v ∧ v < D 1 7) (hk : 0 ≤ k ∧ k < szF D v) (h13 : (D (atF D v k) 0) = 13) : (D (atF D v (k - 1)) 1) = (D (atF D v k) 1) :=
  Classical.byContradiction (fun w => (h.un hv).2.2 k hk.1 hk.2 (Or.inr (Or.inr (Or.inl ⟨h13, Or.inr (Or.inl w)⟩))))
/-- behind a 12 stands its 13 -/
theorem WKS.nx {D : Dd} (h : WKS D) {v k : Int} (hv : 0 ≤ v ∧ v < D 1 7) (hk : 0 ≤ k ∧ k < szF D v) (h12 : (D (atF D v k) 0) = 12) : (D (atF D v (k + 1)) 0) = 13 ∧ (D (atF D v (k + 1)) 1) = (D (atF D v k) 1) := by
  have q := (h.un hv).2.2 k hk.1 hk.2
  exact ⟨Classical.byContradiction (fun w => q (Or.inr (Or.inl ⟨h12, Or.inl w⟩))), Classical.byContradiction (fun w => q (Or.inr (Or.inl ⟨h12, Or.inr (Or.inl w)⟩)))⟩
theorem WKS.ro {D : Dd} (h : WKS D) {v : Int} : ∀ (m : Nat) (w : Int), w - v = m → 0 ≤ v → w < D 1 7 → v < w → D 4 v.toNat + D 5 v.toNat ≤ D 4 w.toNat
  | 0, w, h1, _, _, h4 => by omega
  | m + 1, w, h1, h2, h3, h4 => by
    have q := h.2.2.2.2.2 (w - 1).toNat (by omega)
    rw [show (w - 1).toNat + 1 = w.toNat by omega] at q
    have q2 := (h.1.2.2 (w - 1).toNat (by omega)).2.1
    by_cases e : v = w - 1
    · rw [e]; omega
    · have := WKS.ro h m (w - 1) (by omega) h2 (by omega) (by omega)
      omega
theorem row_in {D : Dd} (hI : InC D) {v i : Int} (hv : 0 ≤ v ∧ v < D 1 7) (hi : 0 ≤ i ∧ i < szF D v) : rowF D v i = D 4 v.toNat + i ∧ 0 ≤ rowF D v i ∧ rowF D v i < 256 := by
  have q := hI.2.2 v.toNat (by omega)
  have q1 := hI.2.1
  unfold szF at hi
  rw [if_pos hv] at hi
  have e : rowF D v i = D 4 v.toNat + i := by unfold rowF; rw [if_pos (by omega)]
  rw [e]
  omega
/-- rows of two places are apart -/
theorem WKS.rw {D : Dd} (h : WKS D) {v w i j : Int} (hv : 0 ≤ v ∧ v < D 1 7) (hi : 0 ≤ i ∧ i < szF D v) (hw : 0 ≤ w ∧ w < v) (hj : 0 ≤ j ∧ j < szF D w) : (rowF D v i).toNat ≠ (rowF D w j).toNat := by
  have q1 := row_in h.1 hv hi
  have q2 := row_in h.1 (v := w) (by omega) hj
  have q3 := h.ro (v := w) (v - w).toNat v (by omega) hw.1 hv.2 hw.2
  have q4 : szF D w = D 5 w.toNat := by unfold szF; rw [if_pos (by omega)]
  omega
/-! Both walks at the same place -/
def LIV (D T : Dd) (l : Nat) (k : Int) : Prop := 0 ≤ k ∧ k < szF D (T 293 l) ∧ (D (atF D (T 293 l) k) 0) = 13 ∧ k ≤ T 295 l ∧ T 295 l < (D (atF D (T 293 l) k) 2)
def HOM (D T : Dd) (l : Nat) : Prop := 0 < frF D (T 293 l) → ∃ h : Int, (T 293 l ≤ h ∧ h < D 1 7) ∧ plF D h ≠ -1 ∧ 0 < frF D h ∧ plF D h ≤ T 294 l ∧ T 294 l + frF D (T 293 l) ≤ plF D h + frF D h
def APT (D T : Dd) (l l2 : Nat) : Prop := 0 < frF D (T 293 l2) → ∀ k : Int, 0 ≤ k → k < szF D (T 293 l) → (D (atF D (T 293 l) k) 0) = 12 ∨ (D (atF D (T 293 l) k) 0) = 13 → ¬ (T 294 l2 ≤ T 294 l + (D (atF D (T 293 l) k) 1) ∧ T 294 l + (D (atF D (T 293 l) k) 1) < T 294 l2 + frF D (T 293 l2))
def CNT (D S T : Dd) (l : Nat) : Prop := ∀ k : Int, LIV D T l k → S 276 (rowF D (T 293 l) (k - 1)).toNat = T 292 (T 294 l + (D (atF D (T 293 l) k) 1)).toNat ∧ 0 ≤ S 276 (rowF D (T 293 l) (k - 1)).toNat
/-- the levels, without the counters -/
def LVL (D T : Dd) (lev : Int) : Prop := (∀ l : Nat, (l : Int) ≤ lev → 0 ≤ T 293 l ∧ T 293 l + l < D 1 7) ∧ (∀ l : Nat, (l : Int) < lev → T 293 (l + 1) < T 293 l) ∧ (∀ l : Nat, (l : Int) ≤ lev → 0 ≤ T 295 l ∧ T 295 l ≤ szF D (T 293 l)) ∧ (∀ l : Nat, (l : Int) ≤ lev → HOM D T l) ∧ (∀ l l2 : Nat, l < l2 → (l2 : Int) ≤ lev → APT D T l l2)
def SAT (D S T : Dd) (lev f : Int) : Prop := S 275 4 = lev ∧ S 275 8 = f ∧ (∀ l : Nat, (l : Int) < lev → S 277 l = T 293 l ∧ S 278 l = T 295 l) ∧ S 275 5 = T 293 lev.toNat ∧ S 275 7 = T 295 lev.toNat ∧ S 275 6 = szF D (T 293 lev.toNat)
def SamW (D S : Dd) (lev f : Int) (T : Dd) : Prop := smC D S ∧ CDe D T ∧ 0 ≤ lev ∧ SAT D S T lev f ∧ LVL D T lev ∧ ∀ l : Nat, (l : Int) ≤ lev → CNT D S T l
theorem LVL.un {D T : Dd} {lev : Int} (h : LVL D T lev) {l l2 : Nat} (hl : l < l2) : (l2 : Int) ≤ lev → T 293 l2 < T 293 l := by
  intro h2
  have key : ∀ m : Nat, ∀ l2 : Nat, l2 = l + m + 1 → (l2 : Int) ≤ lev → T 293 l2 < T 293 l := by
    intro m
    induction m with
    | zero => intro l2 e q; subst e; exact h.2.1 l (by omega)
    | succ m ih =>
      intro l2 e q
      have q1 := ih (l + m + 1) rfl (by omega)
      have q2 := h.2.1 (l + m + 1) (by omega)
      subst e
      rw [show l + (m + 1) + 1 = l + m + 1 + 1 by omega]
      omega
  exact key (l2 - l - 1) l2 (by omega) h2
/-- cells of a level lie in the row of cells -/
theorem HOM.in {D T : Dd} (h : WKS D) {l : Nat} (h0 : 0 ≤ T 293 l) (hh : HOM D T l) (hf : 0 < frF D (T 293 l)) : 0 ≤ T 294 l ∧ T 294 l + frF D (T 293 l) ≤ 4096 := by
  obtain ⟨x, h1, h2, h3, h4, h5⟩ := hh hf
  have q := h.pl (v := x) (by omega) h2 h3
  omega
