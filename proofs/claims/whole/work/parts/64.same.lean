/-! The class's code is the reference's: the same faults -/
def CDe (D E : Dd) : Prop := D 1 6 = E 279 0 ∧ D 1 7 = E 279 1 ∧ (∀ u : Nat, (u : Int) < D 1 7 → D 4 u = E 282 u ∧ D 4 u + D 5 u = E 282 (u + 1) ∧ D 6 u = E 280 u ∧ D 7 u = E 281 u) ∧ (∀ r : Nat, (r : Int) < D 1 8 → D (8 + r) 0 = E 283 r ∧ D (8 + r) 1 = E 284 r ∧ D (8 + r) 2 = E 285 r ∧ D (8 + r) 3 = E 286 r)
/-- the reference has the unit u before it -/
def XU (D E : Dd) (u : Int) : Prop := InC D ∧ InF D ∧ D 3 0 = -1 ∧ (0 ≤ u ∧ u < D 1 7) ∧ CDe D E ∧ E 279 10 = D 4 u.toNat ∧ E 279 11 = D 5 u.toNat
theorem XU.sz {D E : Dd} {u : Int} (h : XU D E u) : szF D u = E 279 11 := by
  obtain ⟨_, _, _, h3, _, _, h6⟩ := h
  unfold szF; rw [if_pos h3, h6]
theorem cd_at {D E : Dd} (hI : InC D) (h : CDe D E) {w i : Int} (hw : 0 ≤ w ∧ w < D 1 7) (hi : 0 ≤ i ∧ i < szF D w) : D (atF D w i) 0 = E 283 (E 282 w.toNat + i).toNat ∧ D (atF D w i) 1 = E 284 (E 282 w.toNat + i).toNat ∧ D (atF D w i) 2 = E 285 (E 282 w.toNat + i).toNat ∧ D (atF D w i) 3 = E 286 (E 282 w.toNat + i).toNat := by
  have q := hI.2.2 w.toNat (by omega)
  have q2 := h.2.2.1 w.toNat (by omega)
  unfold szF at hi
  rw [if_pos hw] at hi
  have e : atF D w i = 8 + (D 4 w.toNat + i).toNat := by unfold atF; rw [if_pos ⟨hw.1, hw.2, hi.1, hi.2⟩]
  rw [e, ← q2.1]
  exact h.2.2.2 _ (by omega)
theorem cd_sz {D E : Dd} (h : CDe D E) {w : Int} (hw : 0 ≤ w ∧ w < D 1 7) : szF D w = E 282 (w + 1).toNat - E 282 w.toNat := by
  have q2 := h.2.2.1 w.toNat (by omega)
  unfold szF
  rw [if_pos hw, show (w + 1).toNat = w.toNat + 1 by omega]
  omega
theorem cd_pl {D E : Dd} (h : CDe D E) {w : Int} (hw : 0 ≤ w ∧ w < D 1 7) : plF D w = E 281 w.toNat ∧ frF D w = E 280 w.toNat := by
  have q2 := h.2.2.1 w.toNat (by omega)
  unfold plF frF
  rw [if_pos hw, if_pos hw]
  exact ⟨q2.2.2.2, q2.2.2.1⟩
theorem XU.f {D E : Dd} {u : Int} (h : XU D E u) {i : Int} (h0 : 0 ≤ i) (h1 : i < szF D u) : (D (atF D u i) 0) = (E 283 (E 279 10 + i).toNat) ∧ (D (atF D u i) 1) = (E 284 (E 279 10 + i).toNat) ∧ (D (atF D u i) 2) = (E 285 (E 279 10 + i).toNat) ∧ (D (atF D u i) 3) = (E 286 (E 279 10 + i).toNat) := by
  obtain ⟨hI, _, _, h3, h4, h5, h6⟩ := h
  have q := cd_at hI h4 h3 ⟨h0, h1⟩
  have q2 := h4.2.2.1 u.toNat (by omega)
  rw [q2.1] at h5
  rw [h5]
  exact q
theorem XU.o {D E : Dd} {u : Int} (h : XU D E u) {i : Int} (h0 : ¬ (0 ≤ i ∧ i < szF D u)) : (D (atF D u i) 0) = -1 := by
  rw [at_out h0]; exact h.2.2.1
theorem mp_eq {D E : Dd} {u : Int} (hf : InF D) (hu : 0 ≤ u ∧ u < D 1 7) (h : CDe D E) : mpP D u ↔ mpM E u := by
  have hp := hf.p u
  have hfr := hf.f u
  have q := cd_pl h hu
  have ho : ∀ v, 0 ≤ v ∧ v < u → frF D u ≠ 0 → (ovP D u v ↔ ovM E u v) := fun v hv h0 => by
    have q1 := cd_pl h (w := v) (by omega)
    have p1 := hf.p v
    have f1 := hf.f v
    unfold ovP ovM
    rw [← q.1, ← q.2, ← q1.1, ← q1.2]
    constructor <;> intro w <;> omega
  unfold mpP mpM
  rw [← q.1, ← q.2, ← h.1, ← h.2.1]
  constructor
  · rintro (w | ⟨w1, w2, w3⟩)
    · exact Or.inl w
    · refine Or.inr ⟨by clear w3; omega, ?_⟩
      rcases w3 with w3 | ⟨v, v0, v1, w3⟩
      · exact Or.inl w3
      · exact Or.inr ⟨v, v0, v1, (ho v ⟨v0, v1⟩ w2).1 w3⟩
  · rintro (w | ⟨w1, w3⟩)
    · exact Or.inl w
    · have w2 : frF D u ≠ 0 := by clear w3; omega
      refine Or.inr ⟨by clear w3; omega, w2, ?_⟩
      rcases w3 with w3 | ⟨v, v0, v1, w3⟩
      · exact Or.inl w3
      · exact Or.inr ⟨v, v0, v1, (ho v ⟨v0, v1⟩ w2).2 w3⟩
theorem wu_eq {D E : Dd} {u n a : Int} (hf : InF D) (hu : 0 ≤ u ∧ u < D 1 7) (h : CDe D E) : wuP D u n a ↔ wuM E u n a := by
  have hp := hf.p a
  by_cases q : 0 ≤ a ∧ a < u
  · have q1 := (cd_pl h (w := a) (by omega)).1
    unfold wuP wuM
    rw [← q1]
    constructor <;> intro w <;> omega
  · unfold wuP wuM
    generalize E 281 a.toNat = x
    constructor <;> intro w <;> omega
theorem cn_eq {D E : Dd} {u n a b c : Int} (hf : InF D) (hu : 0 ≤ u ∧ u < D 1 7) (h : CDe D E) (h1 : ¬ wfP n a b c) (h2 : ¬ wuP D u n a) : cnM E n a c = if cnF D n a c = -1 then 0 else cnF D n a c := by
  have q1 : n = 15 → frF D a = E 280 a.toNat := fun e => (cd_pl h (w := a) (by unfold wuP at h2; omega)).2
  have q2 := hf.f a
  unfold cnM cnF
  by_cases e1 : n = 1 ∨ n = 2 ∨ n = 5 ∨ n = 6 ∨ n = 12 ∨ n = 13
  · rw [if_pos e1, if_pos e1, if_neg (by omega)]
  rw [if_neg e1, if_neg e1]
  by_cases e2 : n = 3 ∨ n = 4
  · rw [if_pos e2, if_pos e2, if_neg (by unfold wfP at h1; omega)]
  rw [if_neg e2, if_neg e2]
  by_cases e3 : n = 15
  · rw [if_pos e3, if_pos e3, ← q1 e3, if_neg (by omega)]
  rw [if_neg e3, if_neg e3]
  by_cases e4 : n = 17
  · rw [if_pos e4, if_pos e4]
    split <;> split <;> (try split) <;> omega
  · rw [if_neg e4, if_neg e4, if_pos rfl]
/-- cells named are no fewer than none -/
theorem cn_lo {D : Dd} {n a b c : Int} (hf : InF D) (h1 : ¬ wfP n a b c) : -1 ≤ cnF D n a c ∧ (n = 15 → 0 ≤ cnF D n a c) ∧ (cnF D n a c = 0 → n = 15) := by
  have q2 := hf.f a
  unfold cnF
  unfold wfP at h1
  split
  · omega
  · split
    · omega
    · split
      · omega
      · split
        · split <;> omega
        · omega
theorem co_eq {D E : Dd} {u n a b c : Int} (hf : InF D) (hu : 0 ≤ u ∧ u < D 1 7) (h : CDe D E) (h1 : ¬ wfP n a b c) (h2 : ¬ wuP D u n a) : coP D u n a b c ↔ coM E u n a b c := by
  have q1 := cn_eq hf hu h h1 h2
  have q2 := cn_lo (D := D) hf h1
  have q3 := (cd_pl h hu).2
  have q4 : n = 5 ∨ n = 6 → frF D a = E 280 a.toNat := fun e => (cd_pl h (w := a) (by unfold wuP at h2; omega)).2
  have q5 : fcM n a b = fcF n a b := rfl
  have q6 : (if n = 5 ∨ n = 6 then E 280 a.toNat else E 280 u.toNat) = frF D (owF u n a) := by
    unfold owF
    by_cases e : n = 5 ∨ n = 6
    · rw [if_pos e, if_pos e, q4 e]
    · rw [if_neg e, if_neg e, q3]
  have q7 : n = 15 → fcF n a b = b := fun e => by unfold fcF; rw [if_pos (by omega)]
  unfold coP coM
  rw [q1, q5, q6]
  by_cases e : cnF D n a c = -1
  · rw [if_pos e]
    constructor <;> intro w <;> omega
  · rw [if_neg e]
    constructor <;> intro w <;> omega
theorem ct_eq {D E : Dd} {u n a b c : Int} (hI : InC D) (hf : InF D) (hu : 0 ≤ u ∧ u < D 1 7) (h : CDe D E) (h1 : ¬ wfP n a b c) (h2 : ¬ wuP D u n a) : ctP D u n a b c ↔ ctM E u n a b c := by
  have q1 := cn_eq hf hu h h1 h2
  have q2 := cn_lo (D := D) hf h1
  have q5 : fcM n a b = fcF n a b := rfl
  have q6 : (if n = 5 ∨ n = 6 then a else u) = owF u n a := rfl
  have hw : 0 ≤ owF u n a ∧ owF u n a < D 1 7 := by
    unfold owF
    unfold wuP at h2
    split <;> omega
  have hsz := cd_sz h hw
  have hfs := (h.2.2.1 (owF u n a).toNat (by omega)).1
  have hlo := (hI.2.2 (owF u n a).toNat (by omega)).1
  unfold ctP ctM exT icM
  rw [q1, q5, q6]
  generalize hcn : cnF D n a c = cn at *
  generalize hww : owF u n a = ow at *
  constructor
  · rintro ⟨w1, w2, i, i0, i1, i2, i3, i4⟩
    have q := cd_at hI h hw ⟨i0, i1⟩
    refine ⟨w2, D (atF D ow i) 1 - fcF n a b, by omega, by rw [if_neg (by omega)]; omega, E 282 ow.toNat + i, by omega, by omega, ?_, ?_⟩
    · rw [← q.1]; exact i2
    · rw [← q.2.1]; omega
  · rintro ⟨w2, x, x0, x1, k, k0, k1, k2, k3⟩
    have e : cn ≠ -1 := fun e => by rw [if_pos e] at x1; omega
    rw [if_neg e] at x1
    have q := cd_at hI h hw (i := k - E 282 ow.toNat) ⟨by omega, by omega⟩
    rw [show E 282 ow.toNat + (k - E 282 ow.toNat) = k by omega] at q
    refine ⟨by omega, w2, k - E 282 ow.toNat, by omega, by omega, ?_, ?_, ?_⟩
    · rw [q.1]; exact k2
    · rw [q.2.1, k3]; omega
    · rw [q.2.1, k3]; omega
theorem it_cg {α : Type} {p q : Prop} {a b b2 : α} (h : p ↔ q) (h2 : ¬ p → b = b2) : itP p a b = itP q a b2 := by
  by_cases e : p
  · rw [it_t e, it_t (h.1 e)]
  · rw [it_f e, it_f (fun w => e (h.2 w)), h2 e]
theorem ln_eq {D E : Dd} {u i : Int} (h : XU D E u) (h0 : 0 ≤ i) (h1 : i < szF D u) : lnF D u i = lnM E i u := by
  have q := h.f h0 h1
  have hz := h.sz
  obtain ⟨hI, hf, _, hu, hc, _, _⟩ := h
  unfold lnF lnM
  rw [q.1, q.2.1, q.2.2.1, q.2.2.2]
  refine it_cg Iff.rfl (fun w1 => it_cg (wu_eq hf hu hc) (fun w2 => it_cg (co_eq hf hu hc w1 w2) (fun w3 => it_cg (ct_eq hI hf hu hc w1 w2) (fun w4 => it_cg ?_ (fun _ => rfl)))))
  unfold gwP gwM
  rw [hz]
  constructor <;> intro w <;> omega
theorem ok_go {D E : Dd} {u : Int} (hk : okLn D u) {i : Int} (h0 : 0 ≤ i) (h1 : i < szF D u) : ((D (atF D u i) 0) = 10 ∨ (D (atF D u i) 0) = 11 → i < (D (atF D u i) 1) ∧ (D (atF D u i) 1) ≤ szF D u) ∧ ((D (atF D u i) 0) = 13 → i < (D (atF D u i) 2) ∧ (D (atF D u i) 2) ≤ szF D u) ∧ ((D (atF D u i) 0) = 14 → 0 ≤ (D (atF D u i) 1) ∧ (D (atF D u i) 1) < i) ∧ ((D (atF D u i) 0) = 12 → 0 ≤ (D (atF D u i) 2) ∧ (D (atF D u i) 2) ≤ 1000000) ∧ (0 ≤ (D (atF D u i) 0) ∧ (D (atF D u i) 0) ≤ 18) ∧ ((D (atF D u i) 0) = 15 ∨ (D (atF D u i) 0) = 16 → 0 ≤ (D (atF D u i) 1) ∧ (D (atF D u i) 1) < u) := by
  have q := ln_0 (hk i h0 h1)
  have q1 := q.1
  have q2 := q.2.1
  have q5 := q.2.2.2.2
  clear q
  unfold gwP at q5
  unfold wfP at q1
  unfold wuP at q2
  omega
theorem ex_eq {D E : Dd} {u : Int} (h : XU D E u) {p q : Int → Prop} (hpq : ∀ j, 0 ≤ j → j < szF D u → (D (atF D u j) 0) = 13 → (p j ↔ q j)) (hq : ∀ j, 0 ≤ j → j < szF D u → q j → (D (atF D u j) 0) = 13) : ex13 D u p ↔ exM E q := by
  unfold ex13 exM
  rw [← h.sz]
  constructor
  · rintro ⟨j, j0, j1, j2, j3⟩
    exact ⟨j, j0, j1, (hpq j j0 j1 j2).1 j3⟩
  · rintro ⟨j, j0, j1, j3⟩
    have j2 := hq j j0 j1 j3
    exact ⟨j, j0, j1, j2, (hpq j j0 j1 j2).2 j3⟩
theorem lp_eq {D E : Dd} {u i : Int} (h : XU D E u) (hk : okLn D u) (h0 : 0 ≤ i) (h1 : i < szF D u) : lpP D u i ↔ lpM E i := by
  have q := h.f h0 h1
  have hz := h.sz
  have hg := ok_go (E := E) hk h0 h1
  have hgi : (D (atF D u i) 0) = 10 ∨ (D (atF D u i) 0) = 11 → (ex13 D u (giQ D u i ((D (atF D u i) 1))) ↔ exM E (giM E i)) := fun e => ex_eq h (fun j j0 j1 j2 => by
    have qj := h.f j0 j1
    unfold giQ giM
    rw [← q.2.1, ← qj.1, ← qj.2.2.1]
    have := (ok_go (E := E) hk j0 j1).2.1 j2
    constructor <;> intro w <;> omega) (fun j j0 j1 w => by rw [(h.f j0 j1).1]; exact w.1.1)
  have hwc : ex13 D u (wcQ D u i) ↔ exM E (wcM E i) := ex_eq h (fun j j0 j1 j2 => by
    have qj := h.f j0 j1
    unfold wcQ wcM
    rw [← q.2.1, ← qj.1, ← qj.2.2.1, ← qj.2.1]
    constructor <;> intro w <;> omega) (fun j j0 j1 w => by rw [(h.f j0 j1).1]; exact w.1)
  have hwn : (D (atF D u i) 0) = 13 → (ex13 D u (wnQ D u i) ↔ exM E (wnM E i)) := fun e => ex_eq h (fun j j0 j1 j2 => by
    have qj := h.f j0 j1
    unfold wnQ wnM
    rw [← q.2.2.1, ← qj.1, ← qj.2.2.1]
    have := hg.2.1 e
    constructor <;> intro w <;> omega) (fun j j0 j1 w => by rw [(h.f j0 j1).1]; exact w.1)
  have hs : ∀ o n, 0 ≤ n → (HS E i o n ↔ (D (atF D u o) 0) = n ∧ (D (atF D u o) 1) = (D (atF D u i) 1)) := fun o n hn => by
    unfold HS
    rw [← hz, ← q.2.1]
    by_cases e : 0 ≤ o ∧ o < szF D u
    · have qo := h.f e.1 e.2
      rw [← qo.1, ← qo.2.1]
      exact ⟨fun w => w.2, fun w => ⟨e, w⟩⟩
    · have qo := h.o e
      rw [qo]
      exact ⟨fun w => absurd w.1 e, fun w => absurd w.1 (by omega)⟩
  unfold lpP lpM
  rw [hs _ _ (by omega), hs _ _ (by omega), ← q.1]
  by_cases e10 : (D (atF D u i) 0) = 10 ∨ (D (atF D u i) 0) = 11
  · have w := hgi e10
    constructor
    · rintro (x | x | x | x)
      · exact Or.inr (Or.inr (Or.inr ⟨e10, w.1 x.2⟩))
      · have := x.1; omega
      · have := x.1; omega
      · have := x.1; omega
    · rintro (x | x | x | x)
      · have := x.1; omega
      · have := x.1; omega
      · have := x.1; omega
      · exact Or.inl ⟨e10, w.2 x.2⟩
  by_cases e12 : (D (atF D u i) 0) = 12
  · constructor
    · rintro (x | x | x | x)
      · exact absurd x.1 e10
      · refine Or.inl ⟨e12, ?_⟩
        rcases x.2 with y | y | y
        · exact Or.inl (fun z => y z.1)
        · exact Or.inl (fun z => y z.2)
        · exact Or.inr (hwc.1 y)
      · have := x.1; omega
      · have := x.1; omega
    · rintro (x | x | x | x)
      · refine Or.inr (Or.inl ⟨e12, ?_⟩)
        rcases x.2 with y | y
        · by_cases z : (D (atF D u (i + 1)) 0) = 13
          · exact Or.inr (Or.inl (fun z2 => y ⟨z, z2⟩))
          · exact Or.inl z
        · exact Or.inr (Or.inr (hwc.2 y))
      · have := x.1; omega
      · have := x.1; omega
      · exact absurd x.1 e10
  by_cases e13 : (D (atF D u i) 0) = 13
  · have w := hwn e13
    have hb := hg.2.1 e13
    have ql := h.f (i := (D (atF D u i) 2) - 1) (by omega) (by omega)
    rw [← q.2.2.1, ← ql.1, ← ql.2.1]
    constructor
    · rintro (x | x | x | x)
      · exact absurd x.1 e10
      · exact absurd x.1 e12
      · refine Or.inr (Or.inl ⟨e13, ?_⟩)
        rcases x.2 with y | y | y | y | y
        · exact Or.inl (Or.inl (fun z => y z.1))
        · exact Or.inl (Or.inl (fun z => y z.2))
        · exact Or.inl (Or.inr (Or.inl y))
        · exact Or.inl (Or.inr (Or.inr y))
        · exact Or.inr (w.1 y)
      · have := x.1; omega
    · rintro (x | x | x | x)
      · exact absurd x.1 e12
      · refine Or.inr (Or.inr (Or.inl ⟨e13, ?_⟩))
        rcases x.2 with (y | y | y) | y
        · by_cases z : (D (atF D u (i - 1)) 0) = 12
          · exact Or.inr (Or.inl (fun z2 => y ⟨z, z2⟩))
          · exact Or.inl z
        · exact Or.inr (Or.inr (Or.inl y))
        · exact Or.inr (Or.inr (Or.inr (Or.inl y)))
        · exact Or.inr (Or.inr (Or.inr (Or.inr (w.2 y))))
      · have := x.1; omega
      · exact absurd x.1 e10
  by_cases e14 : (D (atF D u i) 0) = 14
  · have ha := hg.2.2.1 e14
    have ql := h.f (i := (D (atF D u i) 1)) (by omega) (by omega)
    rw [← q.2.1, ← ql.1, ← ql.2.2.1]
    constructor
    · rintro (x | x | x | x)
      · exact absurd x.1 e10
      · exact absurd x.1 e12
      · exact absurd x.1 e13
      · exact Or.inr (Or.inr (Or.inl x))
    · rintro (x | x | x | x)
      · exact absurd x.1 e12
      · exact absurd x.1 e13
      · exact Or.inr (Or.inr (Or.inr x))
      · exact absurd x.1 e10
  · constructor
    · rintro (x | x | x | x)
      · exact absurd x.1 e10
      · exact absurd x.1 e12
      · exact absurd x.1 e13
      · exact absurd x.1 e14
    · rintro (x | x | x | x)
      · exact absurd x.1 e12
      · exact absurd x.1 e13
      · exact absurd x.1 e14
      · exact absurd x.1 e10
