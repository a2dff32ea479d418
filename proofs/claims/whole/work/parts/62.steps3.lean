/-! The reference's ways, as equations -/
theorem dn_snoc (f : Int → Dd → Dd) : ∀ (m : Nat) (j : Int) (D : Dd), dn f (m + 1) j D = f (j - m) (dn f m j D)
  | 0, j, D => by show f j D = f (j - (0 : Nat)) D; rw [show j - ((0 : Nat) : Int) = j by omega]
  | m + 1, j, D => by
    show dn f (m + 1) (j - 1) (f j D) = f (j - (m + 1 : Nat)) (dn f m (j - 1) (f j D))
    rw [dn_snoc f m (j - 1) (f j D), show j - 1 - (m : Int) = j - (m + 1 : Nat) by omega]
noncomputable def DkM (D : Dd) (l : Int) : Dd := dn rdM2 (D 279 11 - 1 - l).toNat (D 279 11 - 1) D
def toM (D : Dd) (l : Int) : Int := if 0 ≤ l then (D 285 (D 279 10 + l).toNat) - 1 else D 279 11 - 1
noncomputable def ElM (D : Dd) (l : Int) : Dd := dn (stWy l) (toM D l - l).toNat (toM D l) (DkM D l)
noncomputable def QlM (D : Dd) (l j : Int) : Int := kpT (wtF (ElM D l) j l)
noncomputable def rrM (D : Dd) (j : Int) : Int := kpT (DkM D (-1) 289 j.toNat)
theorem Dk_kp (D : Dd) (l : Int) : keepY D (DkM D l) := keepY.dn keepY.rd2
theorem El_kp (D : Dd) (l : Int) : keepY D (ElM D l) := (Dk_kp D l).tr (keepY.dn (keepY.st l))
theorem Dk_s (D : Dd) {l : Int} (h0 : 0 ≤ l) (h1 : l < D 279 11) : DkM D (l - 1) = rdM2 l (DkM D l) := by
  unfold DkM
  rw [show (D 279 11 - 1 - (l - 1)).toNat = (D 279 11 - 1 - l).toNat + 1 by omega, dn_snoc, show D 279 11 - 1 - ((D 279 11 - 1 - l).toNat : Int) = l by omega]
theorem st_rd (l : Int) : ∀ (m : Nat) (t : Int) (D : Dd) (j : Nat), dn (stWy l) m t D 289 j = D 289 j
  | 0, _, _, _ => rfl
  | m + 1, t, D, j => by
    show dn (stWy l) m (t - 1) (stWy l t D) 289 j = _
    rw [st_rd l m]
    unfold stWy
    rw [upD_k (by decide)]
theorem rd2_rd {D : Dd} {k : Int} {j : Nat} (h : j ≠ k.toNat) : rdM2 k D 289 j = D 289 j := by
  unfold rdM2
  by_cases e : (D 283 (D 279 10 + k).toNat) = 13
  · rw [it_t e]
    unfold rdM
    rw [upD_rd, if_pos rfl, if_neg h, st_rd]
  · rw [it_f e]
theorem Dk_rd {D : Dd} {j : Int} : ∀ (m : Nat) (l l2 : Int), l - l2 = m → -1 ≤ l2 → l < D 279 11 → l < j → DkM D l2 289 j.toNat = DkM D l 289 j.toNat
  | 0, l, l2, h, _, _, _ => by rw [show l = l2 by omega]
  | m + 1, l, l2, h, h2, h3, h4 => by
    rw [← Dk_rd m l (l2 + 1) (by omega) (by omega) h3 h4]
    have := Dk_s D (l := l2 + 1) (by omega) (by omega)
    rw [show l2 + 1 - 1 = l2 by omega] at this
    rw [this, rd2_rd (by omega)]
theorem Dk_lo {D : Dd} (h : ∀ j : Nat, j < 256 → -1 ≤ D 289 j) : ∀ (m : Nat) (t : Int) (E : Dd), (∀ j : Nat, j < 256 → -1 ≤ E 289 j) → ∀ j : Nat, j < 256 → -1 ≤ dn rdM2 m t E 289 j
  | 0, _, E, h2 => h2
  | m + 1, t, E, h2 => by
    show ∀ j : Nat, j < 256 → -1 ≤ dn rdM2 m (t - 1) (rdM2 t E) 289 j
    refine Dk_lo h m (t - 1) _ (fun j hj => ?_)
    by_cases e : j = t.toNat
    · unfold rdM2
      by_cases e2 : (E 283 (E 279 10 + t).toNat) = 13
      · rw [it_t e2]
        unfold rdM
        rw [upD_rd, if_pos rfl, if_pos e]
        exact (bh_in _ _).1
      · rw [it_f e2]; exact h2 j hj
    · rw [rd2_rd e]; exact h2 j hj
/-- where lines go: behind themselves -/
def TgM (D : Dd) : Prop := ∀ j : Int, 0 ≤ j → j < D 279 11 → ((D 283 (D 279 10 + j).toNat) = 10 ∨ (D 283 (D 279 10 + j).toNat) = 11 → j < (D 284 (D 279 10 + j).toNat)) ∧ ((D 283 (D 279 10 + j).toNat) = 13 → j < (D 285 (D 279 10 + j).toNat))
theorem TgM.kp {D D2 : Dd} (h : TgM D) (k : keepY D D2) : TgM D2 := by
  intro j h0 h1
  rw [k 279 11 (by decide) (by decide)] at h1
  have q := h j h0 h1
  rw [k 279 _ (by decide) (by decide), k 283 _ (by decide) (by decide), k 284 _ (by decide) (by decide), k 285 _ (by decide) (by decide)]
  exact q
theorem wt_st {E : Dd} {l i t x : Int} (hi : 0 ≤ i) (ht : i < t) : wtF (upD E 288 i.toNat x) t l = wtF E t l := by
  have q : upD E 288 i.toNat x 288 t.toNat = E 288 t.toNat := by rw [upD_rd, if_pos rfl, if_neg (by omega)]
  unfold wtF
  rw [q, upD_k (by decide), upD_k (by decide), upD_k (by decide)]
theorem wy_st {E : Dd} {l i j x : Int} (hT : TgM E) (hi : 0 ≤ i) (hj : i ≤ j) (hm : j < E 279 11) : wyF (upD E 288 i.toNat x) j l = wyF E j l := by
  have q := hT j (by omega) hm
  have e1 : wtF (upD E 288 i.toNat x) (j + 1) l = wtF E (j + 1) l := wt_st hi (by omega)
  have e2 : (E 283 (E 279 10 + j).toNat) = 10 ∨ (E 283 (E 279 10 + j).toNat) = 11 → wtF (upD E 288 i.toNat x) ((E 284 (E 279 10 + j).toNat)) l = wtF E ((E 284 (E 279 10 + j).toNat)) l := fun h => wt_st hi (by have := q.1 h; omega)
  have e3 : (E 283 (E 279 10 + j).toNat) = 13 → wtF (upD E 288 i.toNat x) ((E 285 (E 279 10 + j).toNat)) l = wtF E ((E 285 (E 279 10 + j).toNat)) l := fun h => wt_st hi (by have := q.2 h; omega)
  have e4 : tmF (upD E 288 i.toNat x) j = tmF E j := by funext n; unfold tmF; rw [upD_k (by decide)]
  unfold wyF
  rw [e1, e4]
  simp only [upD_k (D := E) (k := 288) (j := i.toNat) (x := x) (show 279 ≠ 288 by decide), upD_k (D := E) (k := 288) (j := i.toNat) (x := x) (show 283 ≠ 288 by decide), upD_k (D := E) (k := 288) (j := i.toNat) (x := x) (show 284 ≠ 288 by decide), upD_k (D := E) (k := 288) (j := i.toNat) (x := x) (show 285 ≠ 288 by decide), upD_k (D := E) (k := 288) (j := i.toNat) (x := x) (show 289 ≠ 288 by decide), upD_k (D := E) (k := 288) (j := i.toNat) (x := x) (show 290 ≠ 288 by decide)]
  by_cases h10 : (E 283 (E 279 10 + j).toNat) = 10
  · rw [if_pos h10, if_pos h10, e2 (Or.inl h10)]
  rw [if_neg h10, if_neg h10]
  by_cases h11 : (E 283 (E 279 10 + j).toNat) = 11
  · rw [if_pos h11, if_pos h11, e2 (Or.inr h11)]
  rw [if_neg h11, if_neg h11]
  by_cases h13 : (E 283 (E 279 10 + j).toNat) = 13
  · rw [if_pos h13, if_pos h13, e3 h13]
  rw [if_neg h13, if_neg h13]
theorem st_wy {l : Int} : ∀ (m : Nat) (t : Int) (D : Dd), TgM D → t < D 279 11 → 0 ≤ t - m + 1 → ∀ j, t - m < j → j ≤ t → dn (stWy l) m t D 288 j.toNat = wyF (dn (stWy l) m t D) j l
  | 0, t, D, _, _, _, j, h1, h2 => by omega
  | m + 1, t, D, hT, hm, h0, j, h1, h2 => by
    rw [dn_snoc]
    have kE : keepY D (dn (stWy l) m t D) := keepY.dn (keepY.st l)
    have hT2 := hT.kp kE
    have hm2 : dn (stWy l) m t D 279 11 = D 279 11 := kE _ _ (by decide) (by decide)
    have IH := st_wy (l := l) m t D hT hm (by omega)
    generalize dn (stWy l) m t D = E at *
    unfold stWy
    rw [wy_st hT2 (by omega) (by omega) (by omega), upD_rd, if_pos rfl]
    by_cases e : j = t - m
    · rw [if_pos (by omega), e]
    · rw [if_neg (by omega)]
      exact IH j (by omega) h2
theorem kp_bhF {o r : Int} : kpT (bhF o r) = tmT (kpT o) (kpT r) := by unfold bhF cutF; exact kp_bh
theorem kp_grF {x y : Int} : kpT (grF x y) = mxT (kpT x) (kpT y) := by unfold grF; exact kp_mx
theorem kp_cut {v : Int} : kpT (cutF v) = kpT v := by unfold kpT cutF; split <;> (try split) <;> (try split) <;> (try split) <;> omega
theorem kp_tmF {E : Dd} {k n : Int} (hn : 0 ≤ n) : kpT (tmF E k n) = ttT n (kpT (E 289 k.toNat)) := by
  unfold tmF ttT
  by_cases h : n = 0
  · rw [if_pos h, if_pos h]; rfl
  · rw [if_neg h, if_neg h]
    by_cases h2 : E 289 k.toNat < 0
    · have e : kpT (E 289 k.toNat) = -1 := by unfold kpT; rw [if_pos h2]
      rw [if_pos h2, e]; rfl
    · have e : ¬ kpT (E 289 k.toNat) < 0 := by unfold kpT; split <;> (try split) <;> omega
      rw [if_neg h2, if_neg e, kp_cut, kp_mul hn, if_neg h]
theorem rt_M {D : Dd} {n a b g : Int → Int} {sz : Int} (hsz : sz = D 279 11) (hs2 : sz ≤ 256) (hN : ∀ j, 0 ≤ j → j < sz → n j = (D 283 (D 279 10 + j).toNat) ∧ a j = (D 284 (D 279 10 + j).toNat) ∧ b j = (D 285 (D 279 10 + j).toNat)) (hG : GLT n a b sz) (hlo : ∀ j : Nat, j < 256 → -1 ≤ D 289 j) (hst : ∀ j, 0 ≤ j → j < sz → n j = 15 ∨ n j = 16 → g (a j) = D 290 (a j).toNat) : RET n a b g (rrM D) sz (QlM D) := by
  subst hsz
  have hT : TgM D := fun j h0 h1 => by
    have q := hN j h0 h1
    rw [← q.1, ← q.2.1, ← q.2.2]
    exact ⟨fun h => (hG.go j h0 h1 h).1, fun h => by have := hG.lp j h0 h1 h; omega⟩
  -- in a scope, the value is way's
  have hin : ∀ l to j, scT n b (D 279 11) l to → l < j → j ≤ to → j < D 279 11 → QlM D l j = kpT (wyF (ElM D l) j l) := by
    intro l to j hs h1 h2 h3
    have hi := sc_in hG hs
    have kE := El_kp D l
    have hto : toM D l = if 0 ≤ l then to else D 279 11 - 1 := by
      unfold toM
      rcases hs with ⟨rfl, rfl⟩ | ⟨q1, q2, q3, q4⟩
      · rw [if_neg (by omega), if_neg (by omega)]
      · rw [if_pos q1, if_pos q1, q4, (hN l q1 q2).2.2]
    have hjt : j ≤ toM D l := by rw [hto]; split <;> omega
    have htm : toM D l < D 279 11 := by rw [hto]; split <;> omega
    have hw : ElM D l 288 j.toNat = wyF (ElM D l) j l := by
      unfold ElM
      exact st_wy _ _ _ (hT.kp (Dk_kp D l)) (by rw [Dk_kp D l _ _ (by decide) (by decide)]; exact htm) (by omega) j (by omega) hjt
    unfold QlM
    rw [← hw]
    unfold wtF
    by_cases q1 : 0 ≤ l
    · rw [if_pos q1, if_pos]
      have e : ((ElM D l) 285 ((ElM D l) 279 10 + l).toNat) = (D 285 (D 279 10 + l).toNat) := by rw [kE _ _ (by decide) (by decide), kE _ _ (by decide) (by decide)]
      rw [e]
      unfold toM at hjt
      rw [if_pos q1] at hjt
      exact ⟨h1, hjt⟩
    · rw [if_neg q1, if_neg]
      rw [kE _ _ (by decide) (by decide)]
      omega
  have gE : ∀ l j, 0 ≤ j → j < D 279 11 → ((ElM D l) 283 ((ElM D l) 279 10 + j).toNat) = n j ∧ ((ElM D l) 284 ((ElM D l) 279 10 + j).toNat) = a j ∧ ((ElM D l) 285 ((ElM D l) 279 10 + j).toNat) = b j := fun l j h0 h1 => by
    have kE := El_kp D l
    have q := hN j h0 h1
    rw [kE 279 _ (by decide) (by decide), kE 283 _ (by decide) (by decide), kE 284 _ (by decide) (by decide), kE 285 _ (by decide) (by decide)]
    exact ⟨q.1.symm, q.2.1.symm, q.2.2.symm⟩
  have rE : ∀ l j, -1 ≤ l → l < D 279 11 → l < j → ElM D l 289 j.toNat = DkM D (-1) 289 j.toNat := fun l j h0 h1 h2 => by
    unfold ElM
    rw [st_rd, ← Dk_rd (D := D) (j := j) (l + 1).toNat l (-1) (by omega) (by omega) h1 h2]
  have lo : ∀ l, ∀ j : Nat, j < 256 → -1 ≤ ElM D l 289 j := fun l j hj => by
    unfold ElM
    rw [st_rd]
    exact Dk_lo hlo _ _ _ hlo j hj
  refine ⟨fun l j => kp_in _, fun l j h0 h1 h2 h3 => ?_, ?_, fun k => kp_in _, fun k h0 h1 h2 => ?_, fun l to j hs h1 h2 h3 h4 => ?_, fun l to j hs h1 h2 h3 h4 => ?_, fun l to j hs h1 h2 h3 h4 => ?_, fun l to j hs h1 h2 h3 h4 => ?_, fun l to j hs h1 h2 h3 h4 => ?_, fun l to j hs h1 h2 h3 h4 => ?_, fun l to j hs h1 h2 h3 w1 w2 w3 w4 w5 w6 w7 => ?_⟩
  · unfold QlM wtF
    rw [if_pos h0, (gE l l h0 h1).2.2, if_neg (by omega)]; rfl
  · unfold QlM wtF
    rw [if_neg (by omega), El_kp D (-1) _ _ (by decide) (by decide), if_pos rfl]; rfl
  · have q := hG.lp k h0 h1 h2
    unfold rrM
    rw [Dk_rd (D := D) (j := k) k.toNat (k - 1) (-1) (by omega) (by omega) (by omega) (by omega), Dk_s D h0 h1]
    have gk : ((DkM D k) 283 ((DkM D k) 279 10 + k).toNat) = 13 := by
      rw [Dk_kp D k _ _ (by decide) (by decide), Dk_kp D k _ _ (by decide) (by decide), ← (hN k h0 h1).1]; exact h2
    have gb : ((DkM D k) 285 ((DkM D k) 279 10 + k).toNat) = (D 285 (D 279 10 + k).toNat) := by rw [Dk_kp D k _ _ (by decide) (by decide), Dk_kp D k _ _ (by decide) (by decide)]
    unfold rdM2
    rw [it_t gk]
    unfold rdM
    rw [upD_rd, if_pos rfl, if_pos rfl, kp_bhF, gb]
    have e : dn (stWy k) ((D 285 (D 279 10 + k).toNat) - 1 - k).toNat ((D 285 (D 279 10 + k).toNat) - 1) (DkM D k) = ElM D k := by
      unfold ElM toM; rw [if_pos h0]
    rw [e]
    unfold QlM wtF
    rw [if_pos h0, (gE k k h0 h1).2.2, if_pos (by omega)]; rfl
  · have hi := sc_in hG hs
    have g := gE l j (by omega) h3
    rw [hin l to j hs h1 h2 h3]
    unfold wyF
    rw [g.1, if_pos h4, kp_bhF, g.2.1]; rfl
  · have hi := sc_in hG hs
    have g := gE l j (by omega) h3
    rw [hin l to j hs h1 h2 h3]
    unfold wyF
    rw [g.1, if_neg (by omega), if_pos h4, kp_grF, kp_bhF, kp_bhF, g.2.1]; rfl
  · have hi := sc_in hG hs
    have g := gE l j (by omega) h3
    have q := hG.lp j (by omega) h3 h4
    have g2 := gE l (j - 1) (by omega) (by omega)
    have hr : kpT (ElM D l 289 j.toNat) = rrM D j := by unfold rrM; rw [rE l j (by omega) (by omega) h1]
    have hlo2 := lo l j.toNat (by omega)
    have hr1 : ElM D l 289 j.toNat = -1 ↔ rrM D j = -1 := by rw [← hr]; unfold kpT; split <;> (try split) <;> omega
    rw [hin l to j hs h1 h2 h3]
    unfold wyF
    rw [g.1, if_neg (by omega), if_neg (by omega), if_pos h4, g.2.2, g2.2.2, kp_grF, kp_bhF, kp_bhF, kp_tmF (by omega), hr]
    refine congr (congrArg mxT rfl) ?_
    by_cases hc : b (j - 1) = 0
    · rw [if_pos hc, if_pos hc]; rfl
    · rw [if_neg hc, if_neg hc, kp_bhF, kp_bhF]
      by_cases hx : ElM D l 289 j.toNat = -1
      · rw [if_pos hx, if_pos (hr1.1 hx)]; rfl
      · rw [if_neg hx, if_neg (fun w => hx (hr1.2 w)), kp_tmF (by omega), hr]; rfl
  · have hi := sc_in hG hs
    have g := gE l j (by omega) h3
    rw [hin l to j hs h1 h2 h3]
    unfold wyF
    rw [g.1, if_neg (by omega), if_neg (by omega), if_neg (by omega), if_pos h4]
    by_cases h0 : 0 ≤ l
    · rw [(gE l l h0 (by omega)).2.2]
      split <;> rfl
    · rw [if_neg (fun w => h0 w.1), if_neg (fun w => h0 w.1)]; rfl
  · have hi := sc_in hG hs
    have g := gE l j (by omega) h3
    rw [hin l to j hs h1 h2 h3]
    unfold wyF
    rw [g.1, if_neg (by omega), if_neg (by omega), if_neg (by omega), if_neg (by omega), if_pos h4, kp_bhF, g.2.1, El_kp D l _ _ (by decide) (by decide), hst j (by omega) h3 h4]; rfl
  · have hi := sc_in hG hs
    have g := gE l j (by omega) h3
    rw [hin l to j hs h1 h2 h3]
    unfold wyF
    rw [g.1, if_neg (by omega), if_neg (by omega), if_neg (by omega), if_neg (by omega), if_neg (by omega), if_pos h4]
    split <;> rfl
  · have hi := sc_in hG hs
    have g := gE l j (by omega) h3
    rw [hin l to j hs h1 h2 h3]
    unfold wyF
    rw [g.1, if_neg w1, if_neg w2, if_neg w3, if_neg w4, if_neg (by omega), if_neg w7, kp_bhF]; rfl
theorem sy_Q {D : Dd} (h0 : 0 ≤ D 279 11) (hT : TgM D) : kpT (syF D) = QlM D (-1) 0 := by
  have e : syD D = ElM D (-1) := by
    unfold syD ElM DkM toM
    rw [if_neg (by omega), show D 279 11 - 1 - -1 = D 279 11 by omega]
  have k : ElM D (-1) 279 11 = D 279 11 := El_kp D (-1) _ _ (by decide) (by decide)
  have q : wtF (ElM D (-1)) 0 (-1) = if (0 : Int) = D 279 11 then 0 else ElM D (-1) 288 (Int.toNat 0) := by unfold wtF; rw [if_neg (by omega), k]
  unfold QlM
  rw [q]
  unfold syF
  rw [e]
  by_cases h : D 279 11 = 0
  · rw [if_pos h, if_pos h.symm]
  · rw [if_neg h, if_neg (by omega)]; rfl
