/-! The class's ways forward, held against values from behind -/
def fwD (D : Dd) (V : Int → Int) (z m to : Int) : Prop := ∀ j : Int, m ≤ j → j ≤ to → tmT (D 272 j.toNat) (V j) ≤ z
theorem ct_v {D : Dd} (hb : bfB D) {t to s : Int} (ht : 0 ≤ t ∧ t ≤ to) (hto : to ≤ 256) (hs : 0 ≤ s) (j : Nat) : ctD D t to s 272 j = if j = t.toNat then mxT (D 272 t.toNat) (kpT s) else D 272 j := by
  have q := hb t.toNat (by omega)
  unfold ctD
  by_cases h : D 272 t.toNat < s
  · rw [if_pos ⟨ht, h⟩, upD_rd, if_pos rfl]
    by_cases e : j = t.toNat
    · rw [if_pos e, if_pos e]
      unfold mxT kpT
      rw [if_neg (c := s < 0) (by omega)]
      split <;> (try split) <;> omega
    · rw [if_neg e, if_neg e]
  · rw [if_neg (fun w => h w.2)]
    by_cases e : j = t.toNat
    · rw [if_pos e, e]
      unfold mxT kpT
      rw [if_neg (c := s < 0) (by omega)]
      split <;> (try split) <;> omega
    · rw [if_neg e]
theorem fw_ct {D : Dd} {V : Int → Int} {z m to t s : Int} (hb : bfB D) (hz : -1 ≤ z) (hm : 0 ≤ m ∧ m ≤ t) (hto : to ≤ 256) (hs : 0 ≤ s) : fwD (ctD D t to s) V z m to ↔ fwD D V z m to ∧ tmT (kpT s) (vtT V to t) ≤ z := by
  unfold vtT
  by_cases h : t ≤ to
  · rw [if_pos h]
    have q := ct_v hb (t := t) (to := to) (s := s) (by omega) hto hs
    unfold fwD
    constructor
    · intro w
      have w1 := w t hm.2 h
      rw [q, if_pos rfl, tm_mx, mx_le] at w1
      refine ⟨fun j h1 h2 => ?_, w1.2⟩
      by_cases e : j = t
      · rw [e]; exact w1.1
      · have := w j h1 h2
        rw [q, if_neg (by omega)] at this
        exact this
    · rintro ⟨w, w2⟩ j h1 h2
      rw [q]
      by_cases e : j = t
      · rw [e, if_pos rfl, tm_mx, mx_le]
        exact ⟨w t hm.2 h, w2⟩
      · rw [if_neg (by omega)]; exact w j h1 h2
  · rw [if_neg h, tm_n]
    have e : ctD D t to s = D := by unfold ctD; rw [if_neg (fun w => h w.1.2)]
    rw [e]
    exact ⟨fun w => ⟨w, hz⟩, fun w => w.1⟩
theorem fw_ce {V : Int → Int} {z m to s : Int} (hz : -1 ≤ z) (hm : 0 ≤ m) (hto : to ≤ 256) (hs : 0 ≤ s) : ∀ {es : List (Int × Int)} {D : Dd}, bfB D → (∀ e ∈ es, m ≤ e.1 ∧ 0 ≤ e.2) → (fwD (ceD D to s es) V z m to ↔ fwD D V z m to ∧ ∀ e ∈ es, tmT (kpT (s + e.2)) (vtT V to e.1) ≤ z)
  | [], D, _, _ => ⟨fun h => ⟨h, fun e he => absurd he (by simp)⟩, fun h => h.1⟩
  | (t, w) :: r, D, hb, he => by
    have h1 := he (t, w) (by simp)
    show fwD (ceD (ctD D t to (s + w)) to s r) V z m to ↔ _
    rw [fw_ce hz hm hto hs (hb.ct (by omega)) (fun e q => he e (by simp [q])), fw_ct hb hz ⟨hm, h1.1⟩ hto (by omega), and_assoc]
    simp only [List.mem_cons, forall_eq_or_imp]
theorem tm_kw {s w v : Int} (hs : inT s ∧ 0 ≤ s) (hw : 0 ≤ w) : tmT (kpT (s + w)) v = tmT s (tmT (kpT w) v) := by
  have e : kpT (s + w) = tmT s (kpT w) := by
    have := hs.1
    unfold inT at this
    unfold kpT tmT
    rw [if_neg (c := s + w < 0) (by omega), if_neg (c := w < 0) (by omega)]
    split <;> split <;> (try split) <;> (try split) <;> omega
  rw [e, tm_as _ _ _ (kp_in w)]
theorem tm_sm {s x y z : Int} : tmT s (mxT x y) ≤ z ↔ tmT s x ≤ z ∧ tmT s y ≤ z := by
  rw [tm_cm, tm_mx, mx_le, tm_cm x, tm_cm y]
theorem ed_kp {D D2 : Dd} (k : keepB D D2) (hI : InC D) (u i : Int) : edF D2 u i = edF D u i := by
  have q : srF D2 i = srF D i := by funext t; unfold srF; rw [k _ _ (by decide)]
  have q2 : gtF D2 274 = gtF D 274 := by funext t; unfold gtF; rw [k _ _ (by decide)]
  unfold edF
  rw [f_sm k.sm hI, f_sm k.sm hI, f_sm k.sm hI, f_sm k.sm hI, q, q2, sz_sm k.sm]
abbrev nU (D : Dd) (u : Int) : Int → Int := fun i => (D (atF D u i) 0)
abbrev aU (D : Dd) (u : Int) : Int → Int := fun i => (D (atF D u i) 1)
abbrev bU (D : Dd) (u : Int) : Int → Int := fun i => (D (atF D u i) 2)
theorem ed_ev {D : Dd} {u i to z s : Int} {V rr : Int → Int} (hr : rdB D) (hg : grB D) (hv : V13 D u) (hs : inT s ∧ 0 ≤ s) (hi : 0 ≤ i ∧ i < 256) (hrr : (D (atF D u i) 0) = 13 → kpT (D 273 i.toNat) = rr i) : (∀ e ∈ edF D u i, tmT (kpT (s + e.2)) (vtT V to e.1) ≤ z) ↔ tmT s (evT (nU D u) (aU D u) (bU D u) (gtF D 274) rr (szF D u) to i V) ≤ z := by
  have hw := ed_w hr hg (u := u) (i := i) (hv i)
  have h1 : kpT 1 = 1 := rfl
  have h2 : kpT 2 = 2 := rfl
  unfold edF at hw ⊢
  unfold evT
  by_cases h10 : (D (atF D u i) 0) = 10
  · rw [if_pos h10] at hw ⊢
    rw [if_pos h10]
    simp only [List.mem_singleton, forall_eq] at hw ⊢
    rw [tm_kw hs (by omega), h1]
  rw [if_neg h10] at hw ⊢
  rw [if_neg h10]
  by_cases h11 : (D (atF D u i) 0) = 11
  · rw [if_pos h11] at hw ⊢
    rw [if_pos h11]
    simp only [List.mem_cons, List.not_mem_nil, or_false, forall_eq_or_imp, forall_eq] at hw ⊢
    rw [tm_kw hs (by omega), tm_kw hs (by omega), h1, tm_sm]
  rw [if_neg h11] at hw ⊢
  rw [if_neg h11]
  by_cases h13 : (D (atF D u i) 0) = 13
  · rw [if_pos h13] at hw ⊢
    rw [if_pos h13]
    by_cases hc : (D (atF D u (i - 1)) 2) = 0
    · rw [if_pos hc] at hw ⊢
      rw [if_pos hc]
      simp only [List.mem_singleton, forall_eq] at hw ⊢
      rw [tm_kw hs (by omega), h1]
    · rw [if_neg hc] at hw ⊢
      rw [if_neg hc]
      simp only [List.mem_singleton, forall_eq] at hw ⊢
      have hx : kpT (1 + srF D i ((D (atF D u (i - 1)) 2) - 1)) = wkT (bU D u) rr i := by
        have hq := hv i h13
        have hb := hr i.toNat (by omega)
        unfold wkT
        rw [← hrr h13]
        show _ = kpT (1 + if kpT (D 273 i.toNat) = -1 then 0 else ((D (atF D u (i - 1)) 2) - 1) * kpT (D 273 i.toNat))
        rw [← kp_wk (by omega) hb.1]
        unfold srF
        by_cases e : D 273 i.toNat = -1
        · rw [if_neg (fun w => w.2 e), if_pos e]
        · rw [if_pos ⟨hi, e⟩, if_neg e]
      rw [tm_kw hs hw, hx]
  rw [if_neg h13] at hw ⊢
  rw [if_neg h13]
  by_cases h14 : (D (atF D u i) 0) = 14
  · rw [if_pos h14] at hw ⊢
    rw [if_pos h14]
    simp only [List.mem_singleton, forall_eq] at hw ⊢
    rw [tm_kw hs (by omega), h2]
  rw [if_neg h14] at hw ⊢
  rw [if_neg h14]
  by_cases h15 : (D (atF D u i) 0) = 15 ∨ (D (atF D u i) 0) = 16
  · rw [if_pos h15] at hw ⊢
    rw [if_pos h15]
    simp only [List.mem_singleton, forall_eq] at hw ⊢
    rw [tm_kw hs hw]
  rw [if_neg h15] at hw ⊢
  rw [if_neg h15]
  by_cases h18 : (D (atF D u i) 0) = 18
  · rw [if_pos h18] at hw ⊢
    rw [if_pos h18]
    simp only [List.mem_singleton, forall_eq] at hw ⊢
    rw [tm_kw hs (by omega), h1]
  rw [if_neg h18] at hw ⊢
  rw [if_neg h18]
  simp only [List.mem_singleton, forall_eq] at hw ⊢
  rw [tm_kw hs (by omega), h1]
theorem ed_t {D : Dd} {u i : Int} (hG : GLT (nU D u) (aU D u) (bU D u) (szF D u)) (h0 : 0 ≤ i) (h1 : i < szF D u) : ∀ e ∈ edF D u i, i + 1 ≤ e.1 := by
  have q1 : (D (atF D u i) 0) = 10 ∨ (D (atF D u i) 0) = 11 → i < (D (atF D u i) 1) := fun h => (hG.go i h0 h1 h).1
  have q2 : (D (atF D u i) 0) = 13 → i + 2 ≤ (D (atF D u i) 2) := fun h => (hG.lp i h0 h1 h).2.2.2.1
  intro e he
  unfold edF at he
  split at he
  · simp only [List.mem_singleton] at he; subst he; have := q1 (Or.inl (by assumption)); show i + 1 ≤ (D (atF D u i) 1); omega
  · split at he
    · simp only [List.mem_cons, List.not_mem_nil, or_false] at he
      have := q1 (Or.inr (by assumption))
      rcases he with rfl | rfl
      · show i + 1 ≤ (D (atF D u i) 1); omega
      · exact Int.le_refl _
    · split at he
      · have := q2 (by assumption)
        split at he
        · simp only [List.mem_singleton] at he; subst he; show i + 1 ≤ (D (atF D u i) 2); omega
        · simp only [List.mem_singleton] at he; subst he; exact Int.le_refl _
      · split at he
        · simp only [List.mem_singleton] at he; subst he; exact Int.le_refl _
        · split at he
          · simp only [List.mem_singleton] at he; subst he; exact Int.le_refl _
          · split at he
            · simp only [List.mem_singleton] at he; subst he; show i + 1 ≤ szF D u; omega
            · simp only [List.mem_singleton] at he; subst he; exact Int.le_refl _
theorem fw_it {D0 : Dd} {u l to : Int} {V rr : Int → Int} (hI : InC D0) (hr : rdB D0) (hg : grB D0) (hv : V13 D0 u) (hG : GLT (nU D0 u) (aU D0 u) (bU D0 u) (szF D0 u)) (hs : scT (nU D0 u) (bU D0 u) (szF D0 u) l to) (hto : to ≤ 256) (hrr : ∀ j, l < j → j < to → (D0 (atF D0 u j) 0) = 13 → kpT (D0 273 j.toNat) = rr j)
    (hVe : ∀ j, l < j → j < to → V j = evT (nU D0 u) (aU D0 u) (bU D0 u) (gtF D0 274) rr (szF D0 u) to j V) {z : Int} (hz : -1 ≤ z) :
    ∀ (m : Nat) (i : Int) (D : Dd), to - i = m → l < i → keepB D0 D → bfB D → (fwD D V z i to ↔ tmT (itW u to m i D 272 to.toNat) (V to) ≤ z)
  | 0, i, D, hm, hl, hk, hb => by
    have e : i = to := by omega
    subst e
    show _ ↔ tmT (D 272 i.toNat) (V i) ≤ z
    exact ⟨fun h => h i (Int.le_refl _) (Int.le_refl _), fun h j h1 h2 => by have : j = i := by omega
                                                                             subst this; exact h⟩
  | m + 1, i, D, hm, hl, hk, hb => by
    have hi := sc_in hG hs
    have q := hb i.toNat (by omega)
    have hz' := sz_256 hI u
    show _ ↔ tmT (itW u to m (i + 1) (itP (D 272 i.toNat ≠ -1) (goD D u i to) D) 272 to.toNat) (V to) ≤ z
    have h1 : fwD D V z i to ↔ tmT (D 272 i.toNat) (V i) ≤ z ∧ fwD D V z (i + 1) to :=
      ⟨fun h => ⟨h i (Int.le_refl _) (by omega), fun j w1 w2 => h j (by omega) w2⟩, fun h j w1 w2 => by
        by_cases e : j = i
        · rw [e]; exact h.1
        · exact h.2 j (by omega) w2⟩
    rw [h1]
    by_cases h : D 272 i.toNat = -1
    · rw [it_f (fun w => w h), ← fw_it hI hr hg hv hG hs hto hrr hVe hz m (i + 1) D (by omega) (by omega) hk hb, h, tm_n2]
      exact ⟨fun w => w.2, fun w => ⟨hz, w⟩⟩
    · rw [it_t h, ← fw_it hI hr hg hv hG hs hto hrr hVe hz m (i + 1) _ (by omega) (by omega) (hk.tr keepB.go) (bfB.go hb (hr.kp hk) (hg.kp hk) (hv.sm hk.sm hI) (by omega))]
      unfold goD
      have hed := ed_kp hk hI u i
      have hw : ∀ e ∈ edF D u i, i + 1 ≤ e.1 ∧ 0 ≤ e.2 := fun e he => by
        rw [hed] at he
        exact ⟨ed_t hG (by omega) (by omega) e he, ed_w hr hg (hv i) e he⟩
      rw [fw_ce hz (by omega) hto (by omega) hb hw, hed, ed_ev (to := to) (z := z) (V := V) (rr := rr) hr hg hv ⟨q, by omega⟩ (by omega) (hrr i hl (by omega)), ← hVe i hl (by omega)]
      exact And.comm
/-- the longest way forward is the reference's -/
theorem lg_eq {D : Dd} {u l to s : Int} {rr : Int → Int} {Q : Int → Int → Int} (hI : InC D) (hw : wyB D) (hv : V13 D u) (hG : GLT (nU D u) (aU D u) (bU D u) (szF D u)) (hR : RET (nU D u) (aU D u) (bU D u) (gtF D 274) rr (szF D u) Q) (hs : scT (nU D u) (bU D u) (szF D u) l to) (hrr : ∀ j, l < j → j < to → (D (atF D u j) 0) = 13 → kpT (D 273 j.toNat) = rr j) (hss : 0 ≤ s ∧ s ≤ 1) :
    tmT (lgD D u (l + 1) to s 272 to.toNat) (if 0 ≤ l then 1 else 0) = tmT s (Q l (l + 1)) := by
  have hi := sc_in hG hs
  have hz' := sz_256 hI u
  obtain ⟨V, h1, h2, h3⟩ := ev_ex (g := gtF D 274) (rr := rr) hG hs (if 0 ≤ l then 1 else 0) (by unfold inT; split <;> omega)
  rw [← h2, ← cl_from hG hR hs h1 h2 h3]
  refine eqT (tT_in _ _) (tT_in _ _) (fun z hz => ?_)
  unfold lgD
  have kI : keepB D (inD D (l + 1) to s) := keepB.in
  rw [show (to - (l + 1)).toNat = (to - (l + 1)).toNat from rfl, ← fw_it hI hw.2.1 hw.2.2 hv hG hs (by omega) hrr h3 hz (to - (l + 1)).toNat (l + 1) _ (by omega) (by omega) kI (hw.1.in (by omega))]
  have hx : ∀ j : Int, l + 1 ≤ j → j ≤ to → inD D (l + 1) to s 272 j.toNat = if j = l + 1 then s else -1 := fun j w1 w2 => by
    unfold inD
    rw [upD_rd, if_pos rfl]
    by_cases e : j = l + 1
    · rw [if_pos (by omega), if_pos e]
    · rw [if_neg (by omega), if_neg e]
      unfold flD
      rw [if_pos ⟨rfl, by omega, by omega⟩]
  constructor
  · intro w
    have := w (l + 1) (Int.le_refl _) (by omega)
    rw [hx _ (Int.le_refl _) (by omega), if_pos rfl] at this
    exact this
  · intro w j w1 w2
    rw [hx j w1 w2]
    by_cases e : j = l + 1
    · rw [if_pos e, e]; exact w
    · rw [if_neg e, tm_n2]; exact hz
