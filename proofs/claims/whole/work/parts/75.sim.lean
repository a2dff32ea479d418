/-! What holds between two calls of the law -/
def Sim (D : Dd) : Prop := CDe D D ∧ SI D ∧ MI D ∧ WKB D ∧ (1 ≤ D 1 6 ∧ D 1 6 ≤ 4096) ∧ D 1 8 = D 279 5 ∧ (0 < D 1 7 → D 282 (D 1 7).toNat = D 279 5) ∧ PRo D D ∧ D 264 5 = D 279 20 ∧ (D 264 5 = 0 ∨ (D 264 5 = 1 ∧ ACC D (D 1 7) ∧ ∀ v : Nat, (v : Int) < D 1 7 → D 270 v = D 291 v ∧ D 274 v = D 290 v))
theorem Sim.wks {D : Dd} (h : Sim D) (h5 : D 264 5 ≠ 0) : WKS D := by
  obtain ⟨hc, ⟨hI, hf, h0, _⟩, _, _, h6, _, _, _, _, ha⟩ := h
  refine ⟨hI, hf, h0, h6.2, (ha.resolve_left h5).2.1, fun u hu => ?_⟩
  rw [(hc.2.2.1 u (by omega)).2.1, (hc.2.2.1 (u + 1) (by omega)).1]
/-- what the walks change only -/
theorem Sim.kp {D D2 : Dd} (h : Sim D) (k : ∀ a b, a < 275 ∨ 278 < a → a < 292 ∨ 295 < a → D2 a b = D a b) (hb : WKB D2) : Sim D2 := by
  obtain ⟨hc, ⟨hI, hf, h0, hw⟩, hm, _, h6, h8, hu, hp, h5, ha⟩ := h
  have sm : smC D D2 := fun a b hab => k a b (by omega) (by omega)
  have km : ∀ j, D2 279 j = D 279 j := fun j => k _ _ (by decide) (by decide)
  have kc : ∀ j, D2 1 j = D 1 j := fun j => k _ _ (by decide) (by decide)
  have kp : ∀ j, D2 264 j = D 264 j := fun j => k _ _ (by decide) (by decide)
  refine ⟨hc.kp hI sm (fun j _ => km j) (fun l j h1 h2 => k l j (by omega) (by omega)), ⟨in_sm sm hI, hf.sm sm, by rw [sm _ _ (by decide)]; exact h0, hw.kp (fun a b h1 h2 => k a b (by omega) (by omega))⟩, ?_, hb, by rw [kc]; exact h6, by rw [kc, km]; exact h8, by rw [kc, km, k 282 _ (by decide) (by decide)]; exact hu, ?_, by rw [kp, km]; exact h5, ?_⟩
  · refine ⟨?_, ⟨fun j hj => by rw [k _ _ (by decide) (by decide)]; exact hm.2.1 j hj, fun j hj => by rw [k _ _ (by decide) (by decide)]; exact hm.2.2.1 j hj, fun j hj => by rw [k _ _ (by decide) (by decide)]; exact hm.2.2.2 j hj⟩⟩
    unfold MF InM
    simp only [km, k 282 _ (by decide) (by decide), k 281 _ (by decide) (by decide), k 280 _ (by decide) (by decide)]
    exact hm.1
  · unfold PRo
    rw [kp, kp, kp, km, km, km]; exact hp
  · rw [kp, kc]
    rcases ha with ha | ⟨a1, a2, a3⟩
    · exact Or.inl ha
    · refine Or.inr ⟨a1, a2.sm sm hI, fun v hv => ?_⟩
      rw [k 270 _ (by decide) (by decide), k 291 _ (by decide) (by decide), k 274 _ (by decide) (by decide), k 290 _ (by decide) (by decide)]
      exact a3 v hv
theorem fg_v (D : Dd) : (∀ a b, a ≠ 264 → fgD D a b = D a b) ∧ fgD D 264 5 = 0 ∧ fgD D 264 6 = 0 ∧ fgD D 264 7 = -1 ∧ fgD D 264 8 = -1 := by
  unfold fgD
  refine ⟨fun a b ha => ?_, ?_, (fd_6 _ _ _ _).1, (fd_6 _ _ _ _).2.1, (fd_6 _ _ _ _).2.2⟩
  · unfold fdD
    rw [upD_k ha, upD_k ha, upD_k ha, upD_k ha]
  · unfold fdD
    rw [upD_j (by decide), upD_j (by decide), upD_j (by decide), upD_eq]
theorem mf_v (D : Dd) : (∀ a b, a ≠ 279 → mfD D a b = D a b) ∧ mfD D 279 20 = 0 ∧ mfD D 279 17 = 0 ∧ mfD D 279 18 = -1 ∧ mfD D 279 19 = -1 ∧ ∀ b, b < 17 → mfD D 279 b = D 279 b := by
  unfold mfD
  refine ⟨fun a b ha => ?_, ?_, ?_, ?_, ?_, fun b hb => ?_⟩
  · rw [upD_k ha, upD_k ha, upD_k ha, upD_k ha]
  · rw [upD_j (by decide), upD_j (by decide), upD_j (by decide), upD_eq]
  · rw [upD_j (by decide), upD_j (by decide), upD_eq]
  · rw [upD_j (by decide), upD_eq]
  · rw [upD_eq]
  · rw [upD_j (by omega), upD_j (by omega), upD_j (by omega), upD_j (by omega)]
/-- a changed code: nothing is known of it, the rest of the numbers as they were -/
theorem Sim.mk {D D2 : Dd} (h : Sim D) (hc : CDe D2 D2) (hI : InC D2) (hf : InF D2) (hM : MF D2) (h6 : 1 ≤ D2 1 6 ∧ D2 1 6 ≤ 4096) (h8 : D2 1 8 = D2 279 5) (hu : 0 < D2 1 7 → D2 282 (D2 1 7).toNat = D2 279 5)
    (h0 : D2 3 0 = D 3 0) (k : ∀ a b, (264 < a ∧ a < 279) ∨ 286 < a → D2 a b = D a b) (p5 : D2 264 5 = 0) (p6 : D2 264 6 = 0) (p7 : D2 264 7 = -1) (p8 : D2 264 8 = -1) (q20 : D2 279 20 = 0) (q17 : D2 279 17 = 0) (q18 : D2 279 18 = -1) (q19 : D2 279 19 = -1) : Sim D2 := by
  obtain ⟨_, ⟨_, _, e0, hw⟩, hm, hb, _⟩ := h
  refine ⟨hc, ⟨hI, hf, by rw [h0]; exact e0, hw.kp (fun a b h1 h2 => k a b (by omega))⟩, ⟨hM, ⟨fun j hj => by rw [k _ _ (by decide)]; exact hm.2.1 j hj, fun j hj => by rw [k _ _ (by decide)]; exact hm.2.2.1 j hj, fun j hj => by rw [k _ _ (by decide)]; exact hm.2.2.2 j hj⟩⟩, ⟨fun j hj => by rw [k _ _ (by decide)]; exact hb.1 j hj, fun j hj => by rw [k _ _ (by decide)]; exact hb.2 j hj⟩, h6, h8, hu, ⟨by rw [p6, q17], by rw [p7, q18], by rw [p8, q19]⟩, by rw [p5, q20], Or.inl p5⟩
/-- begin -/
theorem sim_begin {D : Dd} {t : Int} (h : Sim D) (ht : 1 ≤ t ∧ t ≤ 4096) : Sim (upD (upD (upD (mfD (fgD (upD (upD (upD D 1 6 t) 1 7 0) 1 8 0))) 279 0 t) 279 1 0) 279 5 0) := by
  generalize eD1 : fgD (upD (upD (upD D 1 6 t) 1 7 0) 1 8 0) = D1
  have f := fg_v (upD (upD (upD D 1 6 t) 1 7 0) 1 8 0)
  rw [eD1] at f
  have g := mf_v D1
  generalize eD2 : upD (upD (upD (mfD D1) 279 0 t) 279 1 0) 279 5 0 = D2
  have x : ∀ a b, a ≠ 279 → D2 a b = D1 a b := fun a b ha => by rw [← eD2, upD_k ha, upD_k ha, upD_k ha, g.1 a b ha]
  have y : ∀ b, b ≠ 0 → b ≠ 1 → b ≠ 5 → D2 279 b = mfD D1 279 b := fun b b0 b1 b5 => by rw [← eD2, upD_j b5, upD_j b1, upD_j b0]
  have x6 : D2 1 6 = t := by rw [x _ _ (by decide), f.1 _ _ (by decide), upD_j (by decide), upD_j (by decide), upD_eq]
  have x7 : D2 1 7 = 0 := by rw [x _ _ (by decide), f.1 _ _ (by decide), upD_j (by decide), upD_eq]
  have x8 : D2 1 8 = 0 := by rw [x _ _ (by decide), f.1 _ _ (by decide), upD_eq]
  have y0 : D2 279 0 = t := by rw [← eD2, upD_j (by decide), upD_j (by decide), upD_eq]
  have y1 : D2 279 1 = 0 := by rw [← eD2, upD_j (by decide), upD_eq]
  have y5 : D2 279 5 = 0 := by rw [← eD2, upD_eq]
  have z : ∀ a b, a ≠ 279 → a ≠ 264 → a ≠ 1 → D2 a b = D a b := fun a b h1 h2 h3 => by rw [x a b h1, f.1 a b h2, upD_k h3, upD_k h3, upD_k h3]
  refine Sim.mk h ⟨by rw [x6, y0], by rw [x7, y1], fun u hu => by omega, fun r hr => by omega⟩ ⟨by omega, by omega, fun u hu => by omega⟩ (fun u hu => by omega) ⟨⟨by omega, by omega, fun u hu => by omega⟩, fun u hu => ?_⟩ (by omega) (by omega) (by omega) (z _ _ (by decide) (by decide) (by decide)) (fun a b hab => z a b (by omega) (by omega) (by omega)) ?_ ?_ ?_ ?_ ?_ ?_ ?_ ?_
  · rw [z _ _ (by decide) (by decide) (by decide), z _ _ (by decide) (by decide) (by decide)]
    exact h.2.2.1.1.2 u hu
  · rw [x _ _ (by decide)]; exact f.2.1
  · rw [x _ _ (by decide)]; exact f.2.2.1
  · rw [x _ _ (by decide)]; exact f.2.2.2.1
  · rw [x _ _ (by decide)]; exact f.2.2.2.2
  · rw [y _ (by decide) (by decide) (by decide)]; exact g.2.1
  · rw [y _ (by decide) (by decide) (by decide)]; exact g.2.2.1
  · rw [y _ (by decide) (by decide) (by decide)]; exact g.2.2.2.1
  · rw [y _ (by decide) (by decide) (by decide)]; exact g.2.2.2.2.1
/-- unit -/
theorem sim_unit {D D1 D2 : Dd} {f p : Int} (h : Sim D) (hf : 0 ≤ f ∧ f ≤ 4096 ∧ -1 ≤ p ∧ p < 4096 ∧ D 1 7 < 16) (e1 : fgD (nuD D f p) = D1) (e2 : upD (upD (upD (upD (upD (mfD D1) 280 (D1 279 1).toNat f) 281 (D1 279 1).toNat p) 282 (D1 279 1).toNat (D1 279 5)) 279 1 (D1 279 1 + 1)) 282 (D1 279 1 + 1).toNat (D1 279 5) = D2) : D1 279 1 = D 1 7 ∧ Sim D2 := by
  have fg := fg_v (nuD D f p)
  rw [e1] at fg
  have g := mf_v D1
  obtain ⟨hc, ⟨hI, hF, h0, hw⟩, hm, hb, h6, h8, hu, _⟩ := id h
  have n : ∀ a b, a < 4 ∨ 7 < a → a ≠ 1 → nuD D f p a b = D a b := fun a b h1 h2 => by unfold nuD; rw [upD_k h2, upD_k (by omega), upD_k (by omega), upD_k (by omega), upD_k (by omega)]
  have m1 : ∀ b, D1 279 b = D 279 b := fun b => by rw [fg.1 _ _ (by decide), n _ _ (by decide) (by decide)]
  have e7 : D1 279 1 = D 1 7 := by rw [m1]; exact hc.2.1.symm
  have e5 : D1 279 5 = D 1 8 := by rw [m1]; exact h8.symm
  refine ⟨e7, ?_⟩
  rw [e7, e5] at e2
  have hu0 := hI.1
  generalize eN : (D 1 7).toNat = N at *
  have eN1 : (D 1 7 + 1).toNat = N + 1 := by omega
  rw [eN1] at e2
  have x : ∀ a b, a < 279 → D2 a b = D1 a b := fun a b ha => by rw [← e2, upD_k (by omega), upD_k (by omega), upD_k (by omega), upD_k (by omega), upD_k (by omega), g.1 a b (by omega)]
  have c : ∀ a b, a < 264 → D2 a b = nuD D f p a b := fun a b ha => by rw [x a b (by omega), fg.1 a b (by omega)]
  have c7 : D2 1 7 = D 1 7 + 1 := by rw [c _ _ (by decide)]; unfold nuD; rw [upD_eq]
  have c68 : ∀ j, j ≠ 7 → D2 1 j = D 1 j := fun j hj => by rw [c _ _ (by decide)]; unfold nuD; rw [upD_j hj, upD_k (by decide), upD_k (by decide), upD_k (by decide), upD_k (by decide)]
  have s4 : ∀ u, D2 4 u = if u = N then D 1 8 else D 4 u := fun u => by rw [c _ _ (by decide)]; unfold nuD; rw [upD_k (by decide), upD_k (by decide), upD_k (by decide), upD_k (by decide), upD_rd, if_pos rfl, eN]
  have s5 : ∀ u, D2 5 u = if u = N then 0 else D 5 u := fun u => by rw [c _ _ (by decide)]; unfold nuD; rw [upD_k (by decide), upD_k (by decide), upD_k (by decide), upD_rd, if_pos rfl, upD_k (by decide), eN]
  have s6 : ∀ u, D2 6 u = if u = N then f else D 6 u := fun u => by rw [c _ _ (by decide)]; unfold nuD; rw [upD_k (by decide), upD_k (by decide), upD_rd, if_pos rfl, upD_k (by decide), upD_k (by decide), eN]
  have s7 : ∀ u, D2 7 u = if u = N then p else D 7 u := fun u => by rw [c _ _ (by decide)]; unfold nuD; rw [upD_k (by decide), upD_rd, if_pos rfl, upD_k (by decide), upD_k (by decide), upD_k (by decide), eN]
  have y : ∀ b, b ≠ 1 → b < 17 → D2 279 b = D 279 b := fun b b1 b2 => by rw [← e2, upD_k (by decide), upD_j b1, upD_k (by decide), upD_k (by decide), upD_k (by decide), g.2.2.2.2.2 b b2, m1]
  have y1 : D2 279 1 = D 1 7 + 1 := by rw [← e2, upD_k (by decide), upD_eq]
  have yq : ∀ b, 17 ≤ b → D2 279 b = mfD D1 279 b := fun b b2 => by rw [← e2, upD_k (by decide), upD_j (by omega), upD_k (by decide), upD_k (by decide), upD_k (by decide)]
  have dm : ∀ a b, 279 < a → D1 a b = D a b := fun a b ha => by rw [fg.1 a b (by omega), n a b (by omega) (by omega)]
  have t0 : ∀ u, D2 280 u = if u = N then f else D 280 u := fun u => by rw [← e2, upD_k (by decide), upD_k (by decide), upD_k (by decide), upD_k (by decide), upD_rd, if_pos rfl, g.1 _ _ (by decide), dm _ _ (by decide)]
  have t1 : ∀ u, D2 281 u = if u = N then p else D 281 u := fun u => by rw [← e2, upD_k (by decide), upD_k (by decide), upD_k (by decide), upD_rd, if_pos rfl, upD_k (by decide), g.1 _ _ (by decide), dm _ _ (by decide)]
  have t2 : ∀ u, D2 282 u = if u = N + 1 ∨ u = N then D 1 8 else D 282 u := fun u => by
    rw [← e2, upD_rd, if_pos rfl, upD_k (by decide), upD_rd, if_pos rfl, upD_k (by decide), upD_k (by decide), g.1 _ _ (by decide), dm _ _ (by decide)]
    by_cases w : u = N + 1
    · rw [if_pos w, if_pos (Or.inl w)]
    · rw [if_neg w]
      by_cases w2 : u = N
      · rw [if_pos w2, if_pos (Or.inr w2)]
      · rw [if_neg w2, if_neg (by omega)]
  have z : ∀ a b, 282 < a → D2 a b = D a b := fun a b ha => by rw [← e2, upD_k (by omega), upD_k (by omega), upD_k (by omega), upD_k (by omega), upD_k (by omega), g.1 a b (by omega), dm a b (by omega)]
  have hpr : ∀ a b, 264 < a → a < 279 → D2 a b = D a b := fun a b h1 h2 => by rw [x a b h2, fg.1 a b (by omega), n a b (by omega) (by omega)]
  have zi : ∀ r b, r < 256 → D2 (8 + r) b = D (8 + r) b := fun r b hr => by rw [c _ _ (by omega), n _ _ (by omega) (by omega)]
  have last : ∀ u : Nat, (u : Int) < D 1 7 → D2 282 u = D 282 u ∧ D2 282 (u + 1) = D 282 (u + 1) := fun u hu2 => by
    refine ⟨by rw [t2, if_neg (by omega)], ?_⟩
    rw [t2]
    by_cases w : u + 1 = N
    · rw [if_pos (Or.inr w), w]
      have := hu (by omega)
      omega
    · rw [if_neg (by omega)]
  have hI8 := hI.2.1
  refine Sim.mk h ⟨by rw [c68 _ (by decide), y _ (by decide) (by decide)]; exact hc.1, by rw [c7, y1], fun u hu2 => ?_, fun r hr => ?_⟩ ⟨by omega, by rw [c68 _ (by decide)]; exact hI8, fun u hu2 => ?_⟩ (fun u hu2 => ?_) ⟨⟨by omega, by rw [y _ (by decide) (by decide), ← h8]; exact hI8, fun u hu2 => ?_⟩, fun u hu2 => ?_⟩ (by rw [c68 _ (by decide)]; exact h6) (by rw [c68 _ (by decide), y _ (by decide) (by decide)]; exact h8) (fun _ => ?_) (by rw [c _ _ (by decide), n _ _ (by decide) (by decide)]) (fun a b hab => ?_) ?_ ?_ ?_ ?_ ?_ ?_ ?_ ?_
  · by_cases w : u = N
    · rw [w, s4, s5, s6, s7, t0, t1, t2, t2, if_pos rfl, if_pos rfl, if_pos rfl, if_pos rfl, if_pos rfl, if_pos rfl, if_pos (Or.inr rfl), if_pos (Or.inl rfl)]
      exact ⟨rfl, by omega, rfl, rfl⟩
    · have q := hc.2.2.1 u (by omega)
      have l := last u (by omega)
      rw [s4, s5, s6, s7, t0, t1, l.1, l.2, if_neg w, if_neg w, if_neg w, if_neg w, if_neg w, if_neg w]
      exact q
  · rw [c68 _ (by decide)] at hr
    have q := hc.2.2.2 r hr
    rw [zi r _ (by omega), zi r _ (by omega), zi r _ (by omega), zi r _ (by omega), z _ _ (by decide), z _ _ (by decide), z _ _ (by decide), z _ _ (by decide)]
    exact q
  · rw [s4, s5, c68 _ (by decide)]
    by_cases w : u = N
    · rw [if_pos w, if_pos w]; omega
    · rw [if_neg w, if_neg w]; exact hI.2.2 u (by omega)
  · rw [s6, s7]
    by_cases w : u = N
    · rw [if_pos w, if_pos w]; omega
    · rw [if_neg w, if_neg w]; exact hF u (by omega)
  · rw [y _ (by decide) (by decide)]
    by_cases w : u = N
    · rw [w, t2, t2, if_pos (Or.inr rfl), if_pos (Or.inl rfl)]; omega
    · have l := last u (by omega)
      rw [l.1, l.2]
      exact hm.1.1.2.2 u (by rw [← hc.2.1]; omega)
  · rw [t0, t1]
    by_cases w : u = N
    · rw [if_pos w, if_pos w]; omega
    · rw [if_neg w, if_neg w]; exact hm.1.2 u hu2
  · rw [c7, eN1, t2, if_pos (Or.inl rfl), y _ (by decide) (by decide)]; exact h8
  · rcases hab with hab | hab
    · exact hpr a b hab.1 hab.2
    · exact z a b (by omega)
  · rw [x _ _ (by decide)]; exact fg.2.1
  · rw [x _ _ (by decide)]; exact fg.2.2.1
  · rw [x _ _ (by decide)]; exact fg.2.2.2.1
  · rw [x _ _ (by decide)]; exact fg.2.2.2.2
  · rw [yq _ (by decide)]; exact g.2.1
  · rw [yq _ (by decide)]; exact g.2.2.1
  · rw [yq _ (by decide)]; exact g.2.2.2.1
  · rw [yq _ (by decide)]; exact g.2.2.2.2.1
