/-! Good loops; the same stack -/
theorem GLT.of {D : Dd} {u : Int} (hI : InC D) (h0 : D 3 0 = -1) (h1 : okLn D u) (h2 : okLp D u) : GLT (nU D u) (aU D u) (bU D u) (szF D u) := by
  have hz := sz_256 hI u
  have ho : ∀ i, 0 ≤ (D (atF D u i) 0) → 0 ≤ i ∧ i < szF D u := fun i hi => Classical.byContradiction (fun w => by rw [at_out w, h0] at hi; omega)
  refine ⟨hz.1, fun k k0 k1 k2 => ?_, fun j j0 j1 j2 => ?_, fun l k l0 l1 k0 k1 l2 k2 w1 w2 => ?_, fun j j0 j1 j2 => ?_⟩
  · have k2 : (D (atF D u k) 0) = 13 := k2
    show 1 ≤ k ∧ (D (atF D u (k - 1)) 0) = 12 ∧ (0 ≤ (D (atF D u (k - 1)) 2) ∧ (D (atF D u (k - 1)) 2) ≤ 1000000) ∧ k + 2 ≤ (D (atF D u k) 2) ∧ (D (atF D u k) 2) ≤ szF D u ∧ (D (atF D u ((D (atF D u k) 2) - 1)) 0) = 14 ∧ (D (atF D u ((D (atF D u k) 2) - 1)) 1) = k
    have q := h2 k k0 k1
    have g := (ok_go (E := D) h1 k0 k1).2.1 k2
    have q1 : (D (atF D u (k - 1)) 0) = 12 := Classical.byContradiction (fun w => q (Or.inr (Or.inr (Or.inl ⟨k2, Or.inl w⟩))))
    have q3 : (D (atF D u ((D (atF D u k) 2) - 1)) 0) = 14 := Classical.byContradiction (fun w => q (Or.inr (Or.inr (Or.inl ⟨k2, Or.inr (Or.inr (Or.inl w))⟩))))
    have q4 : (D (atF D u ((D (atF D u k) 2) - 1)) 1) = k := Classical.byContradiction (fun w => q (Or.inr (Or.inr (Or.inl ⟨k2, Or.inr (Or.inr (Or.inr (Or.inl w)))⟩))))
    have p1 := ho (k - 1) (by omega)
    have g2 := (ok_go (E := D) h1 p1.1 p1.2).2.2.2.1 q1
    refine ⟨by omega, q1, g2, ?_, g.2, q3, q4⟩
    by_cases e : (D (atF D u k) 2) - 1 = k
    · rw [e] at q3; omega
    · omega
  · have j2 : (D (atF D u j) 0) = 14 := j2
    have q := h2 j j0 j1
    have g := (ok_go (E := D) h1 j0 j1).2.2.1 j2
    refine ⟨g.1, g.2, ?_, ?_⟩
    · exact Classical.byContradiction (fun w => q (Or.inr (Or.inr (Or.inr ⟨j2, Or.inl w⟩))))
    · exact Classical.byContradiction (fun w => q (Or.inr (Or.inr (Or.inr ⟨j2, Or.inr w⟩))))
  · have q := h2 k k0 k1
    refine Classical.byContradiction (fun w => q (Or.inr (Or.inr (Or.inl ⟨k2, Or.inr (Or.inr (Or.inr (Or.inr ⟨l, l0, l1, l2, w1, w2, ?_⟩)))⟩))))
    show (D (atF D u l) 2) < (D (atF D u k) 2)
    have w : ¬ (D (atF D u k) 2) ≤ (D (atF D u l) 2) := w
    omega
  · have j2 : (D (atF D u j) 0) = 10 ∨ (D (atF D u j) 0) = 11 := j2
    have q := h2 j j0 j1
    have g := (ok_go (E := D) h1 j0 j1).1 j2
    refine ⟨g.1, g.2, fun l l0 l1 l2 w1 w2 => Classical.byContradiction (fun w => q (Or.inl ⟨j2, l, l0, l1, l2, ⟨w1, w2⟩, w⟩))⟩
theorem CDe.kp {D E D2 E2 : Dd} (h : CDe D E) (hI : InC D) (k : smC D D2) (k1 : ∀ j, j < 10 → E2 279 j = E 279 j) (k2 : ∀ l j, 279 < l → l < 287 → E2 l j = E l j) : CDe D2 E2 := by
  unfold CDe
  rw [k 1 6 (by decide), k 1 7 (by decide), k 1 8 (by decide), k1 0 (by decide), k1 1 (by decide)]
  refine ⟨h.1, h.2.1, fun u hu => ?_, fun r hr => ?_⟩
  · rw [k 4 _ (by decide), k 5 _ (by decide), k 6 _ (by decide), k 7 _ (by decide), k2 282 _ (by decide) (by decide), k2 282 _ (by decide) (by decide), k2 280 _ (by decide) (by decide), k2 281 _ (by decide) (by decide)]
    exact h.2.2.1 u hu
  · have q := hI.2.1
    rw [k (8 + r) _ (by omega), k (8 + r) _ (by omega), k (8 + r) _ (by omega), k (8 + r) _ (by omega), k2 283 _ (by decide) (by decide), k2 284 _ (by decide) (by decide), k2 285 _ (by decide) (by decide), k2 286 _ (by decide) (by decide)]
    exact h.2.2.2 r hr
theorem XU.kp {D E D2 E2 : Dd} {u : Int} (h : XU D E u) (k : smC D D2) (k1 : ∀ j, j < 12 → E2 279 j = E 279 j) (k2 : ∀ l j, 279 < l → l < 287 → E2 l j = E l j) : XU D2 E2 u := by
  obtain ⟨hI, hf, h0, hu, hc, h5, h6⟩ := h
  refine ⟨in_sm k hI, hf.sm k, by rw [k _ _ (by decide)]; exact h0, by rw [k 1 7 (by decide)]; exact hu, hc.kp hI k (fun j hj => k1 j (by omega)) k2, ?_, ?_⟩
  · rw [k1 10 (by decide), k 4 _ (by decide)]; exact h5
  · rw [k1 11 (by decide), k 5 _ (by decide)]; exact h6
theorem XU.ks {D E D2 E2 : Dd} {u : Int} (h : XU D E u) (k : keepS D D2) (k2 : keepR E E2) : XU D2 E2 u := h.kp k.sm (fun j _ => k2 _ _ (by decide) (by decide)) (fun l j h1 h2 => k2 _ _ (by omega) (by omega))
/-- the same depths -/
def dsR (S T : Dd) (u sz : Int) : Prop := S 268 3 = sz ∧ T 279 11 = sz ∧ (∀ j : Nat, (j : Int) < sz → S 269 j = T 287 j ∧ -1 ≤ T 287 j) ∧ S 269 sz.toNat = 0 ∧ ∀ v : Nat, (v : Int) ≤ u → S 270 v = T 291 v ∧ 0 ≤ T 291 v
theorem ds_ok {S T : Dd} {u sz t d : Int} (h : dsR S T u sz) (ht : 0 ≤ t ∧ t ≤ sz) : cmOK S t d ↔ cmMOK T t d := by
  unfold cmOK cmMOK
  rw [h.1, h.2.1]
  by_cases e : t = sz
  · rw [e, h.2.2.2.1]
    constructor
    · intro w; exact Or.inl ⟨rfl, by omega⟩
    · intro w; exact ⟨by omega, by omega⟩
  · have q := h.2.2.1 t.toNat (by omega)
    rw [q.1]
    constructor <;> intro w <;> omega
theorem ds_cm {S T : Dd} {u sz t d : Int} (h : dsR S T u sz) (ht : 0 ≤ t ∧ t ≤ sz) (hd : 0 ≤ d) : dsR (cmD S t d) (cmMD T t d) u sz := by
  obtain ⟨h1, h2, h3, h4, h5⟩ := h
  by_cases e : t = sz
  · have e1 : cmD S t d = S := by unfold cmD; rw [if_neg (by rw [e, h4]; omega)]
    have e2 : cmMD T t d = T := by unfold cmMD; rw [if_neg (by omega)]
    rw [e1, e2]
    exact ⟨h1, h2, h3, h4, h5⟩
  · have q := h3 t.toNat (by omega)
    by_cases c : T 287 t.toNat < 0
    · have e1 : cmD S t d = upD S 269 t.toNat d := by unfold cmD; rw [if_pos ⟨by omega, by omega⟩]
      have e2 : cmMD T t d = upD T 287 t.toNat d := by unfold cmMD; rw [if_pos ⟨by omega, c⟩]
      rw [e1, e2]
      refine ⟨by rw [upD_k (by decide)]; exact h1, by rw [upD_k (by decide)]; exact h2, fun j hj => ?_, ?_, fun v hv => ?_⟩
      · rw [upD_rd, upD_rd, if_pos rfl, if_pos rfl]
        by_cases w : j = t.toNat
        · rw [if_pos w, if_pos w]; omega
        · rw [if_neg w, if_neg w]; exact h3 j hj
      · rw [upD_rd, if_pos rfl, if_neg (by omega)]; exact h4
      · rw [upD_k (by decide), upD_k (by decide)]; exact h5 v hv
    · have e1 : cmD S t d = S := by unfold cmD; rw [if_neg (by omega)]
      have e2 : cmMD T t d = T := by unfold cmMD; rw [if_neg (by omega)]
      rw [e1, e2]
      exact ⟨h1, h2, h3, h4, h5⟩
theorem ds_l {u sz d : Int} (hd : 0 ≤ d) : ∀ {r : List Int} {S T : Dd}, dsR S T u sz → (∀ t ∈ r, 0 ≤ t ∧ t ≤ sz) → (cmL d S r ↔ cmLM d T r) ∧ dsR (cmE d S r) (cmEM d T r) u sz
  | [], S, T, h, _ => ⟨Iff.rfl, h⟩
  | t :: r, S, T, h, ht => by
    have h1 := ht t (by simp)
    have q := ds_l (u := u) (sz := sz) hd (r := r) (ds_cm h h1 hd) (fun x hx => ht x (by simp [hx]))
    exact ⟨and_congr (ds_ok h h1) q.1, q.2⟩
theorem cmM_sw (T : Dd) (t t2 d : Int) (h : 0 ≤ t) (h2 : 0 ≤ t2) : cmEM d T [t, t2] = cmEM d T [t2, t] := by
  show cmMD (cmMD T t d) t2 d = cmMD (cmMD T t2 d) t d
  by_cases e : t = t2
  · rw [e]
  · have k1 : ∀ X x, cmMD X x d 279 11 = X 279 11 := fun X x => keepR.cm _ _ (by decide) (by decide)
    have k2 : ∀ X x y, 0 ≤ x → 0 ≤ y → x ≠ y → cmMD X x d 287 y.toNat = X 287 y.toNat := fun X x y hx hy hn => by
      unfold cmMD
      split
      · rw [upD_rd, if_pos rfl, if_neg (by omega)]
      · rfl
    have a1 : cmMD (cmMD T t d) t2 d = if t2 ≠ T 279 11 ∧ T 287 t2.toNat < 0 then upD (cmMD T t d) 287 t2.toNat d else cmMD T t d := by
      rw [cmMD, k1, k2 T t t2 h h2 e]
    have a2 : cmMD (cmMD T t2 d) t d = if t ≠ T 279 11 ∧ T 287 t.toNat < 0 then upD (cmMD T t2 d) 287 t.toNat d else cmMD T t2 d := by
      rw [cmMD, k1, k2 T t2 t h2 h (fun w => e w.symm)]
    rw [a1, a2]
    unfold cmMD
    by_cases c1 : t ≠ T 279 11 ∧ T 287 t.toNat < 0
    · by_cases c2 : t2 ≠ T 279 11 ∧ T 287 t2.toNat < 0
      · rw [if_pos c1, if_pos c2, if_pos c1, if_pos c2]
        funext a b
        rw [upD_rd, upD_rd, upD_rd, upD_rd]
        split
        · split
          · split <;> rfl
          · rfl
        · rfl
      · rw [if_pos c1, if_neg c2, if_pos c1, if_neg c2]
    · by_cases c2 : t2 ≠ T 279 11 ∧ T 287 t2.toNat < 0
      · repeat (first | rw [if_neg c1] | rw [if_pos c2])
      · repeat (first | rw [if_neg c1] | rw [if_neg c2])
theorem cmM_sw2 (T : Dd) (t t2 d : Int) (h : 0 ≤ t) (h2 : 0 ≤ t2) : cmLM d T [t, t2] ↔ cmLM d T [t2, t] := by
  show (cmMOK T t d ∧ cmMOK (cmMD T t d) t2 d ∧ True) ↔ (cmMOK T t2 d ∧ cmMOK (cmMD T t2 d) t d ∧ True)
  by_cases e : t = t2
  · rw [e]
  · have k1 : ∀ X x, cmMD X x d 279 11 = X 279 11 := fun X x => keepR.cm _ _ (by decide) (by decide)
    have k2 : ∀ X x y, 0 ≤ x → 0 ≤ y → x ≠ y → cmMD X x d 287 y.toNat = X 287 y.toNat := fun X x y hx hy hn => by
      unfold cmMD
      split
      · rw [upD_rd, if_pos rfl, if_neg (by omega)]
      · rfl
    unfold cmMOK
    rw [k1, k1, k2 T t t2 h h2 e, k2 T t2 t h2 h (fun w => e w.symm)]
    constructor <;> rintro ⟨w1, w2, _⟩ <;> exact ⟨w2, w1, trivial⟩
theorem ds_tg {u sz d : Int} (hd : 0 ≤ d) {S T : Dd} (h : dsR S T u sz) {n i a b : Int} (h1 : 0 ≤ i ∧ i < sz) (ha : n = 10 ∨ n = 11 ∨ n = 14 → 0 ≤ a ∧ a ≤ sz) (hb : n = 13 → 0 ≤ b ∧ b ≤ sz) : (cmL d S (tgF n i a b sz) ↔ cmLM d T (tgM n i a b sz)) ∧ dsR (cmE d S (tgF n i a b sz)) (cmEM d T (tgM n i a b sz)) u sz := by
  have h0 := h.2.1
  unfold tgF tgM
  by_cases e1 : n = 10 ∨ n = 14
  · rw [if_pos e1, if_pos e1]
    exact ds_l hd h (fun t ht => by simp only [List.mem_singleton] at ht; subst ht; exact ha (by omega))
  rw [if_neg e1, if_neg e1]
  by_cases e2 : n = 11
  · have q := ha (by omega)
    rw [if_pos e2, if_pos e2, cmM_sw2 T (i + 1) a d (by omega) q.1, cmM_sw T (i + 1) a d (by omega) q.1]
    exact ds_l hd h (fun t ht => by simp only [List.mem_cons, List.not_mem_nil, or_false] at ht; omega)
  rw [if_neg e2, if_neg e2]
  by_cases e3 : n = 13
  · have q := hb e3
    rw [if_pos e3, if_pos e3, cmM_sw2 T (i + 1) b d (by omega) q.1, cmM_sw T (i + 1) b d (by omega) q.1]
    exact ds_l hd h (fun t ht => by simp only [List.mem_cons, List.not_mem_nil, or_false] at ht; omega)
  rw [if_neg e3, if_neg e3]
  by_cases e4 : n = 18
  · rw [if_pos e4]
    exact ds_l hd h (fun t ht => by simp only [List.mem_singleton] at ht; omega)
  rw [if_neg e4]
  exact ds_l hd h (fun t ht => by simp only [List.mem_singleton] at ht; omega)
theorem tl_15 {n : Int} (h : n = 15 ∨ n = 16) : tk n = 0 ∧ lf n = 0 := by rcases h with rfl | rfl <;> exact ⟨rfl, rfl⟩
theorem sk_eq {S T : Dd} {u i sz : Int} (hX : XU S T u) (hk : okLn S u) (h : dsR S T u sz) (hsz : sz = szF S u) (h0 : 0 ≤ i) (h1 : i < sz) : skF S u i = sfM T u i ∧ (skF S u i = 0 → dsR (skD S u i) (sdM T u i) u sz) := by
  subst hsz
  have q := hX.f h0 h1
  have g := ok_go (E := T) hk h0 h1
  have hu := hX.2.2.2.1
  have hu16 : u < 16 := by have := hX.1.1; omega
  have qd := h.2.2.1 i.toNat (by omega)
  have hst := h.1
  have hm := h.2.1
  have hn : szF S u = T 279 11 := hm.symm
  unfold skF sfM skD sdM
  by_cases e0 : S 269 i.toNat = -1
  · rw [it_t e0, it_t e0, if_pos (by omega), if_pos (by omega)]
    exact ⟨rfl, fun _ => h⟩
  · rw [it_f e0, it_f e0, if_neg (by omega), if_neg (by omega)]
    unfold skM skMD
    rw [← q.1, ← q.2.1, ← q.2.2.1, ← qd.1, hst, hm]
    have ht := tk_in ((S (atF S u i) 0))
    have hl := lf_in ((S (atF S u i) 0))
    by_cases e1 : S 269 i.toNat < tk ((S (atF S u i) 0))
    · rw [it_t e1, it_t e1]
      exact ⟨rfl, fun w => absurd w (by decide)⟩
    · rw [it_f e1, it_f e1]
      by_cases e2 : 64 < S 269 i.toNat - tk ((S (atF S u i) 0)) + lf ((S (atF S u i) 0))
      · rw [it_t e2, it_t e2]
        exact ⟨rfl, fun w => absurd w (by decide)⟩
      · rw [it_f e2, it_f e2]
        -- the reference notes the depth first
        have hmr : 0 ≤ mrF T ((S (atF S u i) 0)) ((S (atF S u i) 1)) ∧ ((S (atF S u i) 0) = 15 ∨ (S (atF S u i) 0) = 16 → mrF T ((S (atF S u i) 0)) ((S (atF S u i) 1)) = T 291 ((S (atF S u i) 1)).toNat ∧ S 270 ((S (atF S u i) 1)).toNat = T 291 ((S (atF S u i) 1)).toNat) ∧ (¬ ((S (atF S u i) 0) = 15 ∨ (S (atF S u i) 0) = 16) → mrF T ((S (atF S u i) 0)) ((S (atF S u i) 1)) = 0) := by
          unfold mrF
          by_cases e : (S (atF S u i) 0) = 15 ∨ (S (atF S u i) 0) = 16
          · have ga := g.2.2.2.2.2 e
            have w := h.2.2.2.2 ((S (atF S u i) 1)).toNat (by omega)
            rw [if_pos e]
            exact ⟨w.2, fun _ => ⟨rfl, w.1⟩, fun w9 => absurd e w9⟩
          · rw [if_neg e]
            exact ⟨by omega, fun w9 => absurd w9 e, fun _ => rfl⟩
        generalize hd : S 269 i.toNat - tk ((S (atF S u i) 0)) + lf ((S (atF S u i) 0)) = d at *
        have hd0 : 0 ≤ d := by omega
        generalize hmm : mrF T ((S (atF S u i) 0)) ((S (atF S u i) 1)) = mm at *
        -- depths without the deepest
        let S' : Dd := upD S 270 u.toNat (if T 291 u.toNat < d + mm then d + mm else T 291 u.toNat)
        have hS' : dsR S' (ndM T u (d + mm)) u (szF S u) := by
          refine ⟨?_, ?_, fun j hj => ?_, ?_, fun v hv => ?_⟩
          · show upD S _ _ _ 268 3 = _
            rw [upD_k (by decide)]; exact hst
          · unfold ndM; rw [upD_k (by decide)]; exact hm
          · show upD S _ _ _ 269 j = _ ∧ _
            unfold ndM
            rw [upD_k (by decide), upD_k (by decide)]; exact h.2.2.1 j hj
          · show upD S _ _ _ 269 _ = _
            rw [upD_k (by decide)]; exact h.2.2.2.1
          · show upD S _ _ _ 270 v = _ ∧ _
            have w := h.2.2.2.2 v hv
            unfold ndM
            rw [upD_rd, upD_rd, if_pos rfl, if_pos rfl]
            by_cases e : v = u.toNat
            · rw [if_pos e, if_pos e]
              refine ⟨rfl, ?_⟩
              split
              · omega
              · rw [← e]; exact w.2
            · rw [if_neg e, if_neg e]; exact w
        have q9 := ds_tg (d := d) hd0 hS' (n := (S (atF S u i) 0)) (i := i) (a := (S (atF S u i) 1)) (b := (S (atF S u i) 2)) ⟨h0, h1⟩ (fun e => by
          rcases e with e | e | e
          · have := g.1 (Or.inl e); omega
          · have := g.1 (Or.inr e); omega
          · have := g.2.2.1 e; omega) (fun e => by have := g.2.1 e; omega)
        -- S' and S have the same depths
        have cmx : ∀ (r : List Int) (A B : Dd), (∀ j, A 269 j = B 269 j) → A 268 3 = B 268 3 → (cmL d A r ↔ cmL d B r) ∧ (∀ j, cmE d A r 269 j = cmE d B r 269 j) ∧ (∀ j, cmE d A r 270 j = A 270 j) ∧ cmE d A r 268 3 = A 268 3 := by
          intro r
          induction r with
          | nil => exact fun A B h1 h2 => ⟨Iff.rfl, h1, fun _ => rfl, rfl⟩
          | cons t r ih =>
            intro A B h1 h2
            have w1 : ∀ j, cmD A t d 269 j = cmD B t d 269 j := fun j => by
              unfold cmD
              rw [h2, h1]
              split
              · rw [upD_rd, upD_rd, h1]
              · exact h1 j
            have w2 : ∀ X : Dd, cmD X t d 268 3 = X 268 3 := fun X => cmD_st X t d
            have w3 : ∀ X : Dd, ∀ j, cmD X t d 270 j = X 270 j := fun X j => by
              unfold cmD
              split
              · rw [upD_k (by decide)]
              · rfl
            have w4 := ih (cmD A t d) (cmD B t d) w1 (by rw [w2, w2]; exact h2)
            refine ⟨and_congr (by unfold cmOK; rw [h2, h1]) w4.1, w4.2.1, fun j => (w4.2.2.1 j).trans (w3 A j), w4.2.2.2.trans (w2 A)⟩
        have hd1 : ∀ j, S' 269 j = S 269 j := fun j => upD_k (by decide)
        have hd2 : S' 268 3 = S 268 3 := upD_k (by decide)
        have c1 := cmx (tgF ((S (atF S u i) 0)) i ((S (atF S u i) 1)) ((S (atF S u i) 2)) (szF S u)) S' S hd1 hd2
        have c2 := cmx (tgF ((S (atF S u i) 0)) i ((S (atF S u i) 1)) ((S (atF S u i) 2)) (szF S u)) S S (fun _ => rfl) rfl
        refine ⟨it_cg (not_congr (c1.1.symm.trans q9.1)) (fun _ => rfl), fun _ => ?_⟩
        obtain ⟨p1, p2, p3, p4, p5⟩ := q9.2
        generalize hcs : cmE d S (tgF ((S (atF S u i) 0)) i ((S (atF S u i) 1)) ((S (atF S u i) 2)) (szF S u)) = cs at *
        -- what the class notes
        have hx : ∀ W : Dd, W = itP ((S (atF S u i) 0) = 15 ∨ (S (atF S u i) 0) = 16) (ndF (ndF cs u d) u (S 269 i.toNat + gtF (ndF cs u d) 270 ((S (atF S u i) 1)))) (ndF cs u d) → (∀ k j, k ≠ 270 → W k j = cs k j) ∧ ∀ v : Nat, W 270 v = if v = u.toNat then (if T 291 u.toNat < d + mm then d + mm else T 291 u.toNat) else S 270 v := by
          intro W hW
          have nk : ∀ (A : Dd) x k j, k ≠ 270 → ndF A u x k j = A k j := fun A x k j hkk => by
            unfold ndF
            split
            · rw [upD_k hkk]
            · rfl
          have nv : ∀ (A : Dd) x v, ndF A u x 270 v = if v = u.toNat then (if A 270 u.toNat < x then x else A 270 u.toNat) else A 270 v := fun A x v => by
            unfold ndF
            by_cases c : A 270 u.toNat < x
            · rw [if_pos ⟨⟨by omega, hu16⟩, c⟩, upD_rd, if_pos rfl, if_pos c]
            · rw [if_neg (fun w => c w.2), if_neg c]
              by_cases e : v = u.toNat
              · rw [if_pos e, e]
              · rw [if_neg e]
          have wu := h.2.2.2.2 u.toNat (by omega)
          by_cases e : (S (atF S u i) 0) = 15 ∨ (S (atF S u i) 0) = 16
          · rw [it_t e] at hW
            have ga := g.2.2.2.2.2 e
            have e9 := hmr.2.1 e
            have tl := tl_15 e
            have hge : gtF (ndF cs u d) 270 ((S (atF S u i) 1)) = mm := by
              unfold gtF
              rw [if_pos (by omega), nv, if_neg (by omega), c2.2.2.1, e9.2, ← e9.1]
            rw [hge] at hW
            subst hW
            refine ⟨fun k j hkk => (nk _ _ k j hkk).trans (nk _ _ k j hkk), fun v => ?_⟩
            rw [nv, nv, nv, if_pos rfl, c2.2.2.1, c2.2.2.1, wu.1]
            by_cases ev : v = u.toNat
            · rw [if_pos ev, if_pos ev]
              split <;> split <;> (try split) <;> omega
            · rw [if_neg ev, if_neg ev, if_neg ev]
          · rw [it_f e] at hW
            have e9 := hmr.2.2 e
            subst hW
            refine ⟨fun k j hkk => nk _ _ k j hkk, fun v => ?_⟩
            rw [nv, c2.2.2.1, c2.2.2.1, wu.1, e9, Int.add_zero]
        have hx2 := hx _ rfl
        generalize itP ((S (atF S u i) 0) = 15 ∨ (S (atF S u i) 0) = 16) (ndF (ndF cs u d) u (S 269 i.toNat + gtF (ndF cs u d) 270 ((S (atF S u i) 1)))) (ndF cs u d) = W at *
        refine ⟨?_, p2, fun j hj => ?_, ?_, fun v hv => ?_⟩
        · rw [hx2.1 _ _ (by decide), c2.2.2.2]; exact hst
        · rw [hx2.1 _ _ (by decide), ← c1.2.1]; exact p3 j hj
        · rw [hx2.1 _ _ (by decide), ← c1.2.1]; exact p4
        · have w := p5 v hv
          rw [c1.2.2.1] at w
          rw [hx2.2, ← w.1]
          refine ⟨?_, w.1 ▸ w.2⟩
          show _ = upD S _ _ _ 270 v
          rw [upD_rd, if_pos rfl]
