/-! The mathematics of steps: numbers up to a bound -/
def kpT (x : Int) : Int := if x < 0 then -1 else if x < 1000000001 then x else 1000000001
def tmT (x y : Int) : Int := if x < 0 ∨ y < 0 then -1 else if x + y < 1000000001 then x + y else 1000000001
def mxT (x y : Int) : Int := if x < y then y else x
def ttT (c r : Int) : Int := if c = 0 then 0 else if r < 0 then -1 else kpT (c * r)
def rsT (w z : Int) : Int := if w < 0 ∨ 1000000001 ≤ z then 1000000001 else if w ≤ z then z - w else -1
def inT (x : Int) : Prop := -1 ≤ x ∧ x ≤ 1000000001
theorem tT_in (x y : Int) : inT (tmT x y) := by unfold inT tmT; split <;> (try split) <;> omega
theorem kp_in (x : Int) : inT (kpT x) := by unfold inT kpT; split <;> (try split) <;> omega
theorem mx_inT {x y : Int} (h : inT x) (h2 : inT y) : inT (mxT x y) := by unfold inT mxT at *; split <;> omega
theorem rs_in (w z : Int) : -1 ≤ rsT w z := by unfold rsT; split <;> (try split) <;> omega
theorem tm_rs {w y z : Int} (hy : inT y) (hz : -1 ≤ z) : tmT w y ≤ z ↔ y ≤ rsT w z := by
  unfold inT at hy; unfold tmT rsT; split <;> (try split) <;> (try split) <;> (try split) <;> omega
theorem tm_as (x y w : Int) (hy : inT y) : tmT (tmT x y) w = tmT x (tmT y w) := by
  unfold inT at hy; unfold tmT
  by_cases h1 : x < 0
  · simp only [h1, true_or, if_true]; rw [if_pos (Or.inl (by omega))]
  · by_cases h2 : y < 0
    · rw [if_pos (c := x < 0 ∨ y < 0) (Or.inr h2), if_pos (c := y < 0 ∨ w < 0) (Or.inl h2), if_pos (Or.inl (by omega)), if_pos (Or.inr (by omega))]
    · by_cases h3 : w < 0
      · rw [if_pos (c := y < 0 ∨ w < 0) (Or.inr h3), if_pos (c := x < 0 ∨ (-1 : Int) < 0) (Or.inr (by omega)), if_pos (Or.inr h3)]
      · rw [if_neg (c := x < 0 ∨ y < 0) (by omega), if_neg (c := y < 0 ∨ w < 0) (by omega)]
        split <;> split <;> (try split) <;> (try split) <;> (try split) <;> omega
theorem tm_cm (x y : Int) : tmT x y = tmT y x := by unfold tmT; split <;> split <;> (try split) <;> (try split) <;> omega
theorem tm_n {x : Int} : tmT x (-1) = -1 := by unfold tmT; rw [if_pos (Or.inr (by omega))]
theorem tm_n2 {x : Int} : tmT (-1) x = -1 := by unfold tmT; rw [if_pos (Or.inl (by omega))]
theorem mx_le {x y z : Int} : mxT x y ≤ z ↔ x ≤ z ∧ y ≤ z := by unfold mxT; split <;> omega
theorem tm_mx {x y w : Int} : tmT (mxT x y) w = mxT (tmT x w) (tmT y w) := by
  unfold mxT tmT
  split <;> split <;> (try split) <;> (try split) <;> (try split) <;> (try split) <;> omega
theorem eqT {x y : Int} (hx : inT x) (hy : inT y) (h : ∀ z, -1 ≤ z → (x ≤ z ↔ y ≤ z)) : x = y := by
  unfold inT at *
  have h1 := (h x hx.1).1 (Int.le_refl x)
  have h2 := (h y hy.1).2 (Int.le_refl y)
  omega
/-- a unit's loops, as the proof finds them good -/
abbrev GLT (n a b : Int → Int) (sz : Int) : Prop := (0 ≤ sz) ∧ (∀ k, 0 ≤ k → k < sz → n k = 13 → 1 ≤ k ∧ n (k - 1) = 12 ∧ (0 ≤ b (k - 1) ∧ b (k - 1) ≤ 1000000) ∧ k + 2 ≤ b k ∧ b k ≤ sz ∧ n (b k - 1) = 14 ∧ a (b k - 1) = k) ∧ (∀ j, 0 ≤ j → j < sz → n j = 14 → 0 ≤ a j ∧ a j < j ∧ n (a j) = 13 ∧ b (a j) = j + 1) ∧ (∀ l k, 0 ≤ l → l < sz → 0 ≤ k → k < sz → n l = 13 → n k = 13 → l < k → k < b l → b k ≤ b l) ∧ (∀ j, 0 ≤ j → j < sz → (n j = 10 ∨ n j = 11) → j < a j ∧ a j ≤ sz ∧ ∀ l, 0 ≤ l → l < sz → n l = 13 → l ≤ a j → a j < b l → l < j ∧ j < b l)
theorem GLT.sz0 {n a b : Int → Int} {sz : Int} (h : GLT n a b sz) : 0 ≤ sz := h.1
theorem GLT.lp {n a b : Int → Int} {sz : Int} (h : GLT n a b sz) : ∀ k, 0 ≤ k → k < sz → n k = 13 → 1 ≤ k ∧ n (k - 1) = 12 ∧ (0 ≤ b (k - 1) ∧ b (k - 1) ≤ 1000000) ∧ k + 2 ≤ b k ∧ b k ≤ sz ∧ n (b k - 1) = 14 ∧ a (b k - 1) = k := h.2.1
theorem GLT.bk {n a b : Int → Int} {sz : Int} (h : GLT n a b sz) : ∀ j, 0 ≤ j → j < sz → n j = 14 → 0 ≤ a j ∧ a j < j ∧ n (a j) = 13 ∧ b (a j) = j + 1 := h.2.2.1
theorem GLT.ne {n a b : Int → Int} {sz : Int} (h : GLT n a b sz) : ∀ l k, 0 ≤ l → l < sz → 0 ≤ k → k < sz → n l = 13 → n k = 13 → l < k → k < b l → b k ≤ b l := h.2.2.2.1
theorem GLT.go {n a b : Int → Int} {sz : Int} (h : GLT n a b sz) : ∀ j, 0 ≤ j → j < sz → (n j = 10 ∨ n j = 11) → j < a j ∧ a j ≤ sz ∧ ∀ l, 0 ≤ l → l < sz → n l = 13 → l ≤ a j → a j < b l → l < j ∧ j < b l := h.2.2.2.2
theorem GLT.ne2 {n a b : Int → Int} {sz : Int} (h : GLT n a b sz) (l k : Int) (h0 : 0 ≤ l) (h1 : l < sz) (h2 : 0 ≤ k) (h3 : k < sz) (h4 : n l = 13) (h5 : n k = 13) (h6 : l < k) (h7 : k < b l) : b k < b l := by
  have q := h.ne l k h0 h1 h2 h3 h4 h5 h6 h7
  have q1 := h.lp l h0 h1 h4
  have q2 := h.lp k h2 h3 h5
  by_cases e : b k = b l
  · rw [e] at q2
    omega
  · omega
/-- the loops between l and j, around j -/
def nsT (n b : Int → Int) (sz l j k : Int) : Prop := l < k ∧ 0 ≤ k ∧ k < sz ∧ n k = 13 ∧ k < j ∧ j < b k
/-- a scope: the whole unit, or a loop's inside with its 14 at to -/
def scT (n b : Int → Int) (sz l to : Int) : Prop := (l = -1 ∧ to = sz) ∨ (0 ≤ l ∧ l < sz ∧ n l = 13 ∧ to = b l - 1)
/-- the reference's equations -/
abbrev RET (n a b g rr : Int → Int) (sz : Int) (Q : Int → Int → Int) : Prop := (∀ l j, inT (Q l j)) ∧ (∀ l j, 0 ≤ l → l < sz → n l = 13 → ¬ (l < j ∧ j < b l) → Q l j = -1) ∧ (Q (-1) sz = 0) ∧ (∀ k, inT (rr k)) ∧ (∀ k, 0 ≤ k → k < sz → n k = 13 → rr k = tmT 1 (Q k (k + 1))) ∧ (∀ l to j, scT n b sz l to → l < j → j ≤ to → j < sz → n j = 10 → Q l j = tmT 1 (Q l (a j))) ∧ (∀ l to j, scT n b sz l to → l < j → j ≤ to → j < sz → n j = 11 → Q l j = mxT (tmT 1 (Q l (j + 1))) (tmT 1 (Q l (a j)))) ∧ (∀ l to j, scT n b sz l to → l < j → j ≤ to → j < sz → n j = 13 → Q l j = mxT (tmT (tmT (ttT (b (j - 1)) (rr j)) 1) (Q l (b j))) (if b (j - 1) = 0 then -1 else tmT (tmT (if rr j = -1 then 0 else ttT (b (j - 1) - 1) (rr j)) 1) (Q l (j + 1)))) ∧ (∀ l to j, scT n b sz l to → l < j → j ≤ to → j < sz → n j = 14 → Q l j = if 0 ≤ l ∧ b l - 1 = j then 1 else -1) ∧ (∀ l to j, scT n b sz l to → l < j → j ≤ to → j < sz → n j = 15 ∨ n j = 16 → Q l j = tmT (kpT (1 + g (a j))) (Q l (j + 1))) ∧ (∀ l to j, scT n b sz l to → l < j → j ≤ to → j < sz → n j = 18 → Q l j = if l < 0 then 1 else -1) ∧ (∀ l to j, scT n b sz l to → l < j → j ≤ to → j < sz → n j ≠ 10 → n j ≠ 11 → n j ≠ 13 → n j ≠ 14 → n j ≠ 15 → n j ≠ 16 → n j ≠ 18 → Q l j = tmT 1 (Q l (j + 1)))
theorem RET.inn {n a b g rr : Int → Int} {sz : Int} {Q : Int → Int → Int} (h : RET n a b g rr sz Q) : ∀ l j, inT (Q l j) := h.1
theorem RET.out {n a b g rr : Int → Int} {sz : Int} {Q : Int → Int → Int} (h : RET n a b g rr sz Q) : ∀ l j, 0 ≤ l → l < sz → n l = 13 → ¬ (l < j ∧ j < b l) → Q l j = -1 := h.2.1
theorem RET.fin {n a b g rr : Int → Int} {sz : Int} {Q : Int → Int → Int} (h : RET n a b g rr sz Q) : Q (-1) sz = 0 := h.2.2.1
theorem RET.rin {n a b g rr : Int → Int} {sz : Int} {Q : Int → Int → Int} (h : RET n a b g rr sz Q) : ∀ k, inT (rr k) := h.2.2.2.1
theorem RET.rds {n a b g rr : Int → Int} {sz : Int} {Q : Int → Int → Int} (h : RET n a b g rr sz Q) : ∀ k, 0 ≤ k → k < sz → n k = 13 → rr k = tmT 1 (Q k (k + 1)) := h.2.2.2.2.1
theorem RET.e10 {n a b g rr : Int → Int} {sz : Int} {Q : Int → Int → Int} (h : RET n a b g rr sz Q) : ∀ l to j, scT n b sz l to → l < j → j ≤ to → j < sz → n j = 10 → Q l j = tmT 1 (Q l (a j)) := h.2.2.2.2.2.1
theorem RET.e11 {n a b g rr : Int → Int} {sz : Int} {Q : Int → Int → Int} (h : RET n a b g rr sz Q) : ∀ l to j, scT n b sz l to → l < j → j ≤ to → j < sz → n j = 11 → Q l j = mxT (tmT 1 (Q l (j + 1))) (tmT 1 (Q l (a j))) := h.2.2.2.2.2.2.1
theorem RET.e13 {n a b g rr : Int → Int} {sz : Int} {Q : Int → Int → Int} (h : RET n a b g rr sz Q) : ∀ l to j, scT n b sz l to → l < j → j ≤ to → j < sz → n j = 13 → Q l j = mxT (tmT (tmT (ttT (b (j - 1)) (rr j)) 1) (Q l (b j))) (if b (j - 1) = 0 then -1 else tmT (tmT (if rr j = -1 then 0 else ttT (b (j - 1) - 1) (rr j)) 1) (Q l (j + 1))) := h.2.2.2.2.2.2.2.1
theorem RET.e14 {n a b g rr : Int → Int} {sz : Int} {Q : Int → Int → Int} (h : RET n a b g rr sz Q) : ∀ l to j, scT n b sz l to → l < j → j ≤ to → j < sz → n j = 14 → Q l j = if 0 ≤ l ∧ b l - 1 = j then 1 else -1 := h.2.2.2.2.2.2.2.2.1
theorem RET.e15 {n a b g rr : Int → Int} {sz : Int} {Q : Int → Int → Int} (h : RET n a b g rr sz Q) : ∀ l to j, scT n b sz l to → l < j → j ≤ to → j < sz → n j = 15 ∨ n j = 16 → Q l j = tmT (kpT (1 + g (a j))) (Q l (j + 1)) := h.2.2.2.2.2.2.2.2.2.1
theorem RET.e18 {n a b g rr : Int → Int} {sz : Int} {Q : Int → Int → Int} (h : RET n a b g rr sz Q) : ∀ l to j, scT n b sz l to → l < j → j ≤ to → j < sz → n j = 18 → Q l j = if l < 0 then 1 else -1 := h.2.2.2.2.2.2.2.2.2.2.1
theorem RET.e1 {n a b g rr : Int → Int} {sz : Int} {Q : Int → Int → Int} (h : RET n a b g rr sz Q) : ∀ l to j, scT n b sz l to → l < j → j ≤ to → j < sz → n j ≠ 10 → n j ≠ 11 → n j ≠ 13 → n j ≠ 14 → n j ≠ 15 → n j ≠ 16 → n j ≠ 18 → Q l j = tmT 1 (Q l (j + 1)) := h.2.2.2.2.2.2.2.2.2.2.2
/-- the class's value at a place, from the places behind it -/
def vtT (V : Int → Int) (to t : Int) : Int := if t ≤ to then V t else -1
def wkT (b rr : Int → Int) (j : Int) : Int := kpT (1 + if rr j = -1 then 0 else (b (j - 1) - 1) * rr j)
def evT (n a b g rr : Int → Int) (sz to j : Int) (V : Int → Int) : Int :=
  if n j = 10 then tmT 1 (vtT V to (a j)) else if n j = 11 then mxT (tmT 1 (vtT V to (a j))) (tmT 1 (vtT V to (j + 1)))
  else if n j = 13 then (if b (j - 1) = 0 then tmT 1 (vtT V to (b j)) else tmT (wkT b rr j) (vtT V to (j + 1)))
  else if n j = 14 then tmT 2 (vtT V to (j + 1)) else if n j = 15 ∨ n j = 16 then tmT (kpT (1 + g (a j))) (vtT V to (j + 1))
  else if n j = 18 then tmT 1 (vtT V to sz) else tmT 1 (vtT V to (j + 1))
/-- the claim at a place -/
def clT (n b : Int → Int) (sz l : Int) (V : Int → Int) (j v x : Int) (p : Int → Int) : Prop := ∀ z, -1 ≤ z → (v ≤ z ↔ x ≤ z ∧ ∀ k, nsT n b sz l j k → tmT (p k) (tmT 1 (V (b k))) ≤ z)
theorem cl_edge {n b : Int → Int} {sz l to : Int} {Q : Int → Int → Int} {V : Int → Int} (hQ : ∀ l j, inT (Q l j)) (hV : ∀ j, inT (V j)) {j t w : Int}
    (h1 : t ≤ to → clT n b sz l V t (V t) (Q l t) (fun k => Q k t)) (h2 : ¬ t ≤ to → Q l t = -1)
    (h3 : ∀ k, nsT n b sz l j k → (nsT n b sz l t k ∧ t ≤ to) ∨ Q k t = -1) (h4 : ∀ k, t ≤ to → nsT n b sz l t k → nsT n b sz l j k) :
    clT n b sz l V j (tmT w (vtT V to t)) (tmT w (Q l t)) (fun k => tmT w (Q k t)) := by
  intro z hz
  by_cases ht : t ≤ to
  · unfold vtT; rw [if_pos ht]
    rw [tm_rs (hV t) hz, h1 ht _ (rs_in w z), tm_rs (hQ l t) hz]
    refine and_congr_right (fun _ => ⟨fun h k hk => ?_, fun h k hk => ?_⟩)
    · show tmT (tmT w (Q k t)) _ ≤ z
      rcases h3 k hk with q | q
      · rw [tm_as _ _ _ (hQ k t), tm_rs (tT_in _ _) hz]; exact h k q.1
      · rw [q, tm_n, tm_n2]; exact hz
    · have := h k (h4 k ht hk)
      dsimp only at this
      rw [tm_as _ _ _ (hQ k t), tm_rs (tT_in _ _) hz] at this
      exact this
  · unfold vtT; rw [if_neg ht, h2 ht, tm_n]
    refine ⟨fun h => ⟨h, fun k hk => ?_⟩, fun h => h.1⟩
    show tmT (tmT w (Q k t)) _ ≤ z
    rcases h3 k hk with q | q
    · exact absurd q.2 ht
    · rw [q, tm_n, tm_n2]; exact hz
theorem cl_mx {n b : Int → Int} {sz l : Int} {V : Int → Int} {j v v2 x x2 : Int} {p p2 : Int → Int} (h : clT n b sz l V j v x p) (h2 : clT n b sz l V j v2 x2 p2) : clT n b sz l V j (mxT v2 v) (mxT x x2) (fun k => mxT (p k) (p2 k)) := by
  intro z hz
  rw [mx_le, mx_le, h z hz, h2 z hz]
  constructor
  · rintro ⟨⟨q1, q2⟩, q3, q4⟩
    exact ⟨⟨q3, q1⟩, fun k hk => by show tmT (mxT (p k) (p2 k)) _ ≤ z; rw [tm_mx, mx_le]; exact ⟨q4 k hk, q2 k hk⟩⟩
  · rintro ⟨⟨q1, q2⟩, q3⟩
    exact ⟨⟨q2, fun k hk => by have := q3 k hk; dsimp only at this; rw [tm_mx, mx_le] at this; exact this.2⟩, q1, fun k hk => by have := q3 k hk; dsimp only at this; rw [tm_mx, mx_le] at this; exact this.1⟩
theorem cl_cg {n b : Int → Int} {sz l : Int} {V : Int → Int} {j v v2 x x2 : Int} {p p2 : Int → Int} (h : clT n b sz l V j v x p) (hv : v2 = v) (hx : x2 = x) (hp : ∀ k, nsT n b sz l j k → p2 k = p k) : clT n b sz l V j v2 x2 p2 := by
  intro z hz
  rw [hv, hx, h z hz]
  refine and_congr_right (fun _ => ⟨fun q k hk => ?_, fun q k hk => ?_⟩)
  · rw [hp k hk]; exact q k hk
  · rw [← hp k hk]; exact q k hk
theorem cl_loop {n b : Int → Int} {sz l to : Int} {Q : Int → Int → Int} {V : Int → Int} (hQ : ∀ l j, inT (Q l j)) (hV : ∀ j, inT (V j)) {j w w2 : Int}
    (h1 : clT n b sz l V (j + 1) (V (j + 1)) (Q l (j + 1)) (fun k => Q k (j + 1))) (h2 : clT n b sz l V (b j) (V (b j)) (Q l (b j)) (fun k => Q k (b j)))
    (h3 : ∀ k, nsT n b sz l (j + 1) k ↔ nsT n b sz l j k ∨ k = j) (h4 : ∀ k, nsT n b sz l (b j) k ↔ nsT n b sz l j k) (hto : j + 1 ≤ to)
    (hw : tmT (tmT w (Q j (j + 1))) 1 = w2) :
    clT n b sz l V j (tmT w (vtT V to (j + 1))) (mxT (tmT w2 (Q l (b j))) (tmT w (Q l (j + 1)))) (fun k => mxT (tmT w2 (Q k (b j))) (tmT w (Q k (j + 1)))) := by
  intro z hz
  have hk0 : tmT (Q j (j + 1)) (tmT 1 (V (b j))) ≤ rsT w z ↔ V (b j) ≤ rsT w2 z := by
    rw [← tm_rs (tT_in _ _) hz, ← tm_rs (hV _) hz, ← hw, tm_as _ 1 _ (by unfold inT; omega), tm_as _ _ _ (hQ _ _)]
  unfold vtT
  rw [if_pos hto, tm_rs (hV _) hz, h1 _ (rs_in w z), mx_le]
  constructor
  · rintro ⟨q1, q2⟩
    have q3 := (h2 _ (rs_in w2 z)).1 (hk0.1 (q2 j ((h3 j).2 (Or.inr rfl))))
    refine ⟨⟨(tm_rs (hQ _ _) hz).2 q3.1, (tm_rs (hQ _ _) hz).2 q1⟩, fun k hk => ?_⟩
    show tmT (mxT _ _) _ ≤ z
    rw [tm_mx, mx_le, tm_as _ _ _ (hQ _ _), tm_as _ _ _ (hQ _ _), tm_rs (tT_in _ _) hz, tm_rs (tT_in _ _) hz]
    exact ⟨q3.2 k ((h4 k).2 hk), q2 k ((h3 k).2 (Or.inl hk))⟩
  · rintro ⟨⟨q1, q2⟩, q3⟩
    have q4 : ∀ k, nsT n b sz l j k → tmT (Q k (b j)) (tmT 1 (V (b k))) ≤ rsT w2 z ∧ tmT (Q k (j + 1)) (tmT 1 (V (b k))) ≤ rsT w z := fun k hk => by
      have := q3 k hk
      dsimp only at this
      rw [tm_mx, mx_le, tm_as _ _ _ (hQ _ _), tm_as _ _ _ (hQ _ _), tm_rs (tT_in _ _) hz, tm_rs (tT_in _ _) hz] at this
      exact this
    refine ⟨(tm_rs (hQ _ _) hz).1 q2, fun k hk => ?_⟩
    rcases (h3 k).1 hk with h | rfl
    · exact (q4 k h).2
    · exact hk0.2 ((h2 _ (rs_in w2 z)).2 ⟨(tm_rs (hQ _ _) hz).1 q1, fun k hk => (q4 k ((h4 k).1 hk)).1⟩)
theorem w_loop {c r q : Int} (hc : 1 ≤ c) (hq : inT q) (hr : r = tmT 1 q) : tmT (tmT (kpT (1 + if r = -1 then 0 else (c - 1) * r)) q) 1 = tmT (ttT c r) 1 := by
  unfold inT at hq
  by_cases h : q < 0
  · have e : q = -1 := by omega
    subst e
    rw [tm_n] at hr
    rw [tm_n, hr]
    unfold ttT
    rw [if_neg (by omega), if_pos (by omega)]
  · have e : r = if 1 + q < 1000000001 then 1 + q else 1000000001 := by rw [hr]; unfold tmT; rw [if_neg (by omega)]
    have hr0 : 1 ≤ r := by rw [e]; split <;> omega
    have hm : 0 ≤ (c - 1) * r := Int.mul_nonneg (by omega) (by omega)
    have hm2 : c * r = (c - 1) * r + r := by rw [Int.sub_mul]; omega
    unfold ttT
    rw [if_neg (c := r = -1) (by omega), if_neg (by omega), if_neg (by omega), hm2]
    generalize (c - 1) * r = m at *
    unfold kpT tmT
    rw [if_neg (c := 1 + m < 0) (by omega), if_neg (c := m + r < 0) (by omega)]
    split at e <;> split <;> (try split) <;> (try split) <;> (try split) <;> (try split) <;> omega
theorem w_loop2 {c r : Int} (hc : 1 ≤ c) (hr : inT r) : kpT (1 + if r = -1 then 0 else (c - 1) * r) = tmT (if r = -1 then 0 else ttT (c - 1) r) 1 := by
  unfold inT at hr
  by_cases h : r = -1
  · rw [if_pos h, if_pos h]; rfl
  · rw [if_neg h, if_neg h]
    unfold ttT
    by_cases h1 : c - 1 = 0
    · rw [if_pos h1, h1, Int.zero_mul]; rfl
    · rw [if_neg h1, if_neg (by omega)]
      have hm : 0 ≤ (c - 1) * r := Int.mul_nonneg (by omega) (by omega)
      generalize (c - 1) * r = m at *
      unfold kpT tmT
      rw [if_neg (c := 1 + m < 0) (by omega), if_neg (c := m < 0) (by omega)]
      split <;> split <;> (try split) <;> omega
theorem sc_to {n a b : Int → Int} {sz l to : Int} (hG : GLT n a b sz) (hs : scT n b sz l to) {k : Int} (h0 : 0 ≤ k) (h1 : k < sz) (h2 : n k = 13) (h3 : l < k) (h4 : k < to) : b k ≤ to := by
  rcases hs with ⟨rfl, rfl⟩ | ⟨q1, q2, q3, q4⟩
  · have := hG.lp k h0 h1 h2; omega
  · have := hG.ne2 l k q1 q2 h0 h1 q3 h2 h3 (by omega); omega
theorem sc_in {n a b : Int → Int} {sz l to : Int} (hG : GLT n a b sz) (hs : scT n b sz l to) : -1 ≤ l ∧ l < to ∧ to ≤ sz ∧ (0 ≤ l → to < sz) := by
  have := hG.sz0
  rcases hs with ⟨rfl, rfl⟩ | ⟨q1, q2, q3, q4⟩
  · omega
  · have := hG.lp l q1 q2 q3; omega
set_option linter.unusedVariables false in
/-- on by one, where no loop ends or begins -/
theorem ns_1 {n a b : Int → Int} {sz l j : Int} (hG : GLT n a b sz) (h0 : 0 ≤ j) (h1 : j < sz) (h2 : n j ≠ 13) (h3 : n j ≠ 14) (k : Int) : nsT n b sz l (j + 1) k ↔ nsT n b sz l j k := by
  unfold nsT
  constructor
  · rintro ⟨q1, q2, q3, q4, q5, q6⟩
    have : k ≠ j := fun e => h2 (e ▸ q4)
    exact ⟨q1, q2, q3, q4, by omega, by omega⟩
  · rintro ⟨q1, q2, q3, q4, q5, q6⟩
    have q7 := hG.lp k q2 q3 q4
    have : b k - 1 ≠ j := fun e => h3 (by rw [← e]; exact q7.2.2.2.2.2.1)
    exact ⟨q1, q2, q3, q4, by omega, by omega⟩
theorem ns_l {n a b : Int → Int} {sz l j : Int} (hG : GLT n a b sz) (h0 : 0 ≤ j) (h1 : j < sz) (h2 : n j = 13) (hl : l < j) (k : Int) : nsT n b sz l (j + 1) k ↔ nsT n b sz l j k ∨ k = j := by
  unfold nsT
  have q8 := hG.lp j h0 h1 h2
  constructor
  · rintro ⟨q1, q2, q3, q4, q5, q6⟩
    by_cases e : k = j
    · exact Or.inr e
    · exact Or.inl ⟨q1, q2, q3, q4, by omega, by omega⟩
  · rintro (⟨q1, q2, q3, q4, q5, q6⟩ | rfl)
    · have := hG.ne2 k j q2 q3 h0 h1 q4 h2 q5 q6
      exact ⟨q1, q2, q3, q4, by omega, by omega⟩
    · exact ⟨hl, h0, h1, h2, by omega, by omega⟩
theorem ns_b {n a b : Int → Int} {sz l j : Int} (hG : GLT n a b sz) (h0 : 0 ≤ j) (h1 : j < sz) (h2 : n j = 13) (k : Int) : nsT n b sz l (b j) k ↔ nsT n b sz l j k := by
  unfold nsT
  have q8 := hG.lp j h0 h1 h2
  constructor
  · rintro ⟨q1, q2, q3, q4, q5, q6⟩
    have e : k ≠ j := fun e => by rw [e] at q6; omega
    by_cases e2 : k < j
    · exact ⟨q1, q2, q3, q4, e2, by omega⟩
    · have := hG.ne j k h0 h1 q2 q3 h2 q4 (by omega) q5; omega
  · rintro ⟨q1, q2, q3, q4, q5, q6⟩
    have := hG.ne2 k j q2 q3 h0 h1 q4 h2 q5 q6
    exact ⟨q1, q2, q3, q4, by omega, by omega⟩
theorem cl_main {n a b g rr : Int → Int} {sz l to : Int} {Q : Int → Int → Int} {V : Int → Int} (hG : GLT n a b sz) (hR : RET n a b g rr sz Q) (hs : scT n b sz l to) (hV : ∀ j, inT (V j)) (hVt : V to = if 0 ≤ l then 1 else 0) (hVe : ∀ j, l < j → j < to → V j = evT n a b g rr sz to j V) :
    ∀ (m : Nat) (j : Int), to - j = m → l < j → j ≤ to → clT n b sz l V j (V j) (Q l j) (fun k => Q k j) := by
  have hi := sc_in hG hs
  intro m
  induction m using Nat.strongRecOn with
  | ind m ih =>
  intro j hm hj hjt
  have IH : ∀ t, j < t → t ≤ to → clT n b sz l V t (V t) (Q l t) (fun k => Q k t) := fun t h1 h2 => ih (to - t).toNat (by omega) t (by omega) (by omega) h2
  have hns : ∀ k, nsT n b sz l j k → scT n b sz k (b k - 1) ∧ k < j ∧ j ≤ b k - 1 ∧ b k ≤ to ∧ 0 ≤ k ∧ k < sz ∧ n k = 13 := fun k q => ⟨Or.inr ⟨q.2.1, q.2.2.1, q.2.2.2.1, rfl⟩, q.2.2.2.2.1, by have := q.2.2.2.2.2; omega, sc_to hG hs q.2.1 q.2.2.1 q.2.2.2.1 q.1 (by have := q.2.2.2.2.1; omega), q.2.1, q.2.2.1, q.2.2.2.1⟩
  by_cases he : j = to
  · subst he
    have hno : ∀ k, ¬ nsT n b sz l j k := fun k q => by have := hns k q; omega
    have hQ : Q l j = if 0 ≤ l then 1 else 0 := by
      rcases hs with ⟨rfl, rfl⟩ | ⟨q1, q2, q3, q4⟩
      · exact hR.fin
      · have q5 := hG.lp l q1 q2 q3
        rw [hR.e14 l j j (Or.inr ⟨q1, q2, q3, q4⟩) hj (Int.le_refl _) (by omega) (by rw [q4]; exact q5.2.2.2.2.2.1), if_pos ⟨q1, by omega⟩, if_pos q1]
    intro z hz
    rw [hVt, hQ]
    exact ⟨fun h => ⟨h, fun k hk => absurd hk (hno k)⟩, fun h => h.1⟩
  · have hj2 : j < to := by omega
    have hj0 : 0 ≤ j := by omega
    have hjs : j < sz := by omega
    have hv := hVe j hj hj2
    -- an edge on by one
    have E1 : ∀ w, n j ≠ 13 → n j ≠ 14 → clT n b sz l V j (tmT w (vtT V to (j + 1))) (tmT w (Q l (j + 1))) (fun k => tmT w (Q k (j + 1))) := fun w h1 h2 =>
      cl_edge hR.inn hV (fun h => IH _ (by omega) h) (fun h => absurd (show j + 1 ≤ to by omega) h) (fun k hk => Or.inl ⟨(ns_1 hG hj0 hjs h1 h2 k).2 hk, by omega⟩) (fun k _ hk => (ns_1 hG hj0 hjs h1 h2 k).1 hk)
    -- a jump
    have EJ : n j = 10 ∨ n j = 11 → clT n b sz l V j (tmT 1 (vtT V to (a j))) (tmT 1 (Q l (a j))) (fun k => tmT 1 (Q k (a j))) := fun h => by
      have hg := hG.go j hj0 hjs h
      refine cl_edge hR.inn hV (fun h => IH _ (by omega) h) (fun h => ?_) (fun k hk => ?_) (fun k h2 hk => ?_)
      · rcases hs with ⟨rfl, rfl⟩ | ⟨q1, q2, q3, q4⟩
        · omega
        · exact hR.out l _ q1 q2 q3 (by omega)
      · have q := hns k hk
        by_cases h3 : a j < b k
        · exact Or.inl ⟨⟨hk.1, hk.2.1, hk.2.2.1, hk.2.2.2.1, by omega, h3⟩, by omega⟩
        · exact Or.inr (hR.out k _ q.2.2.2.2.1 q.2.2.2.2.2.1 q.2.2.2.2.2.2 (by omega))
      · have q := hg.2.2 k hk.2.1 hk.2.2.1 hk.2.2.2.1 (by have := hk.2.2.2.2.1; omega) hk.2.2.2.2.2
        exact ⟨hk.1, hk.2.1, hk.2.2.1, hk.2.2.2.1, q.1, q.2⟩
    unfold evT at hv
    by_cases h10 : n j = 10
    · rw [if_pos h10] at hv
      exact cl_cg (EJ (Or.inl h10)) hv (hR.e10 l to j hs hj hjt hjs h10) (fun k hk => by have q := hns k hk; exact hR.e10 k _ j q.1 q.2.1 q.2.2.1 hjs h10)
    rw [if_neg h10] at hv
    by_cases h11 : n j = 11
    · rw [if_pos h11] at hv
      exact cl_cg (cl_mx (E1 1 (by omega) (by omega)) (EJ (Or.inr h11))) hv (hR.e11 l to j hs hj hjt hjs h11) (fun k hk => by have q := hns k hk; exact hR.e11 k _ j q.1 q.2.1 q.2.2.1 hjs h11)
    rw [if_neg h11] at hv
    by_cases h13 : n j = 13
    · rw [if_pos h13] at hv
      have hl := hG.lp j hj0 hjs h13
      have hbt := sc_to hG hs hj0 hjs h13 hj hj2
      by_cases hc : b (j - 1) = 0
      · rw [if_pos hc] at hv
        have E : clT n b sz l V j (tmT 1 (vtT V to (b j))) (tmT 1 (Q l (b j))) (fun k => tmT 1 (Q k (b j))) :=
          cl_edge hR.inn hV (fun h => IH _ (by omega) h) (fun h => absurd hbt h) (fun k hk => Or.inl ⟨(ns_b hG hj0 hjs h13 k).2 hk, hbt⟩) (fun k _ hk => (ns_b hG hj0 hjs h13 k).1 hk)
        have X : ∀ q, inT q → mxT (tmT (tmT (ttT (b (j - 1)) (rr j)) 1) q) (if b (j - 1) = 0 then -1 else tmT (tmT (if rr j = -1 then 0 else ttT (b (j - 1) - 1) (rr j)) 1) (Q l (j + 1))) = tmT 1 q := fun q hq => by
          rw [if_pos hc]; unfold ttT; rw [if_pos hc]
          show mxT (tmT 1 q) (-1) = tmT 1 q
          have := tT_in 1 q
          unfold inT at this
          unfold mxT; rw [if_neg (by omega)]
        refine cl_cg E hv ?_ (fun k hk => ?_)
        · rw [hR.e13 l to j hs hj hjt hjs h13]; exact X _ (hR.inn _ _)
        · have q := hns k hk
          show Q k j = _
          rw [hR.e13 k _ j q.1 q.2.1 q.2.2.1 hjs h13, if_pos hc]
          have := X (Q k (b j)) (hR.inn _ _)
          rw [if_pos hc] at this
          exact this
      · rw [if_neg hc] at hv
        have hw := w_loop (c := b (j - 1)) (by omega) (hR.inn j (j + 1)) (hR.rds j hj0 hjs h13)
        have hw2 := w_loop2 (c := b (j - 1)) (by omega) (hR.rin j)
        have E := cl_loop (w := wkT b rr j) (w2 := tmT (ttT (b (j - 1)) (rr j)) 1) hR.inn hV (IH _ (by omega) (show j + 1 ≤ to by omega)) (IH _ (by omega) hbt) (ns_l hG hj0 hjs h13 hj) (ns_b hG hj0 hjs h13) (to := to) (by omega) hw
        refine cl_cg E hv ?_ (fun k hk => ?_)
        · rw [hR.e13 l to j hs hj hjt hjs h13, if_neg hc]; unfold wkT; rw [hw2]
        · have q := hns k hk
          show Q k j = _
          rw [hR.e13 k _ j q.1 q.2.1 q.2.2.1 hjs h13, if_neg hc]; unfold wkT; rw [hw2]
    rw [if_neg h13] at hv
    by_cases h14 : n j = 14
    · rw [if_pos h14] at hv
      have hb := hG.bk j hj0 hjs h14
      have hal : l < a j := by
        rcases hs with ⟨rfl, rfl⟩ | ⟨q1, q2, q3, q4⟩
        · omega
        · by_cases e : a j = l
          · rw [e] at hb; omega
          · by_cases e2 : a j < l
            · have := hG.ne (a j) l hb.1 (by omega) q1 q2 hb.2.2.1 q3 e2 (by omega); omega
            · omega
      have hk0 : nsT n b sz l j (a j) := ⟨hal, hb.1, by omega, hb.2.2.1, hb.2.1, by omega⟩
      have hq0 := hns _ hk0
      intro z hz
      unfold vtT at hv
      rw [if_pos (by omega)] at hv
      rw [hv, hR.e14 l to j hs hj hjt hjs h14, if_neg (fun q => by have := hG.lp l; rcases hs with ⟨rfl, rfl⟩ | ⟨q1, q2, q3, q4⟩ <;> omega)]
      have e2 : tmT 2 (V (j + 1)) = tmT 1 (tmT 1 (V (b (a j)))) := by rw [hb.2.2.2, ← tm_as 1 1 _ (by unfold inT; omega)]; rfl
      rw [e2]
      constructor
      · refine fun h => ⟨hz, fun k hk => ?_⟩
        have q := hns k hk
        show tmT (Q k j) _ ≤ z
        rw [hR.e14 k _ j q.1 q.2.1 q.2.2.1 hjs h14]
        by_cases e : b k - 1 = j
        · have e3 : a j = k := by have := hG.lp k q.2.2.2.2.1 q.2.2.2.2.2.1 q.2.2.2.2.2.2; rw [e] at this; omega
          rw [if_pos ⟨q.2.2.2.2.1, e⟩, ← e3]; exact h
        · rw [if_neg (fun w => e w.2), tm_n2]; exact hz
      · rintro ⟨_, h⟩
        have := h _ hk0
        dsimp only at this
        rw [hR.e14 _ _ j hq0.1 hq0.2.1 hq0.2.2.1 hjs h14, if_pos ⟨hb.1, by omega⟩] at this
        exact this
    rw [if_neg h14] at hv
    by_cases h15 : n j = 15 ∨ n j = 16
    · rw [if_pos h15] at hv
      exact cl_cg (E1 _ h13 h14) hv (hR.e15 l to j hs hj hjt hjs h15) (fun k hk => by have q := hns k hk; exact hR.e15 k _ j q.1 q.2.1 q.2.2.1 hjs h15)
    rw [if_neg h15] at hv
    by_cases h18 : n j = 18
    · rw [if_pos h18] at hv
      intro z hz
      have hk : ∀ k, nsT n b sz l j k → tmT (Q k j) (tmT 1 (V (b k))) ≤ z := fun k hk => by
        have q := hns k hk
        rw [hR.e18 k _ j q.1 q.2.1 q.2.2.1 hjs h18, if_neg (by omega), tm_n2]; exact hz
      rw [hv, hR.e18 l to j hs hj hjt hjs h18]
      unfold vtT
      have hx : tmT 1 (if sz ≤ to then V sz else -1) = if l < 0 then 1 else -1 := by
        rcases hs with ⟨rfl, rfl⟩ | ⟨q1, q2, q3, q4⟩
        · rw [if_pos (Int.le_refl _), hVt]; rfl
        · rw [if_neg (by omega), if_neg (by omega)]; rfl
      rw [hx]
      exact ⟨fun h => ⟨h, hk⟩, fun h => h.1⟩
    rw [if_neg h18] at hv
    have h15a : n j ≠ 15 := fun e => h15 (Or.inl e)
    have h15b : n j ≠ 16 := fun e => h15 (Or.inr e)
    exact cl_cg (E1 _ h13 h14) hv (hR.e1 l to j hs hj hjt hjs h10 h11 h13 h14 h15a h15b h18) (fun k hk => by have q := hns k hk; exact hR.e1 k _ j q.1 q.2.1 q.2.2.1 hjs h10 h11 h13 h14 h15a h15b h18)
theorem cl_from {n a b g rr : Int → Int} {sz l to : Int} {Q : Int → Int → Int} {V : Int → Int} (hG : GLT n a b sz) (hR : RET n a b g rr sz Q) (hs : scT n b sz l to) (hV : ∀ j, inT (V j)) (hVt : V to = if 0 ≤ l then 1 else 0) (hVe : ∀ j, l < j → j < to → V j = evT n a b g rr sz to j V) : V (l + 1) = Q l (l + 1) := by
  have hi := sc_in hG hs
  refine eqT (hV _) (hR.inn _ _) (fun z hz => ?_)
  rw [cl_main hG hR hs hV hVt hVe (to - (l + 1)).toNat (l + 1) (by omega) (by omega) (by omega) z hz]
  exact ⟨fun h => h.1, fun h => ⟨h, fun k hk => by have := hk.1; have := hk.2.2.2.2.1; omega⟩⟩
theorem ev_in (n a b g rr : Int → Int) (sz to j : Int) (V : Int → Int) : inT (evT n a b g rr sz to j V) := by
  unfold evT
  split
  · exact tT_in _ _
  · split
    · exact mx_inT (tT_in _ _) (tT_in _ _)
    · split
      · split <;> exact tT_in _ _
      · split
        · exact tT_in _ _
        · split
          · exact tT_in _ _
          · split <;> exact tT_in _ _
theorem vt_cg {V V2 : Int → Int} {j to t : Int} (h : ∀ t, j < t → t ≤ to → V t = V2 t) (ht : j < t) : vtT V to t = vtT V2 to t := by
  unfold vtT
  by_cases q : t ≤ to
  · rw [if_pos q, if_pos q, h t ht q]
  · rw [if_neg q, if_neg q]
theorem ev_cg {n a b g rr : Int → Int} {sz to j : Int} (hG : GLT n a b sz) (h0 : 0 ≤ j) (h1 : j < sz) {V V2 : Int → Int} (h : ∀ t, j < t → t ≤ to → V t = V2 t) : evT n a b g rr sz to j V = evT n a b g rr sz to j V2 := by
  have q1 : vtT V to (j + 1) = vtT V2 to (j + 1) := vt_cg h (by omega)
  have q2 : vtT V to sz = vtT V2 to sz := vt_cg h (by omega)
  have q3 : n j = 10 ∨ n j = 11 → vtT V to (a j) = vtT V2 to (a j) := fun q => vt_cg h (hG.go j h0 h1 q).1
  have q4 : n j = 13 → vtT V to (b j) = vtT V2 to (b j) := fun q => vt_cg h (by have := hG.lp j h0 h1 q; omega)
  unfold evT
  rw [q1, q2]
  by_cases h10 : n j = 10
  · rw [if_pos h10, if_pos h10, q3 (Or.inl h10)]
  rw [if_neg h10, if_neg h10]
  by_cases h11 : n j = 11
  · rw [if_pos h11, if_pos h11, q3 (Or.inr h11)]
  rw [if_neg h11, if_neg h11]
  by_cases h13 : n j = 13
  · rw [if_pos h13, if_pos h13, q4 h13]
  rw [if_neg h13, if_neg h13]
theorem ev_ex {n a b g rr : Int → Int} {sz l to : Int} (hG : GLT n a b sz) (hs : scT n b sz l to) (dl : Int) (hd : inT dl) : ∃ V : Int → Int, (∀ j, inT (V j)) ∧ V to = dl ∧ ∀ j, l < j → j < to → V j = evT n a b g rr sz to j V := by
  have hi := sc_in hG hs
  have key : ∀ m : Nat, ∃ V : Int → Int, (∀ j, inT (V j)) ∧ V to = dl ∧ ∀ j, l < j → j < to → to - m ≤ j → V j = evT n a b g rr sz to j V := by
    intro m
    induction m with
    | zero => exact ⟨fun _ => dl, fun _ => hd, rfl, fun j h1 h2 h3 => by omega⟩
    | succ m ih =>
      obtain ⟨V, h1, h2, h3⟩ := ih
      refine ⟨fun i => if i = to - (m + 1) then evT n a b g rr sz to i V else V i, fun j => ?_, ?_, fun j q1 q2 q3 => ?_⟩
      · dsimp only
        split
        · exact ev_in _ _ _ _ _ _ _ _ _
        · exact h1 j
      · dsimp only
        rw [if_neg (by omega)]; exact h2
      · have hc : evT n a b g rr sz to j V = evT n a b g rr sz to j (fun i => if i = to - (m + 1) then evT n a b g rr sz to i V else V i) := ev_cg hG (by omega) (by omega) (fun t w1 w2 => by rw [if_neg (by omega)])
        rw [← hc]
        by_cases e : j = to - (m + 1)
        · dsimp only; rw [if_pos e]
        · dsimp only; rw [if_neg e]; exact h3 j q1 q2 (by omega)
  obtain ⟨V, h1, h2, h3⟩ := key (to - l).toNat
  exact ⟨V, h1, h2, fun j q1 q2 => h3 j q1 q2 (by omega)⟩
theorem kp_id {x : Int} (h : inT x) : kpT x = x := by unfold inT at h; unfold kpT; split <;> (try split) <;> omega
theorem kp_bh {x y : Int} : kpT (if x < 0 ∨ y < 0 then -1 else if 2000000000 < x + y then 2000000000 else x + y) = tmT (kpT x) (kpT y) := by
  unfold kpT tmT
  by_cases h1 : x < 0
  · rw [if_pos (Or.inl h1), if_pos h1, if_pos (Or.inl (by omega))]; rfl
  · by_cases h2 : y < 0
    · rw [if_pos (Or.inr h2), if_pos h2, if_pos (Or.inr (by omega))]; rfl
    · rw [if_neg (c := x < 0 ∨ y < 0) (by omega), if_neg h1, if_neg h2]
      split <;> split <;> (try split) <;> (try split) <;> (try split) <;> omega
theorem kp_mx {x y : Int} : kpT (if y < x then x else y) = mxT (kpT x) (kpT y) := by
  unfold kpT mxT
  split <;> split <;> (try split) <;> (try split) <;> (try split) <;> omega
theorem kp_mul {c r : Int} (hc : 0 ≤ c) : kpT (c * kpT r) = if c = 0 then 0 else kpT (c * r) := by
  by_cases h : c = 0
  · rw [if_pos h, h, Int.zero_mul]; rfl
  · rw [if_neg h]
    by_cases h1 : r < 0
    · have e : kpT r = -1 := by unfold kpT; rw [if_pos h1]
      have e2 : c * r < 0 := Int.mul_neg_of_pos_of_neg (by omega) h1
      rw [e]
      unfold kpT; rw [if_pos (by omega), if_pos e2]
    · by_cases h2 : r < 1000000001
      · have e : kpT r = r := by unfold kpT; rw [if_neg h1, if_pos h2]
        rw [e]
      · have e : kpT r = 1000000001 := by unfold kpT; rw [if_neg h1, if_neg h2]
        have e2 : 1 * r ≤ c * r := Int.mul_le_mul_of_nonneg_right (by omega) (by omega)
        rw [e]
        unfold kpT
        rw [if_neg (c := c * 1000000001 < 0) (by omega), if_neg (c := c * 1000000001 < 1000000001) (by omega), if_neg (c := c * r < 0) (by omega), if_neg (by omega)]
/-- the weight of a loop's first way, with rounds that aren't cut off -/
theorem kp_wk {c r : Int} (hc : 0 ≤ c) (hr : -1 ≤ r) : kpT (1 + if r = -1 then 0 else c * r) = kpT (1 + if kpT r = -1 then 0 else c * kpT r) := by
  by_cases h : r = -1
  · rw [if_pos h, if_pos (by rw [h]; rfl)]
  · have h2 : kpT r ≠ -1 := by unfold kpT; split <;> (try split) <;> omega
    rw [if_neg h, if_neg h2]
    by_cases h3 : r < 1000000001
    · have e : kpT r = r := by unfold kpT; rw [if_neg (by omega), if_pos h3]
      rw [e]
    · have e : kpT r = 1000000001 := by unfold kpT; rw [if_neg (by omega), if_neg h3]
      rw [e]
      by_cases h4 : c = 0
      · rw [h4, Int.zero_mul, Int.zero_mul]
      · have e2 : 1 * r ≤ c * r := Int.mul_le_mul_of_nonneg_right (by omega) (by omega)
        unfold kpT
        rw [if_neg (c := 1 + c * r < 0) (by omega), if_neg (c := 1 + c * r < 1000000001) (by omega), if_neg (by omega), if_neg (by omega)]
