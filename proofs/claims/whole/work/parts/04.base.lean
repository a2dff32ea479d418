/-! THE ABSTRACT MACHINE: whole numbers, labels instead of addresses; its world as functions. -/
abbrev AV : Type := Int ⊕ (Int ⊕ (Nat ⊕ (Nat ⊕ Unit)))
def vI (x : Int) : AV := .inl x
def vL (x : Int) : AV := .inr (.inl x)
def vR (k : Nat) : AV := .inr (.inr (.inl k))
def vS (k : Nat) : AV := .inr (.inr (.inr (.inl k)))
def vN : AV := .inr (.inr (.inr (.inr ())))
abbrev inI (x : Int) : Prop := -2147483648 ≤ x ∧ x ≤ 2147483647
abbrev inL (x : Int) : Prop := -9223372036854775808 ≤ x ∧ x ≤ 9223372036854775807
def val (ad ro : Nat → Nat) : AV → Value
  | .inl x => .int (Int32.ofInt x)
  | .inr (.inl x) => .long (Int64.ofInt x)
  | .inr (.inr (.inl k)) => .ref (ad k)
  | .inr (.inr (.inr (.inl k))) => .ref (ro k)
  | .inr (.inr (.inr (.inr _))) => .null
def okV (n : Nat) : AV → Prop
  | .inl x => inI x
  | .inr (.inl x) => inL x
  | .inr (.inr (.inl k)) => k < n
  | .inr (.inr (.inr (.inl _))) => True
  | .inr (.inr (.inr (.inr _))) => True
theorem tI {x : Int} (h : inI x) : (Int32.ofInt x).toInt = x := Int32.toInt_ofInt_of_le (by unfold inI at h; omega) (by unfold inI at h; omega)
theorem tL {x : Int} (h : inL x) : (Int64.ofInt x).toInt = x := Int64.toInt_ofInt_of_le (by unfold inL at h; omega) (by unfold inL at h; omega)
theorem ltI {x y : Int} (hx : inI x) (hy : inI y) : Int32.ofInt x < Int32.ofInt y ↔ x < y := by rw [Int32.lt_iff_toInt_lt, tI hx, tI hy]
theorem leI {x y : Int} (hx : inI x) (hy : inI y) : Int32.ofInt x ≤ Int32.ofInt y ↔ x ≤ y := by rw [Int32.le_iff_toInt_le, tI hx, tI hy]
theorem eqI {x y : Int} (hx : inI x) (hy : inI y) : Int32.ofInt x = Int32.ofInt y ↔ x = y := by rw [← Int32.toInt_inj, tI hx, tI hy]
theorem in0 : inI 0 := by unfold inI; omega
theorem ofI0 : Int32.ofInt 0 = 0 := by decide
theorem adI (x y : Int) : Int32.ofInt (x + y) = Int32.ofInt x + Int32.ofInt y := Int32.toInt_inj.mp (by simp [Int32.toInt_add, Int32.toInt_ofInt])
theorem sbI (x y : Int) : Int32.ofInt (x - y) = Int32.ofInt x - Int32.ofInt y := Int32.toInt_inj.mp (by simp [Int32.toInt_sub, Int32.toInt_ofInt])
theorem adL (x y : Int) : Int64.ofInt (x + y) = Int64.ofInt x + Int64.ofInt y := Int64.toInt_inj.mp (by simp [Int64.toInt_add, Int64.toInt_ofInt])
theorem sbL (x y : Int) : Int64.ofInt (x - y) = Int64.ofInt x - Int64.ofInt y := Int64.toInt_inj.mp (by simp [Int64.toInt_sub, Int64.toInt_ofInt])
theorem muL (x y : Int) : Int64.ofInt (x * y) = Int64.ofInt x * Int64.ofInt y := Int64.toInt_inj.mp (by simp [Int64.toInt_mul, Int64.toInt_ofInt])
theorem ilL {x : Int} (h : inI x) : (Int32.ofInt x).toInt64 = Int64.ofInt x := Int64.toInt_inj.mp (by rw [Int32.toInt_toInt64, tI h, tL (by unfold inI at h; unfold inL; omega)])
theorem liI {x : Int} (h : inI x) : (Int64.ofInt x).toInt32 = Int32.ofInt x := Int32.toInt_inj.mp (by
  have h1 : inL x := by unfold inI at h; unfold inL; omega
  rw [Int64.toInt_toInt32, tL h1, tI h]
  unfold inI at h
  exact Int.bmod_eq_of_le (by omega) (by omega))
theorem bpI {x : Int} (h : -128 ≤ x ∧ x ≤ 127) : (Int8.ofInt x).toInt32 = Int32.ofInt x := Int32.toInt_inj.mp (by
  rw [Int8.toInt_toInt32, tI (by unfold inI; omega), Int8.toInt_ofInt_of_le (by omega) (by omega)])
theorem spI {x : Int} (h : -32768 ≤ x ∧ x ≤ 32767) : (Int16.ofInt x).toInt32 = Int32.ofInt x := Int32.toInt_inj.mp (by
  rw [Int16.toInt_toInt32, tI (by unfold inI; omega), Int16.toInt_ofInt_of_le (by omega) (by omega)])
theorem clI {x : Int} (h : inI x) : (Int32.ofInt x).toNatClampNeg = x.toNat := by
  show (Int32.ofInt x).toInt.toNat = _
  rw [tI h]
theorem ixI {i : Int} {N : Nat} (h0 : 0 ≤ i) (h1 : i < N) (h : inI i) : vp_in (Int32.ofInt i) N := by rw [vp_in_iff, tI h]; exact ⟨h0, h1⟩
theorem cmpL {x y : Int} (hx : inL x) (hy : inL y) : lg_cmp (Int64.ofInt x) (Int64.ofInt y) = Int32.ofInt (if x > y then 1 else if x = y then 0 else -1) := by
  unfold lg_cmp
  simp only [gt_iff_lt, Int64.lt_iff_toInt_lt, ← Int64.toInt_inj, tL hx, tL hy]
  split
  · rfl
  · split <;> rfl
theorem inI_L {x : Int} (h : inI x) : inL x := by unfold inI at h; unfold inL; omega
/-! shapes: kinds (0, class), (1, length) ints, (2, length) longs, (3, length) references -/
abbrev Kd : Type := Nat → Nat × Nat
abbrev Rd : Type := Nat → Nat → Option Nat
abbrev Dd : Type := Nat → Nat → Int
def nfX : Nat → Nat
  | 0 => 9 | 1 => 1 | 2 => 4 | 3 => 3 | 4 => 9 | 5 => 4 | 6 => 9 | 7 => 4 | 8 => 3 | _ => 25
def frX (ci j : Nat) : Bool := match ci with
  | 0 => decide (j < 6) | 1 => true | 2 => false | 3 => decide (j < 2) | 4 => decide (j < 5) | 5 => decide (j < 3) | 6 => decide (j < 4) | 7 => true | 8 => true
  | _ => decide (j = 2 ∨ j = 3 ∨ j = 4 ∨ j = 6 ∨ j = 7 ∨ j = 8 ∨ j = 9 ∨ j = 12 ∨ j = 13 ∨ j = 14 ∨ j = 15 ∨ j = 16 ∨ j = 21 ∨ j = 22 ∨ j = 23 ∨ j = 24)
def fvX (ad : Nat → Nat) (R : Rd) (D : Dd) (ci k j : Nat) : Value := if frX ci j = true then va_rf ((R k j).map ad) else .int (Int32.ofInt (D k j))
def ctX (cA : Nat → ClassId) (ad : Nat → Nat) (K : Kd) (R : Rd) (D : Dd) (k : Nat) : va_E := match (K k).1 with
  | 0 => .inr ((K k).2, (List.range (nfX (K k).2)).map (fvX ad R D (K k).2 k))
  | 1 => .inl (cA 0, (K k).2, .inl (fun i => Int32.ofInt (D k i)))
  | 2 => .inl (cA 1, (K k).2, .inr (.inl (fun i => Int64.ofInt (D k i))))
  | _ => .inl (cA 2, (K k).2, .inr (.inr (.inr (.inr (fun i => (R k i).map ad)))))
def wlX (cA : Nat → ClassId) (ad : Nat → Nat) (n : Nat) (K : Kd) (R : Rd) (D : Dd) : va_W := (List.range n).map (fun k => (ad k, ctX cA ad K R D k))
def upD (D : Dd) (k j : Nat) (x : Int) : Dd := fun a b => if a = k then (if b = j then x else D a b) else D a b
def upR (R : Rd) (k j : Nat) (x : Option Nat) : Rd := fun a b => if a = k then (if b = j then x else R a b) else R a b
def upK (K : Kd) (n : Nat) (x : Nat × Nat) : Kd := fun a => if a = n then x else K a
def nwR (R : Rd) (n : Nat) : Rd := fun a b => if a = n then none else R a b
def nwD (D : Dd) (n : Nat) : Dd := fun a b => if a = n then 0 else D a b
theorem wl_get {cA : Nat → ClassId} {ad : Nat → Nat} {n : Nat} {K : Kd} {R : Rd} {D : Dd} {k : Nat} (h : k < n) : (wlX cA ad n K R D)[k]? = some (ad k, ctX cA ad K R D k) := by
  simp [wlX, h]
theorem wl_set {cA : Nat → ClassId} {ad : Nat → Nat} {n : Nat} {K : Kd} {R R' : Rd} {D D' : Dd} {k : Nat} {e : va_E} (he : ctX cA ad K R' D' k = e) (ho : ∀ j, j ≠ k → ctX cA ad K R' D' j = ctX cA ad K R D j) : (wlX cA ad n K R D).set k (ad k, e) = wlX cA ad n K R' D' := by
  apply List.ext_getElem?
  intro i
  rw [List.getElem?_set]
  by_cases hi : i < n
  · rw [wl_get hi]
    by_cases hk : k = i
    · subst hk
      simp [wlX, hi, he]
    · rw [if_neg hk, wl_get hi, ho i (fun z => hk z.symm)]
  · have h1 : (wlX cA ad n K R' D')[i]? = none := by simp [wlX]; omega
    have h2 : (wlX cA ad n K R D)[i]? = none := by simp [wlX]; omega
    have h3 : (wlX cA ad n K R D).length = n := by simp [wlX]
    rw [h1, h2]
    by_cases hk : k = i
    · rw [if_pos hk, if_neg (by omega)]
    · rw [if_neg hk]
theorem ct_o {cA : Nat → ClassId} {ad : Nat → Nat} {K : Kd} {R : Rd} {D : Dd} {k ci : Nat} (h : K k = (0, ci)) : ctX cA ad K R D k = .inr (ci, (List.range (nfX ci)).map (fvX ad R D ci k)) := by
  unfold ctX; rw [h]; rfl
theorem ct_i {cA : Nat → ClassId} {ad : Nat → Nat} {K : Kd} {R : Rd} {D : Dd} {k N : Nat} (h : K k = (1, N)) : ctX cA ad K R D k = .inl (cA 0, N, .inl (fun i => Int32.ofInt (D k i))) := by
  unfold ctX; rw [h]; rfl
theorem ct_l {cA : Nat → ClassId} {ad : Nat → Nat} {K : Kd} {R : Rd} {D : Dd} {k N : Nat} (h : K k = (2, N)) : ctX cA ad K R D k = .inl (cA 1, N, .inr (.inl (fun i => Int64.ofInt (D k i)))) := by
  unfold ctX; rw [h]; rfl
theorem ct_r {cA : Nat → ClassId} {ad : Nat → Nat} {K : Kd} {R : Rd} {D : Dd} {k N : Nat} (h : K k = (3, N)) : ctX cA ad K R D k = .inl (cA 2, N, .inr (.inr (.inr (.inr (fun i => (R k i).map ad))))) := by
  unfold ctX; rw [h]; rfl
/-- the cell of another label doesn't see a change -/
theorem ct_ne {cA : Nat → ClassId} {ad : Nat → Nat} {K : Kd} {R R' : Rd} {D D' : Dd} {j : Nat} (hR : R' j = R j) (hD : D' j = D j) : ctX cA ad K R' D' j = ctX cA ad K R D j := by
  unfold ctX fvX
  rw [hR, hD]
theorem upD_ne {D : Dd} {k j : Nat} {x : Int} {a : Nat} (h : a ≠ k) : upD D k j x a = D a := by
  funext b; simp [upD, h]
theorem upR_ne {R : Rd} {k j : Nat} {x : Option Nat} {a : Nat} (h : a ≠ k) : upR R k j x a = R a := by
  funext b; simp [upR, h]
/-- what the numbers of a world are -/
def okH (n : Nat) (K : Kd) (R : Rd) (D : Dd) : Prop := ∀ k, k < n → ((K k).1 ≠ 2 → ∀ j, inI (D k j)) ∧ ((K k).1 = 2 → ∀ j, inL (D k j)) ∧ ∀ j q, R k j = some q → q < n
theorem okH.int {n : Nat} {K : Kd} {R : Rd} {D : Dd} (h : okH n K R D) {k : Nat} (hk : k < n) (h2 : (K k).1 ≠ 2) (j : Nat) : inI (D k j) := (h k hk).1 h2 j
theorem okH.putI {n : Nat} {K : Kd} {R : Rd} {D : Dd} (h : okH n K R D) {k j : Nat} {x : Int} (h2 : (K k).1 ≠ 2) (hx : inI x) : okH n K R (upD D k j x) := by
  intro a ha
  refine ⟨fun h3 b => ?_, fun h3 b => ?_, (h a ha).2.2⟩
  · unfold upD
    split
    · split
      · exact hx
      · exact (h a ha).1 h3 b
    · exact (h a ha).1 h3 b
  · have hne : a ≠ k := fun z => h2 (z ▸ h3)
    rw [upD_ne hne]
    exact (h a ha).2.1 h3 b
theorem okH.putL {n : Nat} {K : Kd} {R : Rd} {D : Dd} (h : okH n K R D) {k j : Nat} {x : Int} (h2 : (K k).1 = 2) (hx : inL x) : okH n K R (upD D k j x) := by
  intro a ha
  refine ⟨fun h3 b => ?_, fun h3 b => ?_, (h a ha).2.2⟩
  · have hne : a ≠ k := fun z => h3 (z ▸ h2)
    rw [upD_ne hne]
    exact (h a ha).1 h3 b
  · unfold upD
    split
    · split
      · exact hx
      · exact (h a ha).2.1 h3 b
    · exact (h a ha).2.1 h3 b
theorem okH.putR {n : Nat} {K : Kd} {R : Rd} {D : Dd} (h : okH n K R D) {k j q : Nat} (hq : q < n) : okH n K (upR R k j (some q)) D := by
  intro a ha
  refine ⟨(h a ha).1, (h a ha).2.1, fun b z hz => ?_⟩
  unfold upR at hz
  split at hz
  · split at hz
    · cases hz; exact hq
    · exact (h a ha).2.2 b z hz
  · exact (h a ha).2.2 b z hz
theorem okH.new {n : Nat} {K : Kd} {R : Rd} {D : Dd} (h : okH n K R D) (x : Nat × Nat) : okH (n + 1) (upK K n x) (nwR R n) (nwD D n) := by
  intro a ha
  by_cases e : a = n
  · subst e
    simp only [upK, nwR, nwD, if_pos]
    exact ⟨fun _ _ => by unfold inI; omega, fun _ _ => by unfold inL; omega, fun j q hq => by cases hq⟩
  · have h1 := h a (by omega)
    simp only [upK, nwR, nwD, if_neg e]
    exact ⟨h1.1, h1.2.1, fun j q hq => Nat.lt_succ_of_lt (h1.2.2 j q hq)⟩
