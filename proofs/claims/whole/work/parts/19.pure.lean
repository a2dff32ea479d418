/-! Small pure words -/
theorem upD_rd (D : Dd) (k j : Nat) (x : Int) (a b : Nat) : upD D k j x a b = if a = k then (if b = j then x else D a b) else D a b := rfl
/-- 1 if p, else 0 -/
noncomputable def b2 (p : Prop) : Int := @ite Int p (Classical.propDecidable p) 1 0
theorem b2_t {p : Prop} (h : p) : b2 p = 1 := by unfold b2; rw [if_pos h]
theorem b2_f {p : Prop} (h : ¬ p) : b2 p = 0 := by unfold b2; rw [if_neg h]
theorem b2_01 (p : Prop) : b2 p = 0 ∨ b2 p = 1 := by
  by_cases h : p
  · exact Or.inr (b2_t h)
  · exact Or.inl (b2_f h)
theorem b2_0 {p : Prop} : b2 p = 0 ↔ ¬ p := ⟨(fun h q => by rw [b2_t q] at h; cases h), b2_f⟩
theorem b2_1 {p : Prop} : b2 p = 1 ↔ p := ⟨fun h => Classical.byContradiction (fun q => by rw [b2_f q] at h; cases h), b2_t⟩
theorem b2_n {p : Prop} : ¬ b2 p = 0 ↔ p := by rw [b2_0]; exact Classical.not_not
theorem b2_eq {p q : Prop} (h : p ↔ q) : b2 p = b2 q := by rw [propext h]
/-- a if p, else b -/
noncomputable def itP {α : Type} (p : Prop) (a b : α) : α := @ite α p (Classical.propDecidable p) a b
theorem it_t {α : Type} {p : Prop} {a b : α} (h : p) : itP p a b = a := by unfold itP; rw [if_pos h]
theorem it_f {α : Type} {p : Prop} {a b : α} (h : ¬ p) : itP p a b = b := by unfold itP; rw [if_neg h]
theorem b2_ne {p : Prop} : b2 p ≠ 0 ↔ p := b2_n
theorem b2_nn {p : Prop} : ¬ b2 p ≠ 0 ↔ ¬ p := by rw [b2_ne]
theorem lc_le {x z : Int} : (if x > z then (1 : Int) else if x = z then 0 else -1) ≤ 0 ↔ x ≤ z := by split <;> (try split) <;> omega
theorem lc_lt {x z : Int} : (if x > z then (1 : Int) else if x = z then 0 else -1) < 0 ↔ x < z := by split <;> (try split) <;> omega
theorem lc_ge {x z : Int} : 0 ≤ (if x > z then (1 : Int) else if x = z then 0 else -1) ↔ z ≤ x := by split <;> (try split) <;> omega
theorem lc_gt {x z : Int} : 0 < (if x > z then (1 : Int) else if x = z then 0 else -1) ↔ z < x := by split <;> (try split) <;> omega
theorem lc_eq {x z : Int} : (if x > z then (1 : Int) else if x = z then 0 else -1) = 0 ↔ x = z := by split <;> (try split) <;> omega
theorem lc_ne {x z : Int} : (if x > z then (1 : Int) else if x = z then 0 else -1) ≠ 0 ↔ x ≠ z := by rw [ne_eq, lc_eq]
