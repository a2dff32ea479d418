/-! The class's measure is the reference's stepsOf -/
def keepQ (D D2 : Dd) : Prop := ∀ k j, k ≠ 272 → k ≠ 273 → D2 k j = D k j
theorem keepQ.sm {D D2 : Dd} (h : keepQ D D2) : smC D D2 := fun k j hk => h k j (by omega) (by omega)
theorem keepQ.rd1 {D : Dd} {u i : Int} : keepQ D (rdS D u i) := fun k j a b => by
  unfold rdS
  rw [upD_k b]
  exact keepB.lg k j a
theorem rd_eq {D0 : Dd} {u : Int} {rr : Int → Int} {Q : Int → Int → Int} (hI : InC D0) (hv : VLP D0 u) (hG : GLT (nU D0 u) (aU D0 u) (bU D0 u) (szF D0 u)) (hR : RET (nU D0 u) (aU D0 u) (bU D0 u) (gtF D0 274) rr (szF D0 u) Q) :
    ∀ (m : Nat) (D : Dd), (m : Int) ≤ szF D0 u → keepQ D0 D → wyB D → (∀ j : Int, m ≤ j → j < szF D0 u → (D0 (atF D0 u j) 0) = 13 → kpT (D 273 j.toNat) = rr j) → keepQ D0 (rdW u m D) ∧ wyB (rdW u m D) ∧ ∀ j : Int, 0 ≤ j → j < szF D0 u → (D0 (atF D0 u j) 0) = 13 → kpT (rdW u m D 273 j.toNat) = rr j
  | 0, D, _, hk, hw, h => ⟨hk, hw, fun j h0 h1 h2 => h j (by omega) h1 h2⟩
  | m + 1, D, hm, hk, hw, h => by
    have hz := sz_256 hI u
    have hI2 : InC D := in_sm hk.sm hI
    have hv2 : VLP D u := hv.sm hk.sm hI
    show keepQ D0 (rdW u m (itP ((D (atF D u m) 0) = 13) (rdS D u m) D)) ∧ wyB (rdW u m (itP ((D (atF D u m) 0) = 13) (rdS D u m) D)) ∧ ∀ j : Int, 0 ≤ j → j < szF D0 u → (D0 (atF D0 u j) 0) = 13 → kpT (rdW u m (itP ((D (atF D u m) 0) = 13) (rdS D u m) D) 273 j.toNat) = rr j
    have ez : szF D u = szF D0 u := sz_sm hk.sm u
    by_cases e : (D (atF D u m) 0) = 13
    · rw [it_t e]
      have en : (D0 (atF D0 u m) 0) = 13 := by rw [← f_sm hk.sm hI]; exact e
      have hb := hv2.2 m (by omega) (by omega) e
      have ef := f_sm hk.sm hI
      have eg : gtF D 274 = gtF D0 274 := by funext t; unfold gtF; rw [hk _ _ (by decide) (by decide)]
      have hsc : scT (nU D0 u) (bU D0 u) (szF D0 u) m ((D0 (atF D0 u m) 2) - 1) := Or.inr ⟨by omega, by omega, en, rfl⟩
      have hl : tmT (lgD D u (m + 1) ((D (atF D u m) 2) - 1) 1 272 ((D (atF D u m) 2) - 1).toNat) (if (0 : Int) ≤ m then 1 else 0) = tmT 1 (Q m (m + 1)) := by
        refine lg_eq (l := m) (rr := rr) hI2 hw hv2.1 ?_ ?_ ?_ ?_ (by omega)
        · unfold nU aU bU; simp only [ef, ez]; exact hG
        · unfold nU aU bU; simp only [ef, ez, eg]; exact hR
        · unfold nU bU; simp only [ef, ez]; exact hsc
        · intro j h1 h2 h3
          rw [ef] at h3
          exact h j (by omega) (by rw [← ez]; omega) h3
      have hx := bfB.lg (u := u) (a := m + 1) (b := (D (atF D u m) 2) - 1) (s := 1) hI2 hw.1 hw.2.1 hw.2.2 hv2.1 (by omega) (by omega) ((D (atF D u m) 2) - 1).toNat (by omega)
      rw [if_pos (by omega), ← hR.rds m (by omega) (by omega) en] at hl
      refine rd_eq hI hv hG hR m (rdS D u m) (by omega) (fun k j a b => (keepQ.rd1 k j a b).trans (hk k j a b)) (hw.rd1 hI2 hv2.1 (by omega) (by omega) (by omega)) (fun j h1 h2 h3 => ?_)
      unfold rdS
      rw [upD_rd, if_pos rfl]
      by_cases ej : j = m
      · rw [if_pos (by omega), ej, ← hl]
        generalize lgD D u (m + 1) ((D (atF D u m) 2) - 1) 1 272 ((D (atF D u m) 2) - 1).toNat = x at *
        unfold kpT tmT
        split <;> split <;> (try split) <;> (try split) <;> omega
      · rw [if_neg (by omega), keepB.lg _ _ (by decide)]
        exact h j (by omega) h2 h3
    · rw [it_f e]
      refine rd_eq hI hv hG hR m D (by omega) hk hw (fun j h1 h2 h3 => ?_)
      by_cases ej : j = m
      · exact absurd (by rw [f_sm hk.sm hI, ← ej]; exact h3) e
      · exact h j (by omega) h2 h3
theorem st_eq {D E : Dd} {u : Int} (hI : InC D) (hw : wyB D) (hv : VLP D u) (hG : GLT (nU D u) (aU D u) (bU D u) (szF D u)) (hsz : szF D u = E 279 11) (hN : ∀ j, 0 ≤ j → j < szF D u → (D (atF D u j) 0) = (E 283 (E 279 10 + j).toNat) ∧ (D (atF D u j) 1) = (E 284 (E 279 10 + j).toNat) ∧ (D (atF D u j) 2) = (E 285 (E 279 10 + j).toNat)) (hlo : ∀ j : Nat, j < 256 → -1 ≤ E 289 j) (hst : ∀ j, 0 ≤ j → j < szF D u → (D (atF D u j) 0) = 15 ∨ (D (atF D u j) 0) = 16 → gtF D 274 ((D (atF D u j) 1)) = E 290 ((D (atF D u j) 1)).toNat) :
    lgD (rdW u (szF D u).toNat D) u 0 (szF D u) 0 272 (szF D u).toNat = kpT (syF E) := by
  have hz := sz_256 hI u
  have hR := rt_M (n := nU D u) (a := aU D u) (b := bU D u) (g := gtF D 274) hsz hz.2 hN hG hlo hst
  have q := rd_eq hI hv hG hR (szF D u).toNat D (by omega) (fun _ _ _ _ => rfl) hw (fun j h1 h2 h3 => by omega)
  generalize rdW u (szF D u).toNat D = D2 at *
  have hk := q.1
  have ef := f_sm hk.sm hI
  have ez : szF D2 u = szF D u := sz_sm hk.sm u
  have eg : gtF D2 274 = gtF D 274 := by funext t; unfold gtF; rw [hk _ _ (by decide) (by decide)]
  have hT : TgM E := fun j h0 h1 => by
    rw [← hsz] at h1
    have w := hN j h0 h1
    rw [← w.1, ← w.2.1, ← w.2.2]
    exact ⟨fun h => (hG.go j h0 h1 h).1, fun h => by have q9 : j + 2 ≤ (D (atF D u j) 2) := (hG.lp j h0 h1 h).2.2.2.1; omega⟩
  have hl := lg_eq (D := D2) (u := u) (l := -1) (to := szF D u) (s := 0) (rr := rrM E) (Q := QlM E) (in_sm hk.sm hI) q.2.1 (hv.sm hk.sm hI).1 (by unfold nU aU bU; simp only [ef, ez]; exact hG) (by unfold nU aU bU; simp only [ef, ez, eg]; exact hR) (by unfold nU bU; simp only [ef, ez]; exact Or.inl ⟨rfl, rfl⟩) (fun j h1 h2 h3 => by rw [ef] at h3; exact q.2.2 j (by omega) h2 h3) (by omega)
  rw [sy_Q (by omega) hT]
  have hx := bfB.lg (u := u) (a := 0) (b := szF D u) (s := 0) (in_sm hk.sm hI) q.2.1.1 q.2.1.2.1 q.2.1.2.2 (hv.sm hk.sm hI).1 (by omega) (by omega) (szF D u).toNat (by omega)
  have hy := hR.inn (-1) 0
  rw [if_neg (by omega)] at hl
  show lgD D2 u (-1 + 1) (szF D u) 0 272 (szF D u).toNat = QlM E (-1) (-1 + 1)
  have hy2 : inT (QlM E (-1) (-1 + 1)) := hy
  have hx2 : inT (lgD D2 u (-1 + 1) (szF D u) 0 272 (szF D u).toNat) := hx
  generalize lgD D2 u (-1 + 1) (szF D u) 0 272 (szF D u).toNat = x at *
  generalize QlM E (-1) (-1 + 1) = y at *
  unfold inT at hx2 hy2
  unfold tmT at hl
  split at hl <;> split at hl <;> (try split at hl) <;> (try split at hl) <;> omega
