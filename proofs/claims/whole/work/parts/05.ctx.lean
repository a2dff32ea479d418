/-! THE CONTEXT of a running method and the judgement WW. -/
theorem wl_push {cA : Nat → ClassId} {ad : Nat → Nat} {n : Nat} {K : Kd} {R : Rd} {D : Dd} (h : okH n K R D) (q : Nat) (x : Nat × Nat) : wlX cA (va_up ad n q) (n + 1) (upK K n x) (nwR R n) (nwD D n) = wlX cA ad n K R D ++ [(q, ctX cA (va_up ad n q) (upK K n x) (nwR R n) (nwD D n) n)] := by
  unfold wlX
  rw [List.range_succ, List.map_append]
  congr 1
  · apply List.map_congr_left
    intro k hk
    have hk : k < n := List.mem_range.mp hk
    have hne : k ≠ n := by omega
    have hm : ∀ j, ((nwR R n) k j).map (va_up ad n q) = (R k j).map ad := by
      intro j
      simp only [nwR, if_neg hne]
      cases hr : R k j with
      | none => rfl
      | some z =>
        have := (h k hk).2.2 j z hr
        simp only [Option.map_some]
        rw [va_up_ne _ _ (by omega)]
    have hd : ∀ j, (nwD D n) k j = D k j := by intro j; simp only [nwD, if_neg hne]
    have hK : (upK K n x) k = K k := by simp only [upK, if_neg hne]
    refine Prod.ext (va_up_ne _ _ hne) ?_
    show ctX cA (va_up ad n q) (upK K n x) (nwR R n) (nwD D n) k = ctX cA ad K R D k
    unfold ctX fvX
    simp only [hK, hm, hd]
  · simp only [List.map_cons, List.map_nil, va_up_self]
def gtX : List Cond := lw_tbl.filter goodWord
def nzX : List Cond := [.methodLinkNest RX0 17 yX2_init "CodeProof", .fieldLinkNest RX6 47 "CodeProof" "TAKEN" "[I" "CodeProof", .fieldLinkNest RX6 50 "CodeProof" "LEFT" "[I" "CodeProof", .declares ⟨"CodeProof$Pass", "open", "(I)V"⟩, .declares ⟨"CodeProof$Pass", "faultAt", "(II)I"⟩]
def tkX : Nat → Int
  | 2 => 1 | 3 => 1 | 4 => 2 | 6 => 1 | 7 => 2 | 8 => 1 | 9 => 3 | 11 => 1 | _ => 0
def lfX : Nat → Int
  | 0 => 1 | 1 => 1 | 3 => 1 | 5 => 1 | 7 => 1 | 8 => 1 | 9 => 1 | _ => 0
/-- what an outside array holds: 0 TAKEN, 1 LEFT, 2 the script -/
def roX (scr : Nat × (Nat → Int)) : Nat → Nat × (Nat → Int)
  | 0 => (19, tkX) | 1 => (19, lfX) | _ => scr
/-- what is known of the machine's tables and of the outside arrays -/
def ENX (dC : Nat → ClassId) (dI : Nat → Nat → Nat) (cA : Nat → ClassId) (ro : Nat → Nat) (scr : Nat × (Nat → Int)) (A : Nat → Prop) (U : State) (H : Heap) : Prop :=
  va_K (dC, dI) vwCl [(cA 0, .int), (cA 1, .long), (cA 2, .object RX2)] U ∧ (∀ w ∈ nzX, va_Nw w U) ∧ va_AO RX2 U ∧
  va_Z "CodeProof" "TAKEN" "[I" (.ref (ro 0)) A U H ∧ va_Z "CodeProof" "LEFT" "[I" (.ref (ro 1)) A U H ∧
  (∀ k, k < 3 → va_T .int (ro k) (roX scr k).1 (fun j => .int (Int32.ofInt ((roX scr k).2 j))) A U H) ∧ (∀ k, k < 3 → (roX scr k).1 < 2147483648 ∧ ∀ j, inI ((roX scr k).2 j))
theorem nz_warm {s U : State} (hW : s.WarmedH U.vm) {w : Cond} (hw : w ∈ nzX) (h : va_Nw w s) : va_Nw w U := by
  simp only [nzX, List.mem_cons, List.not_mem_nil, or_false] at hw
  rcases hw with rfl | rfl | rfl | rfl | rfl
  · exact va_Nw.warmM hW h
  · exact va_Nw.warmF hW h
  · exact va_Nw.warmF hW h
  · exact va_Nw.warmD hW h
  · exact va_Nw.warmD hW h
theorem nz_same {u U : State} (hvm : u.vm = U.vm) {w : Cond} (hw : w ∈ nzX) (h : va_Nw w u) : va_Nw w U := by
  simp only [nzX, List.mem_cons, List.not_mem_nil, or_false] at hw
  rcases hw with rfl | rfl | rfl | rfl | rfl <;> exact va_Nw.same rfl hvm h
theorem ENX.warm {dC : Nat → ClassId} {dI : Nat → Nat → Nat} {cA : Nat → ClassId} {ro : Nat → Nat} {scr : Nat × (Nat → Int)} {A : Nat → Prop} {s U : State} {H : Heap} (hW : s.WarmedH U.vm) (h : ENX dC dI cA ro scr A s H) : ENX dC dI cA ro scr A U H := by
  obtain ⟨h1, h2, h3, h4, h5, h6, h7⟩ := h
  exact ⟨h1.moved hW.alike, fun w hw => nz_warm hW hw (h2 w hw), h3.moved hW.alike, h4.moved hW.alike, h5.moved hW.alike, fun k hk => (h6 k hk).moved hW.alike, h7⟩
theorem ENX.same {dC : Nat → ClassId} {dI : Nat → Nat → Nat} {cA : Nat → ClassId} {ro : Nat → Nat} {scr : Nat × (Nat → Int)} {A : Nat → Prop} {s U : State} {H : Heap} (hvm : s.vm = U.vm) (h : ENX dC dI cA ro scr A s H) : ENX dC dI cA ro scr A U H := by
  obtain ⟨h1, h2, h3, h4, h5, h6, h7⟩ := h
  have ha : s.vm.Alike U.vm := by rw [← hvm]; exact Vm.Alike.refl _
  exact ⟨h1.moved ha, fun w hw => nz_same hvm hw (h2 w hw), h3.moved ha, h4.moved ha, h5.moved ha, fun k hk => (h6 k hk).moved ha, h7⟩
theorem ENX.kept {dC : Nat → ClassId} {dI : Nat → Nat → Nat} {cA : Nat → ClassId} {ro : Nat → Nat} {scr : Nat × (Nat → Int)} {A : Nat → Prop} {s : State} {H H1 : Heap} (hq : ∀ a : Nat, a < H.size → ¬ A a → H1[a]? = H[a]?) (h : ENX dC dI cA ro scr A s H) : ENX dC dI cA ro scr A s H1 := by
  obtain ⟨h1, h2, h3, h4, h5, h6, h7⟩ := h
  exact ⟨h1, h2, h3, h4.kept hq, h5.kept hq, fun k hk => (h6 k hk).kept hq, h7⟩
theorem ENX.narrow {dC : Nat → ClassId} {dI : Nat → Nat → Nat} {cA : Nat → ClassId} {ro : Nat → Nat} {scr : Nat × (Nat → Int)} {A B : Nat → Prop} {s : State} {H : Heap} (hAB : ∀ q, B q → A q) (h : ENX dC dI cA ro scr A s H) : ENX dC dI cA ro scr B s H := by
  obtain ⟨h1, h2, h3, h4, h5, h6, h7⟩ := h
  exact ⟨h1, h2, h3, h4.narrow hAB, h5.narrow hAB, fun k hk => (h6 k hk).narrow hAB, h7⟩
abbrev Cx : Type := Program × Launch × Env × Room × State × MethodId × Array Value × List Frame × Method × Code × (Nat → ClassId) × (Nat → Nat → Nat) × (Nat → ClassId) × (Nat → Nat) × (Nat × (Nat → Int)) × (Nat → Prop) × Nat × (Nat → Nat)
/-- the method y with code cc runs in the context X -/
def GX : Cx → MethodName → ByteArray → Nat → Option FieldType → Nat → Nat → Nat → Prop
  | (p, l, e, R, s, m, args, below, meth, c, dC, dI, cA, ro, scr, A, n0, ad0), y, cc, nL, ret, dd, rc, rs =>
    p.tables.exec = Jvm.exec ∧ c.code = cc ∧ c.maxLocals = nL ∧ s.vm.findClass y.cls = some m.cls ∧ (∀ w ∈ gtX, w.before args s = true) ∧ meth.locks = false ∧ (∀ q, s.heap.size ≤ q → A q) ∧ meth.sig.returnType = ret ∧ meth.name = y.name ∧ ENX dC dI cA ro scr A s s.heap ∧ (R.frames = dd ∧ 36 * dd ≤ R.locals ∧ R.cells = rc ∧ R.slots = rs)
/-- the locals -/
def LHX (ad ro : Nat → Nat) (LS : Array Slot) (nL : Nat) (ls : List AV) : Prop := LS.size = nL ∧ lv_wf LS ∧ ∀ (i : Nat) (v : AV), ls[i]? = some v → v ≠ vN → LS[i]? = some (Slot.val (val ad ro v))
def okS (n : Nat) (st : List AV) : Prop := ∀ v ∈ st, okV n v
/-- the world in the heap -/
def RPX (dC : Nat → ClassId) (dI : Nat → Nat → Nat) (cA : Nat → ClassId) (A : Nat → Prop) (n0 : Nat) (ad0 : Nat → Nat) (s : State) (ad : Nat → Nat) (n : Nat) (K : Kd) (R : Rd) (D : Dd) (H : Heap) (locs : List Loc) : Prop :=
  (n0 ≤ n ∧ ∀ k, k < n0 → ad k = ad0 k) ∧ va_P (dC, dI) vwCl (wlX cA ad n K R D) H ∧ va_D A (wlX cA ad n K R D) ∧ va_S A s.heap H locs
def WW : Cx → (State → Prop) → Nat → Nat → Nat → List AV → List AV → Nat → Kd → Rd → Dd → Prop
  | (p, l, e, R, s, m, args, below, meth, c, dC, dI, cA, ro, scr, A, n0, ad0), Q, kc, ks, pc, ls, st, n, K, Rf, D =>
    ∀ (ad : Nat → Nat) (H : Heap) (locs : List Loc) (LS : Array Slot), RPX dC dI cA A n0 ad0 s ad n K Rf D H locs → okH n K Rf D → okS n ls → okS n st → LHX ad ro LS c.maxLocals ls → W p l e R s m args below meth c H locs kc ks Q (F0 m pc LS (st.map (val ad ro)))
theorem okS.tail {n : Nat} {v : AV} {st : List AV} (h : okS n (v :: st)) : okS n st := fun w hw => h w (List.mem_cons_of_mem _ hw)
theorem okS.head {n : Nat} {v : AV} {st : List AV} (h : okS n (v :: st)) : okV n v := h v List.mem_cons_self
theorem okS.cons {n : Nat} {v : AV} {st : List AV} (h1 : okV n v) (h : okS n st) : okS n (v :: st) := fun w hw => by
  rcases List.mem_cons.mp hw with rfl | hw
  · exact h1
  · exact h w hw
theorem okS.at {n : Nat} {v : AV} {ls : List AV} {i : Nat} (h : okS n ls) (hi : ls[i]? = some v) : okV n v := h v (List.mem_of_getElem? hi)
/-! stores into locals -/
def klX : AV → AV
  | .inr (.inl _) => vN
  | w => w
theorem klX_I (x : Int) : klX (vI x) = vI x := rfl
theorem klX_L (x : Int) : klX (vL x) = vN := rfl
theorem klX_R (k : Nat) : klX (vR k) = vR k := rfl
theorem klX_S (k : Nat) : klX (vS k) = vS k := rfl
theorem klX_N : klX vN = vN := rfl
def st1X : List AV → Nat → AV → List AV
  | [], _, _ => []
  | _ :: r, 0, v => v :: r
  | w :: r, 1, v => klX w :: st1X r 0 v
  | w :: r, i + 2, v => w :: st1X r (i + 1) v
def st2X : List AV → Nat → AV → List AV
  | [], _, _ => []
  | _ :: [], 0, v => [v]
  | _ :: _ :: r, 0, v => v :: vN :: r
  | w :: r, 1, v => klX w :: st2X r 0 v
  | w :: r, i + 2, v => w :: st2X r (i + 1) v
theorem st1_get : ∀ (ls : List AV) (i j : Nat) (v w : AV), (st1X ls i v)[j]? = some w → w ≠ vN → (j = i ∧ w = v) ∨ (j ≠ i ∧ ls[j]? = some w ∧ ¬ (j + 1 = i ∧ ∃ x, w = vL x))
  | [], i, j, v, w, h, _ => by simp [st1X] at h
  | u :: r, 0, j, v, w, h, hn => by
    simp only [st1X] at h
    cases j with
    | zero => simp at h; exact Or.inl ⟨rfl, h.symm⟩
    | succ j => exact Or.inr ⟨by omega, by simpa using h, by omega⟩
  | u :: r, 1, j, v, w, h, hn => by
    simp only [st1X] at h
    cases j with
    | zero =>
      simp only [List.getElem?_cons_zero, Option.some.injEq] at h
      refine Or.inr ⟨by omega, ?_, ?_⟩
      · match u, h with
        | .inl x, h => simpa [klX] using h
        | .inr (.inl x), h => exact absurd h.symm hn
        | .inr (.inr x), h => simpa [klX] using h
      · rintro ⟨-, x, hx⟩
        match u, h with
        | .inl z, h => rw [hx] at h; cases h
        | .inr (.inl z), h => exact hn h.symm
        | .inr (.inr z), h => rw [hx] at h; cases h
    | succ j =>
      simp only [List.getElem?_cons_succ] at h
      rcases st1_get r 0 j v w h hn with ⟨a, b⟩ | ⟨a, b, c⟩
      · exact Or.inl ⟨by omega, b⟩
      · exact Or.inr ⟨by omega, by simpa using b, by omega⟩
  | u :: r, i + 2, j, v, w, h, hn => by
    simp only [st1X] at h
    cases j with
    | zero =>
      simp only [List.getElem?_cons_zero, Option.some.injEq] at h
      exact Or.inr ⟨by omega, by simp [h], by omega⟩
    | succ j =>
      simp only [List.getElem?_cons_succ] at h
      rcases st1_get r (i + 1) j v w h hn with ⟨a, b⟩ | ⟨a, b, c⟩
      · exact Or.inl ⟨by omega, b⟩
      · exact Or.inr ⟨by omega, by simpa using b, fun z => c ⟨by omega, z.2⟩⟩
theorem st2_get : ∀ (ls : List AV) (i j : Nat) (v w : AV), (st2X ls i v)[j]? = some w → w ≠ vN → (j = i ∧ w = v) ∨ (j ≠ i ∧ j ≠ i + 1 ∧ ls[j]? = some w ∧ ¬ (j + 1 = i ∧ ∃ x, w = vL x))
  | [], i, j, v, w, h, _ => by simp [st2X] at h
  | u :: [], 0, j, v, w, h, hn => by
    simp only [st2X] at h
    cases j with
    | zero => simp at h; exact Or.inl ⟨rfl, h.symm⟩
    | succ j => simp at h
  | u :: t :: r, 0, j, v, w, h, hn => by
    simp only [st2X] at h
    match j, h with
    | 0, h => simp at h; exact Or.inl ⟨rfl, h.symm⟩
    | 1, h => simp at h; exact absurd h.symm hn
    | j + 2, h => exact Or.inr ⟨by omega, by omega, by simpa using h, by omega⟩
  | u :: r, 1, j, v, w, h, hn => by
    simp only [st2X] at h
    cases j with
    | zero =>
      simp only [List.getElem?_cons_zero, Option.some.injEq] at h
      refine Or.inr ⟨by omega, by omega, ?_, ?_⟩
      · match u, h with
        | .inl x, h => simpa [klX] using h
        | .inr (.inl x), h => exact absurd h.symm hn
        | .inr (.inr x), h => simpa [klX] using h
      · rintro ⟨-, x, hx⟩
        match u, h with
        | .inl z, h => rw [hx] at h; cases h
        | .inr (.inl z), h => exact hn h.symm
        | .inr (.inr z), h => rw [hx] at h; cases h
    | succ j =>
      simp only [List.getElem?_cons_succ] at h
      rcases st2_get r 0 j v w h hn with ⟨a, b⟩ | ⟨a, a2, b, c⟩
      · exact Or.inl ⟨by omega, b⟩
      · exact Or.inr ⟨by omega, by omega, by simpa using b, by omega⟩
  | u :: r, i + 2, j, v, w, h, hn => by
    simp only [st2X] at h
    cases j with
    | zero =>
      simp only [List.getElem?_cons_zero, Option.some.injEq] at h
      exact Or.inr ⟨by omega, by omega, by simp [h], by omega⟩
    | succ j =>
      simp only [List.getElem?_cons_succ] at h
      rcases st2_get r (i + 1) j v w h hn with ⟨a, b⟩ | ⟨a, a2, b, c⟩
      · exact Or.inl ⟨by omega, b⟩
      · exact Or.inr ⟨by omega, by omega, by simpa using b, fun z => c ⟨by omega, z.2⟩⟩
/-- the locals as the kit lists them -/
def lmX (ad ro : Nat → Nat) (ls : List AV) : List (Nat × Value) := (List.range ls.length).filterMap (fun i => match (ls[i]? : Option AV) with
  | some (.inr (.inr (.inr (.inr _)))) => none
  | some v => some (i, val ad ro v)
  | none => none)
theorem lm_mem {ad ro : Nat → Nat} {ls : List AV} {q : Nat × Value} : q ∈ lmX ad ro ls ↔ ∃ v, ls[q.1]? = some v ∧ v ≠ vN ∧ q.2 = val ad ro v := by
  unfold lmX
  rw [List.mem_filterMap]
  constructor
  · rintro ⟨i, -, hi⟩
    cases hv : ls[i]? with
    | none => rw [hv] at hi; cases hi
    | some v =>
      rw [hv] at hi
      match v, hv, hi with
      | .inl x, hv, hi => cases hi; exact ⟨_, hv, (fun z => by cases z), rfl⟩
      | .inr (.inl x), hv, hi => cases hi; exact ⟨_, hv, (fun z => by cases z), rfl⟩
      | .inr (.inr (.inl x)), hv, hi => cases hi; exact ⟨_, hv, (fun z => by cases z), rfl⟩
      | .inr (.inr (.inr (.inl x))), hv, hi => cases hi; exact ⟨_, hv, (fun z => by cases z), rfl⟩
      | .inr (.inr (.inr (.inr x))), hv, hi => cases hi
  · rintro ⟨v, hv, hn, e⟩
    obtain ⟨i, w⟩ := q
    refine ⟨i, List.mem_range.mpr (List.getElem?_eq_some_iff.mp hv).1, ?_⟩
    have e : w = val ad ro v := e
    subst e
    have hv : ls[i]? = some v := hv
    rw [hv]
    match v, hn with
    | .inl x, _ => rfl
    | .inr (.inl x), _ => rfl
    | .inr (.inr (.inl x)), _ => rfl
    | .inr (.inr (.inr (.inl x))), _ => rfl
    | .inr (.inr (.inr (.inr x))), hn => exact absurd rfl hn
theorem LHX.has {ad ro : Nat → Nat} {LS : Array Slot} {nL : Nat} {ls : List AV} (h : LHX ad ro LS nL ls) : lv_has LS nL (lmX ad ro ls) := by
  refine ⟨h.1, h.2.1, fun q hq => ?_⟩
  obtain ⟨v, h1, h2, h3⟩ := lm_mem.mp hq
  rw [h3]
  exact h.2.2 _ _ h1 h2
theorem cat1 {ad ro : Nat → Nat} {v : AV} (h : ∀ x, v ≠ vL x) : (val ad ro v).category = 1 := by
  match v, h with
  | .inl x, _ => rfl
  | .inr (.inl x), h => exact absurd rfl (h x)
  | .inr (.inr (.inl x)), _ => rfl
  | .inr (.inr (.inr (.inl x))), _ => rfl
  | .inr (.inr (.inr (.inr x))), _ => rfl
theorem LHX.st1 {ad ro : Nat → Nat} {LS : Array Slot} {nL : Nat} {ls : List AV} {i : Nat} {v : AV} (h : lv_has LS nL ((i, val ad ro v) :: (lmX ad ro ls).filter (fun q => !(q.1 == i) && !(q.1 + 1 == i && q.2.category == 2)))) : LHX ad ro LS nL (st1X ls i v) := by
  refine ⟨h.1, h.2.1, fun j w hj hn => ?_⟩
  rcases st1_get ls i j v w hj hn with ⟨rfl, rfl⟩ | ⟨a, b, c⟩
  · exact h.2.2 (j, val ad ro w) List.mem_cons_self
  · refine h.2.2 (j, val ad ro w) (List.mem_cons_of_mem _ (List.mem_filter.mpr ⟨lm_mem.mpr ⟨w, b, hn, rfl⟩, ?_⟩))
    by_cases hx : j + 1 = i
    · have hc : (val ad ro w).category = 1 := cat1 (fun x z => c ⟨hx, x, z⟩)
      simp [a, hx, hc]
    · simp [a, hx]
theorem LHX.st2 {ad ro : Nat → Nat} {LS : Array Slot} {nL : Nat} {ls : List AV} {i : Nat} {v : AV} (h : lv_has LS nL ((i, val ad ro v) :: (lmX ad ro ls).filter (fun q => !(q.1 == i) && (!(q.1 == i + 1) && !(q.1 + 1 == i && q.2.category == 2))))) : LHX ad ro LS nL (st2X ls i v) := by
  refine ⟨h.1, h.2.1, fun j w hj hn => ?_⟩
  rcases st2_get ls i j v w hj hn with ⟨rfl, rfl⟩ | ⟨a, a2, b, c⟩
  · exact h.2.2 (j, val ad ro w) List.mem_cons_self
  · refine h.2.2 (j, val ad ro w) (List.mem_cons_of_mem _ (List.mem_filter.mpr ⟨lm_mem.mpr ⟨w, b, hn, rfl⟩, ?_⟩))
    by_cases hx : j + 1 = i
    · have hc : (val ad ro w).category = 1 := cat1 (fun x z => c ⟨hx, x, z⟩)
      simp [a, a2, hx, hc]
    · simp [a, a2, hx]
theorem okS.st1 {n : Nat} {ls : List AV} {i : Nat} {v : AV} (h : okS n ls) (hv : okV n v) : okS n (st1X ls i v) := by
  intro w hw
  by_cases hn : w = vN
  · subst hn; exact trivial
  · obtain ⟨j, hj⟩ := List.getElem?_of_mem hw
    rcases st1_get ls i j v w hj hn with ⟨-, rfl⟩ | ⟨-, b, -⟩
    · exact hv
    · exact h w (List.mem_of_getElem? b)
theorem okS.st2 {n : Nat} {ls : List AV} {i : Nat} {v : AV} (h : okS n ls) (hv : okV n v) : okS n (st2X ls i v) := by
  intro w hw
  by_cases hn : w = vN
  · subst hn; exact trivial
  · obtain ⟨j, hj⟩ := List.getElem?_of_mem hw
    rcases st2_get ls i j v w hj hn with ⟨-, rfl⟩ | ⟨-, -, b, -⟩
    · exact hv
    · exact h w (List.mem_of_getElem? b)
