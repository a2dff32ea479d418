/-! CONTRACTS over the abstract machine: MX; returns; calls; new cells. -/
/-- what a method leaves behind -/
def QX (dC : Nat → ClassId) (dI : Nat → Nat → Nat) (cA : Nat → ClassId) (ro : Nat → Nat) (A : Nat → Prop) (n0 : Nat) (ad0 : Nat → Nat) (P : Option AV → Nat → Kd → Rd → Dd → Prop) : Array Value → State → Outcome → State → Prop := fun _ st oc t =>
  (∃ (r : Option AV) (n' : Nat) (K' : Kd) (R' : Rd) (D' : Dd) (ad' : Nat → Nat), oc = .returned (r.map (val ad' ro)) ∧ P r n' K' R' D' ∧ okH n' K' R' D' ∧ (∀ v, r = some v → okV n' v) ∧ (n0 ≤ n' ∧ ∀ k, k < n0 → ad' k = ad0 k) ∧ va_P (dC, dI) vwCl (wlX cA ad' n' K' R' D') t.heap ∧ va_D A (wlX cA ad' n' K' R' D')) ∧ va_F A st t
/-- what holds when a method begins, of the heap -/
def PX (dC : Nat → ClassId) (dI : Nat → Nat → Nat) (cA : Nat → ClassId) (ro : Nat → Nat) (scr : Nat × (Nat → Int)) (ad : Nat → Nat) (n : Nat) (K : Kd) (Rf : Rd) (D : Dd) (sz : Nat) (U : State) : Prop :=
  U.heap.size = sz ∧ va_P (dC, dI) vwCl (wlX cA ad n K Rf D) U.heap ∧ va_D (fun _ => True) (wlX cA ad n K Rf D) ∧ ENX dC dI cA ro scr (va_A (wlX cA ad n K Rf D) sz) U U.heap
/-- a method's contract: from the world n K Rf D with the arguments As it returns, and P holds of the answer and the world behind it -/
def MX (d mc ms : Nat) (y : MethodName) (cc : ByteArray) (maxL : Nat) (ret : Option FieldType) (As : List AV) (n : Nat) (K : Kd) (Rf : Rd) (D : Dd) (P : Option AV → Nat → Kd → Rd → Dd → Prop) : Prop :=
  ∀ (l : Launch) (dC : Nat → ClassId) (dI : Nat → Nat → Nat) (cA : Nat → ClassId) (ro : Nat → Nat) (scr : Nat × (Nat → Int)) (ad : Nat → Nat) (sz : Nat), okH n K Rf D → okS n As →
    Met l y (.code y cc maxL ret :: gtX) { frames := d, cells := mc, slots := ms, locals := 36 * d } (va_Pc (As.map (val ad ro)) (PX dC dI cA ro scr ad n K Rf D sz)) (QX dC dI cA ro (va_A (wlX cA ad n K Rf D) sz) n ad P) mc ms (va_A (wlX cA ad n K Rf D) sz)
def FinX : Cx → (State → Prop) → Nat → Nat → (Option AV → Nat → Kd → Rd → Dd → Prop) → Prop
  | (p, l, e, R, s, m, args, below, meth, c, dC, dI, cA, ro, scr, A, n0, ad0), Q, mc, ms, P => Q = MQ below (QX dC dI cA ro A n0 ad0 P) args s mc ms A
def enX : List AV → List AV
  | [] => []
  | .inr (.inl x) :: r => vL x :: vN :: enX r
  | .inl x :: r => .inl x :: enX r
  | .inr (.inr x) :: r => .inr (.inr x) :: enX r
theorem en_len (ad ro : Nat → Nat) : ∀ As : List AV, (lg_sl (As.map (val ad ro))).length = (enX As).length
  | [] => rfl
  | .inr (.inl x) :: r => by
    have := en_len ad ro r
    simp only [lg_sl, List.map_cons, List.flatMap_cons, enX, List.length_append, List.length_cons] at this ⊢
    rw [this]
    simp [val, Value.category]
    omega
  | .inl x :: r => by
    have := en_len ad ro r
    simp only [lg_sl, List.map_cons, List.flatMap_cons, enX, List.length_append, List.length_cons] at this ⊢
    rw [this]
    simp [val, Value.category]
    omega
  | .inr (.inr (.inl x)) :: r => by
    have := en_len ad ro r
    simp only [lg_sl, List.map_cons, List.flatMap_cons, enX, List.length_append, List.length_cons] at this ⊢
    rw [this]
    simp [val, Value.category]
    omega
  | .inr (.inr (.inr (.inl x))) :: r => by
    have := en_len ad ro r
    simp only [lg_sl, List.map_cons, List.flatMap_cons, enX, List.length_append, List.length_cons] at this ⊢
    rw [this]
    simp [val, Value.category]
    omega
  | .inr (.inr (.inr (.inr x))) :: r => by
    have := en_len ad ro r
    simp only [lg_sl, List.map_cons, List.flatMap_cons, enX, List.length_append, List.length_cons] at this ⊢
    rw [this]
    simp [val, Value.category]
    omega
theorem en_1 {ad ro : Nat → Nat} {u : AV} (hu : catX u = 1) {r : List AV} : enX (u :: r) = u :: enX r := by
  match u, hu with
  | .inl x, _ => rfl
  | .inr (.inr x), _ => rfl
theorem en_mem (ad ro : Nat → Nat) : ∀ (As : List AV) (i0 i : Nat) (v : AV), (enX As)[i]? = some v → v ≠ vN → (i0 + i, val ad ro v) ∈ lv_args i0 (As.map (val ad ro))
  | [], i0, i, v, h, _ => by simp [enX] at h
  | u :: r, i0, i, v, h, hn => by
    have step : catX u = 1 → (i0 + i, val ad ro v) ∈ lv_args i0 ((u :: r).map (val ad ro)) := by
      intro hu
      rw [en_1 (ad := ad) (ro := ro) hu] at h
      have hc : (val ad ro u).category = 1 := by rw [cat_eq]; exact hu
      have he : (if (val ad ro u).category = 2 then i0 + 2 else i0 + 1) = i0 + 1 := by rw [hc]; rfl
      cases i with
      | zero =>
        simp only [List.getElem?_cons_zero, Option.some.injEq] at h
        subst h
        simp only [List.map_cons, lv_args, Nat.add_zero]
        exact List.mem_cons_self
      | succ j =>
        simp only [List.getElem?_cons_succ] at h
        have ih := en_mem ad ro r (i0 + 1) j v h hn
        simp only [List.map_cons, lv_args, he]
        rw [show i0 + (j + 1) = i0 + 1 + j by omega]
        exact List.mem_cons_of_mem _ ih
    match u, h, step with
    | .inl x, h, step => exact step rfl
    | .inr (.inr x), h, step => exact step rfl
    | .inr (.inl x), h, step =>
      simp only [enX] at h
      have he : (if (val ad ro (Sum.inr (Sum.inl x))).category = 2 then i0 + 2 else i0 + 1) = i0 + 2 := by rw [cat_eq]; rfl
      match i, h with
      | 0, h =>
        simp only [List.getElem?_cons_zero, Option.some.injEq] at h
        subst h
        simp only [List.map_cons, lv_args, Nat.add_zero]
        exact List.mem_cons_self
      | 1, h =>
        simp only [List.getElem?_cons_succ, List.getElem?_cons_zero, Option.some.injEq] at h
        exact absurd h.symm hn
      | j + 2, h =>
        simp only [List.getElem?_cons_succ] at h
        have ih := en_mem ad ro r (i0 + 2) j v h hn
        simp only [List.map_cons, lv_args, he]
        rw [show i0 + (j + 2) = i0 + 2 + j by omega]
        exact List.mem_cons_of_mem _ ih
theorem en_ok {n : Nat} : ∀ {As : List AV}, okS n As → okS n (enX As)
  | [], h => h
  | .inl x :: r, h => okS.cons h.head (en_ok h.tail)
  | .inr (.inr x) :: r, h => okS.cons h.head (en_ok h.tail)
  | .inr (.inl x) :: r, h => okS.cons (v := vL x) h.head (okS.cons (v := vN) trivial (en_ok h.tail))
theorem MX.mk {d mc ms : Nat} {y : MethodName} {cc : ByteArray} {maxL : Nat} {ret : Option FieldType} {As : List AV} {n : Nat} {K : Kd} {Rf : Rd} {D : Dd} {P : Option AV → Nat → Kd → Rd → Dd → Prop} (ls0 : List AV) (hy : plainName y.cls = true) (hlen : (enX As).length ≤ maxL) (hls : enX As ++ List.replicate (maxL - (enX As).length) vN = ls0)
    (body : ∀ (X : Cx) (Q : State → Prop), GX X y cc maxL ret d mc ms → FinX X Q mc ms P → WW X Q 0 0 0 ls0 [] n K Rf D) : MX d mc ms y cc maxL ret As n K Rf D P := by
  intro l dC dI cA ro scr ad sz hH hS
  refine Met.ofW (cc := cc) (maxL := maxL) (ret := ret) hy rfl ?_
  intro p e s m args below meth c s₁ B hml hv
  obtain ⟨rfl, hsz, hP, hD, hE⟩ := hv
  subst hsz
  have hts := atoms_spec (ws := .code y cc maxL ret :: gtX) B.pre
  have hl := lv_entry (As.map (val ad ro)) (n := maxL) (by rw [en_len]; exact hlen)
  rw [lg_entry_eq]
  refine body (p, l, e, _, s, m, _, below, meth, c, dC, dI, cA, ro, scr, _, n, ad) _ ⟨B.exec, B.bytes, hml, findClass_of_methodNamed B.named, fun w h => hts w (List.mem_cons_of_mem _ h), B.notSynchronized, fun q h => Or.inr h, B.returns, (name_of_methodNamed B.named B.method).1, hE, ⟨rfl, Nat.le_refl _, rfl, rfl⟩⟩ rfl ad s.heap [] _ ⟨⟨Nat.le_refl _, fun _ _ => rfl⟩, hP, hD.self, va_S.rf⟩ hH ?_ (fun v hv => by cases hv) ?_
  · rw [← hls]
    intro v hv
    rcases List.mem_append.mp hv with h | h
    · exact en_ok hS v h
    · rw [(List.mem_replicate.mp h).2]; exact trivial
  · rw [hml]
    refine ⟨hl.1, hl.2.1, fun i v hi hn => ?_⟩
    rw [← hls] at hi
    by_cases hlt : i < (enX As).length
    · rw [List.getElem?_append_left hlt] at hi
      have := hl.2.2 _ (en_mem ad ro As 0 i v hi hn)
      simpa using this
    · rw [List.getElem?_append_right (by omega)] at hi
      have := List.mem_of_getElem? hi
      exact absurd (List.mem_replicate.mp this).2 hn
section RETS
variable {X : Cx} {Q : State → Prop} {kc ks pc q : Nat} {ls st : List AV} {n : Nat} {K : Kd} {Rf : Rd} {D : Dd} {y : MethodName} {cc : ByteArray} {nL : Nat} {ret : Option FieldType} {dd rc rs : Nat} {P : Option AV → Nat → Kd → Rd → Dd → Prop}
theorem w_iret {x : Int} (hX : GX X y cc nL (some .int) dd rc rs) (hF : FinX X Q kc ks P) (hd : decode cc pc = .ok (.ireturn, 1)) (hP : P (some (vI x)) n K Rf D) : WW X Q kc ks pc ls [vI x] n K Rf D := by
  obtain ⟨p, l, e, R, s, m, args, below, meth, c, dC, dI, cA, ro, scr, A, n0, ad0⟩ := X
  obtain ⟨hx, hb, hml, hown, hts, hlk, hA, hr, hnm, hE, hrm⟩ := hX
  intro ad H locs LS hR hH hls hst hL
  have hF : Q = MQ below (QX dC dI cA ro A n0 ad0 P) args s kc ks A := hF
  subst hF
  exact W.iret hx hb hr (fun t ht hW => ⟨⟨some (vI x), n, K, Rf, D, ad, rfl, hP, hH, fun v hv => by cases hv; exact hst.head, hR.1, by rw [ht]; exact hR.2.1, hR.2.2.1⟩, hR.2.2.2.F ht⟩) hR.2.2.2.2.2 hd
theorem w_zret {x : Int} (hX : GX X y cc nL (some .boolean) dd rc rs) (hF : FinX X Q kc ks P) (hd : decode cc pc = .ok (.ireturn, 1)) (h01 : x = 0 ∨ x = 1) (hP : P (some (vI x)) n K Rf D) : WW X Q kc ks pc ls [vI x] n K Rf D := by
  obtain ⟨p, l, e, R, s, m, args, below, meth, c, dC, dI, cA, ro, scr, A, n0, ad0⟩ := X
  obtain ⟨hx, hb, hml, hown, hts, hlk, hA, hr, hnm, hE, hrm⟩ := hX
  intro ad H locs LS hR hH hls hst hL
  have hF : Q = MQ below (QX dC dI cA ro A n0 ad0 P) args s kc ks A := hF
  subst hF
  have hn : narrow .boolean (.int (Int32.ofInt x)) = .int (Int32.ofInt x) := by rcases h01 with rfl | rfl <;> decide
  exact W.zret hx hb hr hn (fun t ht hW => ⟨⟨some (vI x), n, K, Rf, D, ad, rfl, hP, hH, fun v hv => by cases hv; exact hst.head, hR.1, by rw [ht]; exact hR.2.1, hR.2.2.1⟩, hR.2.2.2.F ht⟩) hR.2.2.2.2.2 hd
theorem w_lret {x : Int} (hX : GX X y cc nL (some .long) dd rc rs) (hF : FinX X Q kc ks P) (hd : decode cc pc = .ok (.lreturn, 1)) (hP : P (some (vL x)) n K Rf D) : WW X Q kc ks pc ls [vL x] n K Rf D := by
  obtain ⟨p, l, e, R, s, m, args, below, meth, c, dC, dI, cA, ro, scr, A, n0, ad0⟩ := X
  obtain ⟨hx, hb, hml, hown, hts, hlk, hA, hr, hnm, hE, hrm⟩ := hX
  intro ad H locs LS hR hH hls hst hL
  have hF : Q = MQ below (QX dC dI cA ro A n0 ad0 P) args s kc ks A := hF
  subst hF
  exact W.lret hx hb hr (fun t ht hW => ⟨⟨some (vL x), n, K, Rf, D, ad, rfl, hP, hH, fun v hv => by cases hv; exact hst.head, hR.1, by rw [ht]; exact hR.2.1, hR.2.2.1⟩, hR.2.2.2.F ht⟩) hR.2.2.2.2.2 hd
theorem w_aret {k : Nat} {C : String} (hX : GX X y cc nL (some (.object C)) dd rc rs) (hF : FinX X Q kc ks P) (hd : decode cc pc = .ok (.areturn, 1)) (hP : P (some (vR k)) n K Rf D) : WW X Q kc ks pc ls [vR k] n K Rf D := by
  obtain ⟨p, l, e, R, s, m, args, below, meth, c, dC, dI, cA, ro, scr, A, n0, ad0⟩ := X
  obtain ⟨hx, hb, hml, hown, hts, hlk, hA, hr, hnm, hE, hrm⟩ := hX
  intro ad H locs LS hR hH hls hst hL
  have hF : Q = MQ below (QX dC dI cA ro A n0 ad0 P) args s kc ks A := hF
  subst hF
  exact W.aret hx hb hr (Or.inl ⟨C, rfl⟩) (Or.inr ⟨ad k, rfl⟩) (fun t ht hW => ⟨⟨some (vR k), n, K, Rf, D, ad, rfl, hP, hH, fun v hv => by cases hv; exact hst.head, hR.1, by rw [ht]; exact hR.2.1, hR.2.2.1⟩, hR.2.2.2.F ht⟩) hR.2.2.2.2.2 hd
theorem w_vret (hX : GX X y cc nL none dd rc rs) (hF : FinX X Q kc ks P) (hd : decode cc pc = .ok (.return_, 1)) (hP : P none n K Rf D) : WW X Q kc ks pc ls [] n K Rf D := by
  obtain ⟨p, l, e, R, s, m, args, below, meth, c, dC, dI, cA, ro, scr, A, n0, ad0⟩ := X
  obtain ⟨hx, hb, hml, hown, hts, hlk, hA, hr, hnm, hE, hrm⟩ := hX
  intro ad H locs LS hR hH hls hst hL
  have hF : Q = MQ below (QX dC dI cA ro A n0 ad0 P) args s kc ks A := hF
  subst hF
  exact W.vret hx hb hr (fun t ht hW => ⟨⟨none, n, K, Rf, D, ad, rfl, hP, hH, (fun v hv => by cases hv), hR.1, by rw [ht]; exact hR.2.1, hR.2.2.1⟩, hR.2.2.2.F ht⟩) hR.2.2.2.2.2 hd
/-! calls -/
theorem okV.mono {n n' : Nat} {v : AV} (h : okV n v) (hn : n ≤ n') : okV n' v := by
  match v, h with
  | .inl x, h => exact h
  | .inr (.inl x), h => exact h
  | .inr (.inr (.inl k)), h => exact Nat.lt_of_lt_of_le h hn
  | .inr (.inr (.inr (.inl x))), h => exact trivial
  | .inr (.inr (.inr (.inr x))), h => exact trivial
theorem val_mv {n : Nat} {ad ad' ro : Nat → Nat} (ha : ∀ k, k < n → ad' k = ad k) {v : AV} (h : okV n v) : val ad' ro v = val ad ro v := by
  match v, h with
  | .inl x, h => rfl
  | .inr (.inl x), h => rfl
  | .inr (.inr (.inl k)), h => exact congrArg Value.ref (ha k h)
  | .inr (.inr (.inr (.inl x))), h => rfl
  | .inr (.inr (.inr (.inr x))), h => rfl
theorem LHX.mv {n : Nat} {ad ad' ro : Nat → Nat} {LS : Array Slot} {nL : Nat} {ls : List AV} (ha : ∀ k, k < n → ad' k = ad k) (ho : okS n ls) (h : LHX ad ro LS nL ls) : LHX ad' ro LS nL ls :=
  ⟨h.1, h.2.1, fun i v hi hn => by rw [val_mv ha (ho.at hi)]; exact h.2.2 i v hi hn⟩
theorem st_mv {n : Nat} {ad ad' ro : Nat → Nat} {st : List AV} (ha : ∀ k, k < n → ad' k = ad k) (ho : okS n st) : st.map (val ad' ro) = st.map (val ad ro) :=
  List.map_congr_left (fun v hv => val_mv ha (ho v hv))
theorem va_A_sub {cA : Nat → ClassId} {ad : Nat → Nat} {A : Nat → Prop} {H0 H : Heap} {locs : List Loc} (hD : va_D A (wlX cA ad n K Rf D)) (hS : va_S A H0 H locs) (hA : ∀ q, H0.size ≤ q → A q) : ∀ q, va_A (wlX cA ad n K Rf D) H.size q → A q := by
  intro q h
  rcases h with ⟨k, e, h⟩ | h
  · exact hD.2 k (q, e) h
  · exact hA q (Nat.le_trans hS.1 h)
/-- behind a call -/
theorem w_after {p : Program} {l : Launch} {e : Env} {R : Room} {s : State} {m : MethodId} {args : Array Value} {below : List Frame} {meth : Method} {c : Code} {dC : Nat → ClassId} {dI : Nat → Nat → Nat} {cA : Nat → ClassId} {ro : Nat → Nat} {scr : Nat × (Nat → Int)} {A : Nat → Prop} {n0 : Nat} {ad0 ad : Nat → Nat} {H : Heap} {locs : List Loc} {LS : Array Slot} {mc ms : Nat} {a : Array Value} {stk : List Value}
    (hA : ∀ q, s.heap.size ≤ q → A q) (hR : RPX dC dI cA A n0 ad0 s ad n K Rf D H locs) (hls : okS n ls) (hst : okS n st) (hL : LHX ad ro LS c.maxLocals ls)
    (hr : va_Run p l e R s m args below meth c H locs kc ks mc ms (F0 m pc LS stk) (st.map (val ad ro)) (QX dC dI cA ro (va_A (wlX cA ad n K Rf D) H.size) n ad P a) (va_A (wlX cA ad n K Rf D) H.size))
    (kk : ∀ (r : Option AV) (n' : Nat) (K' : Kd) (R' : Rd) (D' : Dd), P r n' K' R' D' → okH n' K' R' D' → WW (p, l, e, R, s, m, args, below, meth, c, dC, dI, cA, ro, scr, A, n0, ad0) Q (kc + mc) (ks + ms) (pc + 3) ls (r.toList ++ st) n' K' R' D') : W p l e R s m args below meth c H locs kc ks Q (F0 m pc LS stk) := by
  intro T hT XX
  obtain ⟨v, st₀, t, T', L, h0, X', hL', e1, e2, ⟨⟨r, n', K', R', D', ad', ho, hP, hH', hv, hag, hP', hD'⟩, hz, hk⟩, stp⟩ := hr T hT XX
  have hsub := va_A_sub hR.2.2.1 hR.2.2.2 hA
  rw [h0] at hz hk
  have hv2 : v = r.map (val ad' ro) := by injection ho
  have hagz : ∀ k, k < n → ad' k = ad k := hag.2
  have hoR : okS n' r.toList := fun w hw => hv w (by cases r with | none => cases hw | some z => simp at hw; rw [hw])
  have key := kk r n' K' R' D' hP hH' ad' T'.heap (locs ++ L) LS ⟨⟨Nat.le_trans hR.1.1 hag.1, fun k hk => (hagz k (Nat.lt_of_lt_of_le hk hR.1.1)).trans (hR.1.2 k hk)⟩, by rw [e1]; exact hP', hD'.weaken (fun _ q _ h => hsub q.1 h), ?_⟩ hH' (fun w hw => (hls w hw).mono hag.1) (fun w hw => by
      rcases List.mem_append.mp hw with h | h
      · exact hoR w h
      · exact (hst w h).mono hag.1) (hL.mv hagz hls) T' rfl X'
  · obtain ⟨t2, a1, b1⟩ := key
    refine ⟨t2, stp t2 ?_, b1⟩
    rw [List.map_append, st_mv hagz hst] at a1
    have e3 : v.toList ++ st.map (val ad ro) = List.map (val ad' ro) r.toList ++ List.map (val ad ro) st := by
      rw [hv2]; cases r <;> rfl
    show Steps p.tables e below (T'.setTop { method := m, pc := pc + 3, locals := LS, stack := v.toList ++ st.map (val ad ro), locked := none }) t2
    rw [e3]
    exact a1
  · refine ⟨Nat.le_trans hR.2.2.2.1 (by rw [e1]; exact hz), fun q h1 h2 => ?_, fun q hq => ?_⟩
    · rw [e1, hk q (Nat.lt_of_lt_of_le h1 hR.2.2.2.1) (fun z => h2 (hsub q z))]
      exact hR.2.2.2.2.1 q h1 h2
    · rcases List.mem_append.mp hq with h | h
      · exact hR.2.2.2.2.2 q h
      · exact hsub _ (hL' q h)
theorem PX.blind {dC : Nat → ClassId} {dI : Nat → Nat → Nat} {cA : Nat → ClassId} {ro : Nat → Nat} {scr : Nat × (Nat → Int)} {ad : Nat → Nat} {sz : Nat} {av : List Value} : FrameBlind (va_Pc av (PX dC dI cA ro scr ad n K Rf D sz)) := by
  intro a U g mk h
  obtain ⟨h0, h1, h2, h3, h4⟩ := h
  exact ⟨h0, h1, h2, h3, ENX.same (s := U) (U := U.calling g mk a) rfl h4⟩
theorem PX.pre {s : State} {dC : Nat → ClassId} {dI : Nat → Nat → Nat} {cA : Nat → ClassId} {ro : Nat → Nat} {scr : Nat × (Nat → Int)} {A : Nat → Prop} {n0 : Nat} {ad0 ad : Nat → Nat} {H : Heap} {locs : List Loc} (hE : ENX dC dI cA ro scr A s s.heap) (hA : ∀ q, s.heap.size ≤ q → A q) (hR : RPX dC dI cA A n0 ad0 s ad n K Rf D H locs) (U : State) (hU : U.heap = H) (hW : s.WarmedH U.vm) : PX dC dI cA ro scr ad n K Rf D H.size U := by
  refine ⟨by rw [hU], by rw [hU]; exact hR.2.1, hR.2.2.1.weaken (fun _ _ _ _ => trivial), ?_⟩
  rw [hU]
  exact ((hE.warm hW).kept (fun q h1 h2 => hR.2.2.2.2.1 q h1 h2)).narrow (va_A_sub hR.2.2.1 hR.2.2.2 hA)
theorem gt_good {w : Cond} (h : w ∈ gtX) : (w.onTables && w.keeps) = true ∨ ∃ ty, w = .arrayClass ty := good_of_word (List.mem_filter.mp h).2
theorem gt_in {ws : List Cond} (h : ∀ w ∈ ws, w ∈ gtX) : GoodIn gtX ws := fun w hw => ⟨h w hw, gt_good (h w hw)⟩
/-- the words of a call of an instance method, a private one too -/
def VLX (own : String) (idx : Nat) (C : String) (z : MethodName) (cz : ByteArray) (mz : Nat) (rz : Option FieldType) (na : Nat) : Prop := (∀ w ∈ ([.methodLink own idx z, .instanceMethod z, .selects C z z, .initialized C, .code z cz mz rz] : List Cond), w ∈ gtX) ∧ z.cls = C ∧ z.cls ≠ "java/lang/invoke/MethodHandle" ∧ z.cls ≠ "java/lang/invoke/VarHandle" ∧ (parseMethodDescriptor z.desc).map (fun d => d.parameters.length) = some na
theorem cat_sum {ad ro : Nat → Nat} (st : List AV) : ((st.map (val ad ro)).map fun v => v.category).sum = (st.map catX).sum := by
  rw [List.map_map]
  congr 1
  exact List.map_congr_left (fun v _ => cat_eq ad ro v)
theorem w_callV {z : MethodName} {cz : ByteArray} {mz : Nat} {rz : Option FieldType} {na dz mc ms idx k ci : Nat} {As stk : List AV} {C : String} {T : u_T} {ty : Nat → FieldType} (hX : GX X y cc nL ret dd rc rs) (hM : MX dz mc ms z cz mz rz (vR k :: As) n K Rf D P) (hv : VLX y.cls idx C z cz mz rz na) (hc : CLX ci C T ty) (hk : K k = (0, ci)) (hn : As.length = na) (hdz : dz + 1 ≤ dd ∧ mz ≤ 17) (hw : (st.map catX).sum ≤ 8) (hf : kc + mc ≤ rc ∧ ks + ms ≤ rs) (hd : decode cc pc = .ok (.invokevirtual idx, 3)) (hq : pc + 3 = q) (hs : As.reverse ++ vR k :: st = stk)
    (kk : ∀ (r : Option AV) (n' : Nat) (K' : Kd) (R' : Rd) (D' : Dd), P r n' K' R' D' → okH n' K' R' D' → WW X Q (kc + mc) (ks + ms) q ls (r.toList ++ st) n' K' R' D') : WW X Q kc ks pc ls stk n K Rf D := by
  subst hq; subst hs
  obtain ⟨p, l, e, R, s, m, args, below, meth, c, dC, dI, cA, ro, scr, A, n0, ad0⟩ := X
  obtain ⟨hx, hb, hml, hown, hts, hlk, hA, hr, hnm, hE, hrm⟩ := hX
  intro ad H locs LS hR hH hls hst hL
  have hkn : okV n (vR k) := hst _ (List.mem_append_right _ List.mem_cons_self)
  have hst2 : okS n st := fun w h => hst w (List.mem_append_right _ (List.mem_cons_of_mem _ h))
  have hAs : okS n As := fun w h => hst w (List.mem_append_left _ (List.mem_reverse.mpr h))
  have hMet := hM l dC dI cA ro scr ad H.size hH (okS.cons hkn hAs)
  obtain ⟨w1, w2⟩ := hv
  have cw := cwV (R := R) (s := s) (args := args) (own := y.cls) (index := idx) (C := C) (y := z) (bytes := cz) (maxL := mz) (ret := rz) (ws := .code z cz mz rz :: gtX) (ws' := gtX) (rm := { frames := dz, cells := mc, slots := ms, locals := 36 * dz }) (mc := mc) (ms := ms) na hts (gt_in (fun w h => by
    rcases List.mem_append.mp h with h | h
    · exact w1 w (by simp only [List.mem_cons, List.not_mem_nil, or_false] at h ⊢; rcases h with h | h | h | h <;> simp [h])
    · rcases List.mem_cons.mp h with h | h
      · rw [h]; exact w1 _ (by simp)
      · exact h)) rfl rfl rfl w2 ⟨by rw [hrm.1]; exact hdz.1, by have := hrm.2.1; have := hdz.1; have := hdz.2; show 8 + (mz + 11) + 36 * dz ≤ R.locals; omega⟩
  refine w_after (scr := scr) hA hR hls hst2 hL (va_runV (b := ad k) (As := As.map (val ad ro)) (rest := st.map (val ad ro)) ⟨hx, hb, hml, hown, hts⟩ hMet cw ⟨PX.blind, va_recv hE.1 hR.2.1 hc.1 ((wl_get hkn).trans (by rw [ct_o hk])), fun U hU hW => ⟨rfl, PX.pre hE hA hR U hU hW⟩⟩ rfl (by rw [List.length_map]; exact hn) (by rw [← hml]; exact hL.1) (by show List.map _ _ = _; rw [List.map_append, List.map_reverse]; rfl) (lv_room (by rw [cat_sum]; exact hw)) hd ⟨by rw [hrm.2.2.1]; exact hf.1, by rw [hrm.2.2.2]; exact hf.2⟩) kk
def SLX (own : String) (idx : Nat) (z : MethodName) (cz : ByteArray) (mz : Nat) (rz : Option FieldType) (na : Nat) : Prop := (∀ w ∈ ([.methodLink own idx z, .static z, .initialized own, .code z cz mz rz] : List Cond), w ∈ gtX) ∧ z.cls = own ∧ z.cls ≠ "java/lang/invoke/MethodHandle" ∧ z.cls ≠ "java/lang/invoke/VarHandle" ∧ (parseMethodDescriptor z.desc).map (fun d => d.parameters.length) = some na
theorem w_callS {z : MethodName} {cz : ByteArray} {mz : Nat} {rz : Option FieldType} {na dz mc ms idx : Nat} {As stk : List AV} (hX : GX X y cc nL ret dd rc rs) (hM : MX dz mc ms z cz mz rz As n K Rf D P) (hv : SLX y.cls idx z cz mz rz na) (hn : As.length = na) (hdz : dz + 1 ≤ dd ∧ mz ≤ 17) (hw : (st.map catX).sum ≤ 8) (hf : kc + mc ≤ rc ∧ ks + ms ≤ rs) (hd : decode cc pc = .ok (.invokestatic idx, 3)) (hq : pc + 3 = q) (hs : As.reverse ++ st = stk)
    (kk : ∀ (r : Option AV) (n' : Nat) (K' : Kd) (R' : Rd) (D' : Dd), P r n' K' R' D' → okH n' K' R' D' → WW X Q (kc + mc) (ks + ms) q ls (r.toList ++ st) n' K' R' D') : WW X Q kc ks pc ls stk n K Rf D := by
  subst hq; subst hs
  obtain ⟨p, l, e, R, s, m, args, below, meth, c, dC, dI, cA, ro, scr, A, n0, ad0⟩ := X
  obtain ⟨hx, hb, hml, hown, hts, hlk, hA, hr, hnm, hE, hrm⟩ := hX
  intro ad H locs LS hR hH hls hst hL
  have hst2 : okS n st := fun w h => hst w (List.mem_append_right _ h)
  have hAs : okS n As := fun w h => hst w (List.mem_append_left _ (List.mem_reverse.mpr h))
  have hMet := hM l dC dI cA ro scr ad H.size hH hAs
  obtain ⟨w1, w2⟩ := hv
  have cw := cwS (R := R) (s := s) (args := args) (own := y.cls) (index := idx) (y := z) (bytes := cz) (maxL := mz) (ret := rz) (ws := .code z cz mz rz :: gtX) (ws' := gtX) (rm := { frames := dz, cells := mc, slots := ms, locals := 36 * dz }) (mc := mc) (ms := ms) na hts (gt_in (fun w h => by
    rcases List.mem_append.mp h with h | h
    · exact w1 w (by simp only [List.mem_cons, List.not_mem_nil, or_false] at h ⊢; rcases h with h | h | h <;> simp [h])
    · rcases List.mem_cons.mp h with h | h
      · rw [h]; exact w1 _ (by simp)
      · exact h)) rfl rfl rfl w2 ⟨by rw [hrm.1]; exact hdz.1, by have := hrm.2.1; have := hdz.1; have := hdz.2; show 8 + (mz + 11) + 36 * dz ≤ R.locals; omega⟩
  refine w_after (scr := scr) hA hR hls hst2 hL (va_runS (As := As.map (val ad ro)) (rest := st.map (val ad ro)) ⟨hx, hb, hml, hown, hts⟩ hMet cw ⟨PX.blind, fun U hU hW => ⟨rfl, PX.pre hE hA hR U hU hW⟩⟩ rfl (by rw [List.length_map]; exact hn) (by rw [← hml]; exact hL.1) (by show List.map _ _ = _; rw [List.map_append, List.map_reverse]) (lv_room (by rw [cat_sum]; exact hw)) hd ⟨by rw [hrm.2.2.1]; exact hf.1, by rw [hrm.2.2.2]; exact hf.2⟩) kk
def ILX (own : String) (idx : Nat) (z : MethodName) (cz : ByteArray) (mz : Nat) (na : Nat) : Prop := (∀ w ∈ ([.methodLink own idx z, .instanceMethod z, .initialized z.cls, .code z cz mz none] : List Cond), w ∈ gtX) ∧ z.name = "<init>" ∧ z.cls ≠ "java/lang/invoke/MethodHandle" ∧ z.cls ≠ "java/lang/invoke/VarHandle" ∧ (parseMethodDescriptor z.desc).map (fun d => d.parameters.length) = some na
theorem w_callI {z : MethodName} {cz : ByteArray} {mz : Nat} {na dz mc ms idx k : Nat} {As stk : List AV} (hX : GX X y cc nL ret dd rc rs) (hM : MX dz mc ms z cz mz none (vR k :: As) n K Rf D P) (hv : ILX y.cls idx z cz mz na) (hn : As.length = na) (hdz : dz + 1 ≤ dd ∧ mz ≤ 17) (hw : (st.map catX).sum ≤ 8) (hf : kc + mc ≤ rc ∧ ks + ms ≤ rs) (hd : decode cc pc = .ok (.invokespecial idx, 3)) (hq : pc + 3 = q) (hs : As.reverse ++ vR k :: st = stk)
    (kk : ∀ (r : Option AV) (n' : Nat) (K' : Kd) (R' : Rd) (D' : Dd), P r n' K' R' D' → okH n' K' R' D' → WW X Q (kc + mc) (ks + ms) q ls (r.toList ++ st) n' K' R' D') : WW X Q kc ks pc ls stk n K Rf D := by
  subst hq; subst hs
  obtain ⟨p, l, e, R, s, m, args, below, meth, c, dC, dI, cA, ro, scr, A, n0, ad0⟩ := X
  obtain ⟨hx, hb, hml, hown, hts, hlk, hA, hr, hnm, hE, hrm⟩ := hX
  intro ad H locs LS hR hH hls hst hL
  have hkn : okV n (vR k) := hst _ (List.mem_append_right _ List.mem_cons_self)
  have hst2 : okS n st := fun w h => hst w (List.mem_append_right _ (List.mem_cons_of_mem _ h))
  have hAs : okS n As := fun w h => hst w (List.mem_append_left _ (List.mem_reverse.mpr h))
  have hMet := hM l dC dI cA ro scr ad H.size hH (okS.cons hkn hAs)
  obtain ⟨w1, w2⟩ := hv
  have cw := cwI (R := R) (s := s) (args := args) (own := y.cls) (index := idx) (y := z) (bytes := cz) (maxL := mz) (ws := .code z cz mz none :: gtX) (ws' := gtX) (rm := { frames := dz, cells := mc, slots := ms, locals := 36 * dz }) (mc := mc) (ms := ms) na hts (gt_in (fun w h => by
    rcases List.mem_cons.mp h with h | h
    · rw [h]; exact w1 _ (by simp)
    · exact h)) rfl rfl rfl (hts _ (w1 _ (by simp))) (hts _ (w1 _ (by simp))) (hts _ (w1 _ (by simp))) w2.1 w2.2 ⟨by rw [hrm.1]; exact hdz.1, by have := hrm.2.1; have := hdz.1; have := hdz.2; show 8 + (mz + 11) + 36 * dz ≤ R.locals; omega⟩
  refine w_after (scr := scr) hA hR hls hst2 hL (va_runI (b := ad k) (As := As.map (val ad ro)) (rest := st.map (val ad ro)) ⟨hx, hb, hml, hown, hts⟩ hMet cw ⟨PX.blind, fun U hU hW => ⟨rfl, PX.pre hE hA hR U hU hW⟩⟩ rfl (by rw [List.length_map]; exact hn) (by rw [← hml]; exact hL.1) (by show List.map _ _ = _; rw [List.map_append, List.map_reverse]; rfl) (lv_room (by rw [cat_sum]; exact hw)) hd ⟨by rw [hrm.2.2.1]; exact hf.1, by rw [hrm.2.2.2]; exact hf.2⟩) kk
end RETS
