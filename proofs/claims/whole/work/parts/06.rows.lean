section ROWS
variable {X : Cx} {Q : State → Prop} {kc ks pc q : Nat} {ls st : List AV} {n : Nat} {K : Kd} {Rf : Rd} {D : Dd} {y : MethodName} {cc : ByteArray} {nL : Nat} {ret : Option FieldType} {dd rc rs : Nat}
theorem ne_I (x : Int) : vI x ≠ vN := fun z => by have z : (Sum.inl x : AV) = Sum.inr (.inr (.inr (.inr ()))) := z; cases z
theorem ne_L (x : Int) : vL x ≠ vN := fun z => by have z : (Sum.inr (.inl x) : AV) = Sum.inr (.inr (.inr (.inr ()))) := z; cases z
theorem ne_R (k : Nat) : vR k ≠ vN := fun z => by have z : (Sum.inr (.inr (.inl k)) : AV) = Sum.inr (.inr (.inr (.inr ()))) := z; cases z
theorem ne_S (k : Nat) : vS k ≠ vN := fun z => by have z : (Sum.inr (.inr (.inr (.inl k))) : AV) = Sum.inr (.inr (.inr (.inr ()))) := z; cases z

theorem w_iload_n {k : Fin 4} {i : Nat} {x : Int} (hX : GX X y cc nL ret dd rc rs) (hd : decode cc pc = .ok (.iload_n k, 1)) (hi : (k : Nat) = i) (hq : pc + 1 = q) (hl : ls[i]? = some (vI x)) (kk : WW X Q kc ks q ls (vI x :: st) n K Rf D) : WW X Q kc ks pc ls st n K Rf D := by
  subst hq
  obtain ⟨p, l, e, R, s, m, args, below, meth, c, dC, dI, cA, ro, scr, A, n0, ad0⟩ := X
  obtain ⟨hx, hb, hml, hown, hts, hlk, hA, hr, hnm, hE, hrm⟩ := hX
  intro ad H locs LS hR hH hls hst hL
  exact lv_iload_n hx hb hd hi (hL.2.2 i _ hl (ne_I x)) (kk ad H locs LS hR hH hls (hst.cons (hls.at hl)) hL)

theorem w_iload {i : Nat} {x : Int} (hX : GX X y cc nL ret dd rc rs) (hd : decode cc pc = .ok (.iload i, 2)) (hq : pc + 2 = q) (hl : ls[i]? = some (vI x)) (kk : WW X Q kc ks q ls (vI x :: st) n K Rf D) : WW X Q kc ks pc ls st n K Rf D := by
  subst hq
  obtain ⟨p, l, e, R, s, m, args, below, meth, c, dC, dI, cA, ro, scr, A, n0, ad0⟩ := X
  obtain ⟨hx, hb, hml, hown, hts, hlk, hA, hr, hnm, hE, hrm⟩ := hX
  intro ad H locs LS hR hH hls hst hL
  exact lv_iload hx hb hd (hL.2.2 i _ hl (ne_I x)) (kk ad H locs LS hR hH hls (hst.cons (hls.at hl)) hL)

theorem w_lload_n {k : Fin 4} {i : Nat} {x : Int} (hX : GX X y cc nL ret dd rc rs) (hd : decode cc pc = .ok (.lload_n k, 1)) (hi : (k : Nat) = i) (hq : pc + 1 = q) (hl : ls[i]? = some (vL x)) (kk : WW X Q kc ks q ls (vL x :: st) n K Rf D) : WW X Q kc ks pc ls st n K Rf D := by
  subst hq
  obtain ⟨p, l, e, R, s, m, args, below, meth, c, dC, dI, cA, ro, scr, A, n0, ad0⟩ := X
  obtain ⟨hx, hb, hml, hown, hts, hlk, hA, hr, hnm, hE, hrm⟩ := hX
  intro ad H locs LS hR hH hls hst hL
  exact lv_lload_n hx hb hd hi (hL.2.2 i _ hl (ne_L x)) (kk ad H locs LS hR hH hls (hst.cons (hls.at hl)) hL)

theorem w_lload {i : Nat} {x : Int} (hX : GX X y cc nL ret dd rc rs) (hd : decode cc pc = .ok (.lload i, 2)) (hq : pc + 2 = q) (hl : ls[i]? = some (vL x)) (kk : WW X Q kc ks q ls (vL x :: st) n K Rf D) : WW X Q kc ks pc ls st n K Rf D := by
  subst hq
  obtain ⟨p, l, e, R, s, m, args, below, meth, c, dC, dI, cA, ro, scr, A, n0, ad0⟩ := X
  obtain ⟨hx, hb, hml, hown, hts, hlk, hA, hr, hnm, hE, hrm⟩ := hX
  intro ad H locs LS hR hH hls hst hL
  exact lv_lload hx hb hd (hL.2.2 i _ hl (ne_L x)) (kk ad H locs LS hR hH hls (hst.cons (hls.at hl)) hL)

theorem w_aload_n {k : Fin 4} {i : Nat} {x : Nat} (hX : GX X y cc nL ret dd rc rs) (hd : decode cc pc = .ok (.aload_n k, 1)) (hi : (k : Nat) = i) (hq : pc + 1 = q) (hl : ls[i]? = some (vR x)) (kk : WW X Q kc ks q ls (vR x :: st) n K Rf D) : WW X Q kc ks pc ls st n K Rf D := by
  subst hq
  obtain ⟨p, l, e, R, s, m, args, below, meth, c, dC, dI, cA, ro, scr, A, n0, ad0⟩ := X
  obtain ⟨hx, hb, hml, hown, hts, hlk, hA, hr, hnm, hE, hrm⟩ := hX
  intro ad H locs LS hR hH hls hst hL
  exact lv_aload_n hx hb hd hi (hL.2.2 i _ hl (ne_R x)) (kk ad H locs LS hR hH hls (hst.cons (hls.at hl)) hL)

theorem w_aload {i : Nat} {x : Nat} (hX : GX X y cc nL ret dd rc rs) (hd : decode cc pc = .ok (.aload i, 2)) (hq : pc + 2 = q) (hl : ls[i]? = some (vR x)) (kk : WW X Q kc ks q ls (vR x :: st) n K Rf D) : WW X Q kc ks pc ls st n K Rf D := by
  subst hq
  obtain ⟨p, l, e, R, s, m, args, below, meth, c, dC, dI, cA, ro, scr, A, n0, ad0⟩ := X
  obtain ⟨hx, hb, hml, hown, hts, hlk, hA, hr, hnm, hE, hrm⟩ := hX
  intro ad H locs LS hR hH hls hst hL
  exact lv_aload hx hb hd (hL.2.2 i _ hl (ne_R x)) (kk ad H locs LS hR hH hls (hst.cons (hls.at hl)) hL)

theorem w_aload_nS {k : Fin 4} {i : Nat} {x : Nat} (hX : GX X y cc nL ret dd rc rs) (hd : decode cc pc = .ok (.aload_n k, 1)) (hi : (k : Nat) = i) (hq : pc + 1 = q) (hl : ls[i]? = some (vS x)) (kk : WW X Q kc ks q ls (vS x :: st) n K Rf D) : WW X Q kc ks pc ls st n K Rf D := by
  subst hq
  obtain ⟨p, l, e, R, s, m, args, below, meth, c, dC, dI, cA, ro, scr, A, n0, ad0⟩ := X
  obtain ⟨hx, hb, hml, hown, hts, hlk, hA, hr, hnm, hE, hrm⟩ := hX
  intro ad H locs LS hR hH hls hst hL
  exact lv_aload_n hx hb hd hi (hL.2.2 i _ hl (ne_S x)) (kk ad H locs LS hR hH hls (hst.cons (hls.at hl)) hL)

theorem w_istore_n {k : Fin 4} {i : Nat} {x : Int} (hX : GX X y cc nL ret dd rc rs) (hd : decode cc pc = .ok (.istore_n k, 1)) (hi : (k : Nat) = i) (hq : pc + 1 = q) (hn : i < nL) (kk : WW X Q kc ks q (st1X ls i (vI x)) st n K Rf D) : WW X Q kc ks pc ls (vI x :: st) n K Rf D := by
  subst hq
  obtain ⟨p, l, e, R, s, m, args, below, meth, c, dC, dI, cA, ro, scr, A, n0, ad0⟩ := X
  obtain ⟨hx, hb, hml, hown, hts, hlk, hA, hr, hnm, hE, hrm⟩ := hX
  intro ad H locs LS hR hH hls hst hL
  rw [hml] at hL
  exact lv_istore_n hx hb hd hi hL.has hn rfl (fun LS' hL' => kk ad H locs LS' hR hH (hls.st1 hst.head) hst.tail (by rw [hml]; exact LHX.st1 (v := vI x) hL'))

theorem w_istore {i : Nat} {x : Int} (hX : GX X y cc nL ret dd rc rs) (hd : decode cc pc = .ok (.istore i, 2)) (hq : pc + 2 = q) (hn : i < nL) (kk : WW X Q kc ks q (st1X ls i (vI x)) st n K Rf D) : WW X Q kc ks pc ls (vI x :: st) n K Rf D := by
  subst hq
  obtain ⟨p, l, e, R, s, m, args, below, meth, c, dC, dI, cA, ro, scr, A, n0, ad0⟩ := X
  obtain ⟨hx, hb, hml, hown, hts, hlk, hA, hr, hnm, hE, hrm⟩ := hX
  intro ad H locs LS hR hH hls hst hL
  rw [hml] at hL
  exact lv_istore hx hb hd hL.has hn rfl (fun LS' hL' => kk ad H locs LS' hR hH (hls.st1 hst.head) hst.tail (by rw [hml]; exact LHX.st1 (v := vI x) hL'))

theorem w_lstore_n {k : Fin 4} {i : Nat} {x : Int} (hX : GX X y cc nL ret dd rc rs) (hd : decode cc pc = .ok (.lstore_n k, 1)) (hi : (k : Nat) = i) (hq : pc + 1 = q) (hn : i + 1 < nL) (kk : WW X Q kc ks q (st2X ls i (vL x)) st n K Rf D) : WW X Q kc ks pc ls (vL x :: st) n K Rf D := by
  subst hq
  obtain ⟨p, l, e, R, s, m, args, below, meth, c, dC, dI, cA, ro, scr, A, n0, ad0⟩ := X
  obtain ⟨hx, hb, hml, hown, hts, hlk, hA, hr, hnm, hE, hrm⟩ := hX
  intro ad H locs LS hR hH hls hst hL
  rw [hml] at hL
  exact lv_lstore_n hx hb hd hi hL.has hn rfl (fun LS' hL' => kk ad H locs LS' hR hH (hls.st2 hst.head) hst.tail (by rw [hml]; exact LHX.st2 (v := vL x) hL'))

theorem w_lstore {i : Nat} {x : Int} (hX : GX X y cc nL ret dd rc rs) (hd : decode cc pc = .ok (.lstore i, 2)) (hq : pc + 2 = q) (hn : i + 1 < nL) (kk : WW X Q kc ks q (st2X ls i (vL x)) st n K Rf D) : WW X Q kc ks pc ls (vL x :: st) n K Rf D := by
  subst hq
  obtain ⟨p, l, e, R, s, m, args, below, meth, c, dC, dI, cA, ro, scr, A, n0, ad0⟩ := X
  obtain ⟨hx, hb, hml, hown, hts, hlk, hA, hr, hnm, hE, hrm⟩ := hX
  intro ad H locs LS hR hH hls hst hL
  rw [hml] at hL
  exact lv_lstore hx hb hd hL.has hn rfl (fun LS' hL' => kk ad H locs LS' hR hH (hls.st2 hst.head) hst.tail (by rw [hml]; exact LHX.st2 (v := vL x) hL'))

theorem w_astore_n {k : Fin 4} {i : Nat} {x : Nat} (hX : GX X y cc nL ret dd rc rs) (hd : decode cc pc = .ok (.astore_n k, 1)) (hi : (k : Nat) = i) (hq : pc + 1 = q) (hn : i < nL) (kk : WW X Q kc ks q (st1X ls i (vR x)) st n K Rf D) : WW X Q kc ks pc ls (vR x :: st) n K Rf D := by
  subst hq
  obtain ⟨p, l, e, R, s, m, args, below, meth, c, dC, dI, cA, ro, scr, A, n0, ad0⟩ := X
  obtain ⟨hx, hb, hml, hown, hts, hlk, hA, hr, hnm, hE, hrm⟩ := hX
  intro ad H locs LS hR hH hls hst hL
  rw [hml] at hL
  exact lv_astore_n hx hb hd hi hL.has hn rfl (fun LS' hL' => kk ad H locs LS' hR hH (hls.st1 hst.head) hst.tail (by rw [hml]; exact LHX.st1 (v := vR x) hL'))

theorem w_astore {i : Nat} {x : Nat} (hX : GX X y cc nL ret dd rc rs) (hd : decode cc pc = .ok (.astore i, 2)) (hq : pc + 2 = q) (hn : i < nL) (kk : WW X Q kc ks q (st1X ls i (vR x)) st n K Rf D) : WW X Q kc ks pc ls (vR x :: st) n K Rf D := by
  subst hq
  obtain ⟨p, l, e, R, s, m, args, below, meth, c, dC, dI, cA, ro, scr, A, n0, ad0⟩ := X
  obtain ⟨hx, hb, hml, hown, hts, hlk, hA, hr, hnm, hE, hrm⟩ := hX
  intro ad H locs LS hR hH hls hst hL
  rw [hml] at hL
  exact lv_astore hx hb hd hL.has hn rfl (fun LS' hL' => kk ad H locs LS' hR hH (hls.st1 hst.head) hst.tail (by rw [hml]; exact LHX.st1 (v := vR x) hL'))

theorem w_iinc {i : Nat} {x z : Int} (hX : GX X y cc nL ret dd rc rs) (hd : decode cc pc = .ok (.iinc i z, 3)) (hq : pc + 3 = q) (hl : ls[i]? = some (vI x)) (hn : i < nL) (hv : inI (x + z)) (kk : WW X Q kc ks q (st1X ls i (vI (x + z))) st n K Rf D) : WW X Q kc ks pc ls st n K Rf D := by
  subst hq
  obtain ⟨p, l, e, R, s, m, args, below, meth, c, dC, dI, cA, ro, scr, A, n0, ad0⟩ := X
  obtain ⟨hx, hb, hml, hown, hts, hlk, hA, hr, hnm, hE, hrm⟩ := hX
  intro ad H locs LS hR hH hls hst hL
  rw [hml] at hL
  obtain ⟨k, hk⟩ := List.getElem?_of_mem (lm_mem.mpr ⟨vI x, hl, ne_I x, rfl⟩ : (i, val ad ro (vI x)) ∈ lmX ad ro ls)
  exact lv_iinc hx hb hd hL.has (k := k) hk (adI x z).symm hn rfl (fun LS' hL' => kk ad H locs LS' hR hH (hls.st1 hv) hst (by rw [hml]; exact LHX.st1 (v := vI (x + z)) hL'))

theorem w_iconst {x : Int} (hX : GX X y cc nL ret dd rc rs) (hd : decode cc pc = .ok (.iconst x, 1)) (hq : pc + 1 = q) (hv : inI x) (kk : WW X Q kc ks q ls (vI x :: st) n K Rf D) : WW X Q kc ks pc ls st n K Rf D := by
  subst hq
  obtain ⟨p, l, e, R, s, m, args, below, meth, c, dC, dI, cA, ro, scr, A, n0, ad0⟩ := X
  obtain ⟨hx, hb, hml, hown, hts, hlk, hA, hr, hnm, hE, hrm⟩ := hX
  intro ad H locs LS hR hH hls hst hL
  exact lv_iconst hx hb hd rfl (kk ad H locs LS hR hH hls (okS.cons (v := vI x) hv hst) hL)

theorem w_bipush {x : Int} (hX : GX X y cc nL ret dd rc rs) (hd : decode cc pc = .ok (.bipush x, 2)) (hq : pc + 2 = q) (hv : -128 ≤ x ∧ x ≤ 127) (kk : WW X Q kc ks q ls (vI x :: st) n K Rf D) : WW X Q kc ks pc ls st n K Rf D := by
  subst hq
  obtain ⟨p, l, e, R, s, m, args, below, meth, c, dC, dI, cA, ro, scr, A, n0, ad0⟩ := X
  obtain ⟨hx, hb, hml, hown, hts, hlk, hA, hr, hnm, hE, hrm⟩ := hX
  intro ad H locs LS hR hH hls hst hL
  exact lv_bipush hx hb hd (bpI hv) (kk ad H locs LS hR hH hls (okS.cons (v := vI x) (show inI x by omega) hst) hL)

theorem w_sipush {x : Int} (hX : GX X y cc nL ret dd rc rs) (hd : decode cc pc = .ok (.sipush x, 3)) (hq : pc + 3 = q) (hv : -32768 ≤ x ∧ x ≤ 32767) (kk : WW X Q kc ks q ls (vI x :: st) n K Rf D) : WW X Q kc ks pc ls st n K Rf D := by
  subst hq
  obtain ⟨p, l, e, R, s, m, args, below, meth, c, dC, dI, cA, ro, scr, A, n0, ad0⟩ := X
  obtain ⟨hx, hb, hml, hown, hts, hlk, hA, hr, hnm, hE, hrm⟩ := hX
  intro ad H locs LS hR hH hls hst hL
  exact lv_sipush hx hb hd (spI hv) (kk ad H locs LS hR hH hls (okS.cons (v := vI x) (show inI x by omega) hst) hL)

theorem w_lconst0 (hX : GX X y cc nL ret dd rc rs) (hd : decode cc pc = .ok (.lconst 0, 1)) (hq : pc + 1 = q) (kk : WW X Q kc ks q ls (vL 0 :: st) n K Rf D) : WW X Q kc ks pc ls st n K Rf D := by
  subst hq
  obtain ⟨p, l, e, R, s, m, args, below, meth, c, dC, dI, cA, ro, scr, A, n0, ad0⟩ := X
  obtain ⟨hx, hb, hml, hown, hts, hlk, hA, hr, hnm, hE, hrm⟩ := hX
  intro ad H locs LS hR hH hls hst hL
  exact lv_lconst hx hb hd rfl (kk ad H locs LS hR hH hls (okS.cons (v := vL 0) (show inL 0 by omega) hst) hL)

theorem w_lconst1 (hX : GX X y cc nL ret dd rc rs) (hd : decode cc pc = .ok (.lconst 1, 1)) (hq : pc + 1 = q) (kk : WW X Q kc ks q ls (vL 1 :: st) n K Rf D) : WW X Q kc ks pc ls st n K Rf D := by
  subst hq
  obtain ⟨p, l, e, R, s, m, args, below, meth, c, dC, dI, cA, ro, scr, A, n0, ad0⟩ := X
  obtain ⟨hx, hb, hml, hown, hts, hlk, hA, hr, hnm, hE, hrm⟩ := hX
  intro ad H locs LS hR hH hls hst hL
  exact lv_lconst hx hb hd rfl (kk ad H locs LS hR hH hls (okS.cons (v := vL 1) (show inL 1 by omega) hst) hL)

theorem w_ldc {idx : Nat} {v : Int32} {x : Int} (hX : GX X y cc nL ret dd rc rs) (hw : Cond.constant y.cls idx v ∈ gtX) (hd : decode cc pc = .ok (.ldc idx, 2)) (hq : pc + 2 = q) (hv : Int32.ofInt x = v) (hx0 : inI x) (kk : WW X Q kc ks q ls (vI x :: st) n K Rf D) : WW X Q kc ks pc ls st n K Rf D := by
  subst hq; subst hv
  obtain ⟨p, l, e, R, s, m, args, below, meth, c, dC, dI, cA, ro, scr, A, n0, ad0⟩ := X
  obtain ⟨hx, hb, hml, hown, hts, hlk, hA, hr, hnm, hE, hrm⟩ := hX
  intro ad H locs LS hR hH hls hst hL
  exact lv_ldc hx hb hown (hts _ hw) hd (kk ad H locs LS hR hH hls (okS.cons (v := vI x) hx0 hst) hL)

theorem w_ldc2 {idx : Nat} {v : Int64} {x : Int} (hX : GX X y cc nL ret dd rc rs) (hw : Cond.constantLong y.cls idx v ∈ gtX) (hd : decode cc pc = .ok (.ldc2_w idx, 3)) (hq : pc + 3 = q) (hv : Int64.ofInt x = v) (hx0 : inL x) (kk : WW X Q kc ks q ls (vL x :: st) n K Rf D) : WW X Q kc ks pc ls st n K Rf D := by
  subst hq; subst hv
  obtain ⟨p, l, e, R, s, m, args, below, meth, c, dC, dI, cA, ro, scr, A, n0, ad0⟩ := X
  obtain ⟨hx, hb, hml, hown, hts, hlk, hA, hr, hnm, hE, hrm⟩ := hX
  intro ad H locs LS hR hH hls hst hL
  exact lv_ldc2 hx hb hown (hts _ hw) hd (kk ad H locs LS hR hH hls (okS.cons (v := vL x) hx0 hst) hL)

theorem w_iadd {x z : Int} (hX : GX X y cc nL ret dd rc rs) (hd : decode cc pc = .ok (.iadd, 1)) (hq : pc + 1 = q) (hv : inI (x + z)) (kk : WW X Q kc ks q ls (vI (x + z) :: st) n K Rf D) : WW X Q kc ks pc ls (vI z :: vI x :: st) n K Rf D := by
  subst hq
  obtain ⟨p, l, e, R, s, m, args, below, meth, c, dC, dI, cA, ro, scr, A, n0, ad0⟩ := X
  obtain ⟨hx, hb, hml, hown, hts, hlk, hA, hr, hnm, hE, hrm⟩ := hX
  intro ad H locs LS hR hH hls hst hL
  refine lv_iadd hx hb hd ?_
  rw [← adI x z]
  exact kk ad H locs LS hR hH hls (okS.cons (v := vI (x + z)) hv hst.tail.tail) hL

theorem w_isub {x z : Int} (hX : GX X y cc nL ret dd rc rs) (hd : decode cc pc = .ok (.isub, 1)) (hq : pc + 1 = q) (hv : inI (x - z)) (kk : WW X Q kc ks q ls (vI (x - z) :: st) n K Rf D) : WW X Q kc ks pc ls (vI z :: vI x :: st) n K Rf D := by
  subst hq
  obtain ⟨p, l, e, R, s, m, args, below, meth, c, dC, dI, cA, ro, scr, A, n0, ad0⟩ := X
  obtain ⟨hx, hb, hml, hown, hts, hlk, hA, hr, hnm, hE, hrm⟩ := hX
  intro ad H locs LS hR hH hls hst hL
  refine lv_isub hx hb hd ?_
  rw [← sbI x z]
  exact kk ad H locs LS hR hH hls (okS.cons (v := vI (x - z)) hv hst.tail.tail) hL

theorem w_ladd {x z : Int} (hX : GX X y cc nL ret dd rc rs) (hd : decode cc pc = .ok (.ladd, 1)) (hq : pc + 1 = q) (hv : inL (x + z)) (kk : WW X Q kc ks q ls (vL (x + z) :: st) n K Rf D) : WW X Q kc ks pc ls (vL z :: vL x :: st) n K Rf D := by
  subst hq
  obtain ⟨p, l, e, R, s, m, args, below, meth, c, dC, dI, cA, ro, scr, A, n0, ad0⟩ := X
  obtain ⟨hx, hb, hml, hown, hts, hlk, hA, hr, hnm, hE, hrm⟩ := hX
  intro ad H locs LS hR hH hls hst hL
  refine lv_ladd hx hb hd ?_
  rw [← adL x z]
  exact kk ad H locs LS hR hH hls (okS.cons (v := vL (x + z)) hv hst.tail.tail) hL

theorem w_lsub {x z : Int} (hX : GX X y cc nL ret dd rc rs) (hd : decode cc pc = .ok (.lsub, 1)) (hq : pc + 1 = q) (hv : inL (x - z)) (kk : WW X Q kc ks q ls (vL (x - z) :: st) n K Rf D) : WW X Q kc ks pc ls (vL z :: vL x :: st) n K Rf D := by
  subst hq
  obtain ⟨p, l, e, R, s, m, args, below, meth, c, dC, dI, cA, ro, scr, A, n0, ad0⟩ := X
  obtain ⟨hx, hb, hml, hown, hts, hlk, hA, hr, hnm, hE, hrm⟩ := hX
  intro ad H locs LS hR hH hls hst hL
  refine lv_lsub hx hb hd ?_
  rw [← sbL x z]
  exact kk ad H locs LS hR hH hls (okS.cons (v := vL (x - z)) hv hst.tail.tail) hL

theorem w_lmul {x z : Int} (hX : GX X y cc nL ret dd rc rs) (hd : decode cc pc = .ok (.lmul, 1)) (hq : pc + 1 = q) (hv : inL (x * z)) (kk : WW X Q kc ks q ls (vL (x * z) :: st) n K Rf D) : WW X Q kc ks pc ls (vL z :: vL x :: st) n K Rf D := by
  subst hq
  obtain ⟨p, l, e, R, s, m, args, below, meth, c, dC, dI, cA, ro, scr, A, n0, ad0⟩ := X
  obtain ⟨hx, hb, hml, hown, hts, hlk, hA, hr, hnm, hE, hrm⟩ := hX
  intro ad H locs LS hR hH hls hst hL
  refine lv_lmul hx hb hd ?_
  rw [← muL x z]
  exact kk ad H locs LS hR hH hls (okS.cons (v := vL (x * z)) hv hst.tail.tail) hL

theorem w_irem {x z : Int} (hX : GX X y cc nL ret dd rc rs) (hd : decode cc pc = .ok (.irem, 1)) (hq : pc + 1 = q) (h0 : 0 ≤ x) (h1 : 0 < z) (kk : WW X Q kc ks q ls (vI (x % z) :: st) n K Rf D) : WW X Q kc ks pc ls (vI z :: vI x :: st) n K Rf D := by
  subst hq
  obtain ⟨p, l, e, R, s, m, args, below, meth, c, dC, dI, cA, ro, scr, A, n0, ad0⟩ := X
  obtain ⟨hx, hb, hml, hown, hts, hlk, hA, hr, hnm, hE, hrm⟩ := hX
  intro ad H locs LS hR hH hls hst hL
  have hz : inI z := hst.head
  have hxx : inI x := hst.tail.head
  obtain ⟨a, rfl⟩ := Int.eq_ofNat_of_zero_le h0
  obtain ⟨b, rfl⟩ := Int.eq_ofNat_of_zero_le (Int.le_of_lt h1)
  refine lv_irem hx hb hd (fun h => ?_) ?_
  · have := (eqI hz in0).mp (h.trans ofI0.symm)
    omega
  · have e : Int32.ofInt ((a : Int) % (b : Int)) = Int32.ofInt (a : Int) - Int32.ofInt (a : Int) / Int32.ofInt (b : Int) * Int32.ofInt (b : Int) := by
      rw [← Int.natCast_emod, Int32.ofInt_eq_ofNat, Int32.ofInt_eq_ofNat, Int32.ofInt_eq_ofNat]
      exact (pk_rem (a := a) (d := b) (by omega) (by omega) (by omega)).symm
    rw [← e]
    exact kk ad H locs LS hR hH hls (okS.cons (v := vI ((a : Int) % (b : Int))) (by show inI _; have h1 := Int.emod_nonneg (a : Int) (b := (b : Int)) (by omega); have h2 := Int.emod_lt_of_pos (a : Int) (b := (b : Int)) (by omega); omega) hst.tail.tail) hL

theorem w_iand {x z : Int} (hX : GX X y cc nL ret dd rc rs) (hd : decode cc pc = .ok (.iand, 1)) (hq : pc + 1 = q) (kk : WW X Q kc ks q ls (vI (Int32.ofInt x &&& Int32.ofInt z).toInt :: st) n K Rf D) : WW X Q kc ks pc ls (vI z :: vI x :: st) n K Rf D := by
  subst hq
  obtain ⟨p, l, e, R, s, m, args, below, meth, c, dC, dI, cA, ro, scr, A, n0, ad0⟩ := X
  obtain ⟨hx, hb, hml, hown, hts, hlk, hA, hr, hnm, hE, hrm⟩ := hX
  intro ad H locs LS hR hH hls hst hL
  refine lv_iand hx hb hd ?_
  have k := kk ad H locs LS hR hH hls (okS.cons (v := vI (Int32.ofInt x &&& Int32.ofInt z).toInt) (by show inI _; have := Int32.le_toInt (Int32.ofInt x &&& Int32.ofInt z); have := Int32.toInt_lt (Int32.ofInt x &&& Int32.ofInt z); omega) hst.tail.tail) hL
  have e : val ad ro (vI (Int32.ofInt x &&& Int32.ofInt z).toInt) = .int (Int32.ofInt x &&& Int32.ofInt z) := by
    show Value.int (Int32.ofInt (Int32.ofInt x &&& Int32.ofInt z).toInt) = _
    rw [Int32.ofInt_toInt]
  rw [List.map_cons, e] at k
  exact k

theorem w_land {x z : Int} (hX : GX X y cc nL ret dd rc rs) (hd : decode cc pc = .ok (.land, 1)) (hq : pc + 1 = q) (kk : WW X Q kc ks q ls (vL (Int64.ofInt x &&& Int64.ofInt z).toInt :: st) n K Rf D) : WW X Q kc ks pc ls (vL z :: vL x :: st) n K Rf D := by
  subst hq
  obtain ⟨p, l, e, R, s, m, args, below, meth, c, dC, dI, cA, ro, scr, A, n0, ad0⟩ := X
  obtain ⟨hx, hb, hml, hown, hts, hlk, hA, hr, hnm, hE, hrm⟩ := hX
  intro ad H locs LS hR hH hls hst hL
  refine lv_land hx hb hd ?_
  have k := kk ad H locs LS hR hH hls (okS.cons (v := vL (Int64.ofInt x &&& Int64.ofInt z).toInt) (by show inL _; have := Int64.le_toInt (Int64.ofInt x &&& Int64.ofInt z); have := Int64.toInt_lt (Int64.ofInt x &&& Int64.ofInt z); omega) hst.tail.tail) hL
  have e : val ad ro (vL (Int64.ofInt x &&& Int64.ofInt z).toInt) = .long (Int64.ofInt x &&& Int64.ofInt z) := by
    show Value.long (Int64.ofInt (Int64.ofInt x &&& Int64.ofInt z).toInt) = _
    rw [Int64.ofInt_toInt]
  rw [List.map_cons, e] at k
  exact k

theorem w_lor {x z : Int} (hX : GX X y cc nL ret dd rc rs) (hd : decode cc pc = .ok (.lor, 1)) (hq : pc + 1 = q) (kk : WW X Q kc ks q ls (vL (Int64.ofInt x ||| Int64.ofInt z).toInt :: st) n K Rf D) : WW X Q kc ks pc ls (vL z :: vL x :: st) n K Rf D := by
  subst hq
  obtain ⟨p, l, e, R, s, m, args, below, meth, c, dC, dI, cA, ro, scr, A, n0, ad0⟩ := X
  obtain ⟨hx, hb, hml, hown, hts, hlk, hA, hr, hnm, hE, hrm⟩ := hX
  intro ad H locs LS hR hH hls hst hL
  refine lv_lor hx hb hd ?_
  have k := kk ad H locs LS hR hH hls (okS.cons (v := vL (Int64.ofInt x ||| Int64.ofInt z).toInt) (by show inL _; have := Int64.le_toInt (Int64.ofInt x ||| Int64.ofInt z); have := Int64.toInt_lt (Int64.ofInt x ||| Int64.ofInt z); omega) hst.tail.tail) hL
  have e : val ad ro (vL (Int64.ofInt x ||| Int64.ofInt z).toInt) = .long (Int64.ofInt x ||| Int64.ofInt z) := by
    show Value.long (Int64.ofInt (Int64.ofInt x ||| Int64.ofInt z).toInt) = _
    rw [Int64.ofInt_toInt]
  rw [List.map_cons, e] at k
  exact k

theorem w_lushr {x z : Int} (hX : GX X y cc nL ret dd rc rs) (hd : decode cc pc = .ok (.lushr, 1)) (hq : pc + 1 = q) (kk : WW X Q kc ks q ls (vL (((Int64.ofInt x).toUInt64 >>> ((Int32.ofInt z).toInt64.toUInt64 &&& Int64.toUInt64 63)).toInt64).toInt :: st) n K Rf D) : WW X Q kc ks pc ls (vI z :: vL x :: st) n K Rf D := by
  subst hq
  obtain ⟨p, l, e, R, s, m, args, below, meth, c, dC, dI, cA, ro, scr, A, n0, ad0⟩ := X
  obtain ⟨hx, hb, hml, hown, hts, hlk, hA, hr, hnm, hE, hrm⟩ := hX
  intro ad H locs LS hR hH hls hst hL
  refine lv_lushr hx hb hd rfl ?_
  have k := kk ad H locs LS hR hH hls (okS.cons (v := vL (((Int64.ofInt x).toUInt64 >>> ((Int32.ofInt z).toInt64.toUInt64 &&& Int64.toUInt64 63)).toInt64).toInt) (by show inL _; have := Int64.le_toInt (((Int64.ofInt x).toUInt64 >>> ((Int32.ofInt z).toInt64.toUInt64 &&& Int64.toUInt64 63)).toInt64); have := Int64.toInt_lt (((Int64.ofInt x).toUInt64 >>> ((Int32.ofInt z).toInt64.toUInt64 &&& Int64.toUInt64 63)).toInt64); omega) hst.tail.tail) hL
  have e : val ad ro (vL (((Int64.ofInt x).toUInt64 >>> ((Int32.ofInt z).toInt64.toUInt64 &&& Int64.toUInt64 63)).toInt64).toInt) = .long (((Int64.ofInt x).toUInt64 >>> ((Int32.ofInt z).toInt64.toUInt64 &&& Int64.toUInt64 63)).toInt64) := by
    show Value.long (Int64.ofInt (((Int64.ofInt x).toUInt64 >>> ((Int32.ofInt z).toInt64.toUInt64 &&& Int64.toUInt64 63)).toInt64).toInt) = _
    rw [Int64.ofInt_toInt]
  rw [List.map_cons, e] at k
  exact k

theorem w_lshl {x z : Int} (hX : GX X y cc nL ret dd rc rs) (hd : decode cc pc = .ok (.lshl, 1)) (hq : pc + 1 = q) (kk : WW X Q kc ks q ls (vL (Int64.ofInt x <<< ((Int32.ofInt z).toInt64 &&& 63)).toInt :: st) n K Rf D) : WW X Q kc ks pc ls (vI z :: vL x :: st) n K Rf D := by
  subst hq
  obtain ⟨p, l, e, R, s, m, args, below, meth, c, dC, dI, cA, ro, scr, A, n0, ad0⟩ := X
  obtain ⟨hx, hb, hml, hown, hts, hlk, hA, hr, hnm, hE, hrm⟩ := hX
  intro ad H locs LS hR hH hls hst hL
  refine lv_lshl hx hb hd rfl ?_
  have k := kk ad H locs LS hR hH hls (okS.cons (v := vL (Int64.ofInt x <<< ((Int32.ofInt z).toInt64 &&& 63)).toInt) (by show inL _; have := Int64.le_toInt (Int64.ofInt x <<< ((Int32.ofInt z).toInt64 &&& 63)); have := Int64.toInt_lt (Int64.ofInt x <<< ((Int32.ofInt z).toInt64 &&& 63)); omega) hst.tail.tail) hL
  have e : val ad ro (vL (Int64.ofInt x <<< ((Int32.ofInt z).toInt64 &&& 63)).toInt) = .long (Int64.ofInt x <<< ((Int32.ofInt z).toInt64 &&& 63)) := by
    show Value.long (Int64.ofInt (Int64.ofInt x <<< ((Int32.ofInt z).toInt64 &&& 63)).toInt) = _
    rw [Int64.ofInt_toInt]
  rw [List.map_cons, e] at k
  exact k

theorem w_lshr {x z : Int} (hX : GX X y cc nL ret dd rc rs) (hd : decode cc pc = .ok (.lshr, 1)) (hq : pc + 1 = q) (kk : WW X Q kc ks q ls (vL (Int64.ofInt x >>> ((Int32.ofInt z).toInt64 &&& 63)).toInt :: st) n K Rf D) : WW X Q kc ks pc ls (vI z :: vL x :: st) n K Rf D := by
  subst hq
  obtain ⟨p, l, e, R, s, m, args, below, meth, c, dC, dI, cA, ro, scr, A, n0, ad0⟩ := X
  obtain ⟨hx, hb, hml, hown, hts, hlk, hA, hr, hnm, hE, hrm⟩ := hX
  intro ad H locs LS hR hH hls hst hL
  refine lv_lshr hx hb hd rfl ?_
  have k := kk ad H locs LS hR hH hls (okS.cons (v := vL (Int64.ofInt x >>> ((Int32.ofInt z).toInt64 &&& 63)).toInt) (by show inL _; have := Int64.le_toInt (Int64.ofInt x >>> ((Int32.ofInt z).toInt64 &&& 63)); have := Int64.toInt_lt (Int64.ofInt x >>> ((Int32.ofInt z).toInt64 &&& 63)); omega) hst.tail.tail) hL
  have e : val ad ro (vL (Int64.ofInt x >>> ((Int32.ofInt z).toInt64 &&& 63)).toInt) = .long (Int64.ofInt x >>> ((Int32.ofInt z).toInt64 &&& 63)) := by
    show Value.long (Int64.ofInt (Int64.ofInt x >>> ((Int32.ofInt z).toInt64 &&& 63)).toInt) = _
    rw [Int64.ofInt_toInt]
  rw [List.map_cons, e] at k
  exact k

theorem w_i2l {x : Int} (hX : GX X y cc nL ret dd rc rs) (hd : decode cc pc = .ok (.i2l, 1)) (hq : pc + 1 = q) (kk : WW X Q kc ks q ls (vL x :: st) n K Rf D) : WW X Q kc ks pc ls (vI x :: st) n K Rf D := by
  subst hq
  obtain ⟨p, l, e, R, s, m, args, below, meth, c, dC, dI, cA, ro, scr, A, n0, ad0⟩ := X
  obtain ⟨hx, hb, hml, hown, hts, hlk, hA, hr, hnm, hE, hrm⟩ := hX
  intro ad H locs LS hR hH hls hst hL
  exact lv_i2l hx hb hd (ilL hst.head) (kk ad H locs LS hR hH hls (okS.cons (v := vL x) (inI_L hst.head) hst.tail) hL)

theorem w_l2i {x : Int} (hX : GX X y cc nL ret dd rc rs) (hd : decode cc pc = .ok (.l2i, 1)) (hq : pc + 1 = q) (hv : inI x) (kk : WW X Q kc ks q ls (vI x :: st) n K Rf D) : WW X Q kc ks pc ls (vL x :: st) n K Rf D := by
  subst hq
  obtain ⟨p, l, e, R, s, m, args, below, meth, c, dC, dI, cA, ro, scr, A, n0, ad0⟩ := X
  obtain ⟨hx, hb, hml, hown, hts, hlk, hA, hr, hnm, hE, hrm⟩ := hX
  intro ad H locs LS hR hH hls hst hL
  exact lv_l2i hx hb hd (liI hv) (kk ad H locs LS hR hH hls (okS.cons (v := vI x) hv hst.tail) hL)

theorem w_lcmp {x z : Int} (hX : GX X y cc nL ret dd rc rs) (hd : decode cc pc = .ok (.lcmp, 1)) (hq : pc + 1 = q) (kk : WW X Q kc ks q ls (vI (if x > z then 1 else if x = z then 0 else -1) :: st) n K Rf D) : WW X Q kc ks pc ls (vL z :: vL x :: st) n K Rf D := by
  subst hq
  obtain ⟨p, l, e, R, s, m, args, below, meth, c, dC, dI, cA, ro, scr, A, n0, ad0⟩ := X
  obtain ⟨hx, hb, hml, hown, hts, hlk, hA, hr, hnm, hE, hrm⟩ := hX
  intro ad H locs LS hR hH hls hst hL
  refine W.lcmp hx hb hd ?_
  rw [cmpL hst.tail.head hst.head]
  exact kk ad H locs LS hR hH hls (okS.cons (v := vI (if x > z then 1 else if x = z then 0 else -1)) (by show inI _; split <;> (try split) <;> exact ⟨by omega, by omega⟩) hst.tail.tail) hL

theorem w_if_eq {x off : Int} {tgt : Nat} (hX : GX X y cc nL ret dd rc rs) (hd : decode cc pc = .ok (.ifCond .eq off, 3)) (hq : pc + 3 = q) (ht : (pc : Int) + off = (tgt : Int)) (kt : x = 0 → WW X Q kc ks tgt ls st n K Rf D) (kf : ¬ x = 0 → WW X Q kc ks q ls st n K Rf D) : WW X Q kc ks pc ls (vI x :: st) n K Rf D := by
  subst hq
  obtain ⟨p, l, e, R, s, m, args, below, meth, c, dC, dI, cA, ro, scr, A, n0, ad0⟩ := X
  obtain ⟨hx, hb, hml, hown, hts, hlk, hA, hr, hnm, hE, hrm⟩ := hX
  intro ad H locs LS hR hH hls hst hL
  have e := (eqI hst.head in0)
  rw [ofI0] at e
  exact lv_if_eq hx hb hd ht (fun h => kt (e.mp h) ad H locs LS hR hH hls hst.tail hL) (fun h => kf (fun z => h (e.mpr z)) ad H locs LS hR hH hls hst.tail hL)

theorem w_if_ne {x off : Int} {tgt : Nat} (hX : GX X y cc nL ret dd rc rs) (hd : decode cc pc = .ok (.ifCond .ne off, 3)) (hq : pc + 3 = q) (ht : (pc : Int) + off = (tgt : Int)) (kt : x ≠ 0 → WW X Q kc ks tgt ls st n K Rf D) (kf : ¬ x ≠ 0 → WW X Q kc ks q ls st n K Rf D) : WW X Q kc ks pc ls (vI x :: st) n K Rf D := by
  subst hq
  obtain ⟨p, l, e, R, s, m, args, below, meth, c, dC, dI, cA, ro, scr, A, n0, ad0⟩ := X
  obtain ⟨hx, hb, hml, hown, hts, hlk, hA, hr, hnm, hE, hrm⟩ := hX
  intro ad H locs LS hR hH hls hst hL
  refine lv_if_ne hx hb hd ht (fun h => kt (fun z => h (by rw [z]; exact ofI0)) ad H locs LS hR hH hls hst.tail hL) (fun h => kf (fun z => ?_) ad H locs LS hR hH hls hst.tail hL)
  exact z ((eqI hst.head in0).mp (h.trans ofI0.symm))

theorem w_if_lt {x off : Int} {tgt : Nat} (hX : GX X y cc nL ret dd rc rs) (hd : decode cc pc = .ok (.ifCond .lt off, 3)) (hq : pc + 3 = q) (ht : (pc : Int) + off = (tgt : Int)) (kt : x < 0 → WW X Q kc ks tgt ls st n K Rf D) (kf : ¬ x < 0 → WW X Q kc ks q ls st n K Rf D) : WW X Q kc ks pc ls (vI x :: st) n K Rf D := by
  subst hq
  obtain ⟨p, l, e, R, s, m, args, below, meth, c, dC, dI, cA, ro, scr, A, n0, ad0⟩ := X
  obtain ⟨hx, hb, hml, hown, hts, hlk, hA, hr, hnm, hE, hrm⟩ := hX
  intro ad H locs LS hR hH hls hst hL
  have e := (ltI hst.head in0)
  rw [ofI0] at e
  exact lv_if_lt hx hb hd ht (fun h => kt (e.mp h) ad H locs LS hR hH hls hst.tail hL) (fun h => kf (fun z => h (e.mpr z)) ad H locs LS hR hH hls hst.tail hL)

theorem w_if_ge {x off : Int} {tgt : Nat} (hX : GX X y cc nL ret dd rc rs) (hd : decode cc pc = .ok (.ifCond .ge off, 3)) (hq : pc + 3 = q) (ht : (pc : Int) + off = (tgt : Int)) (kt : 0 ≤ x → WW X Q kc ks tgt ls st n K Rf D) (kf : ¬ 0 ≤ x → WW X Q kc ks q ls st n K Rf D) : WW X Q kc ks pc ls (vI x :: st) n K Rf D := by
  subst hq
  obtain ⟨p, l, e, R, s, m, args, below, meth, c, dC, dI, cA, ro, scr, A, n0, ad0⟩ := X
  obtain ⟨hx, hb, hml, hown, hts, hlk, hA, hr, hnm, hE, hrm⟩ := hX
  intro ad H locs LS hR hH hls hst hL
  have e := (leI in0 hst.head)
  rw [ofI0] at e
  exact lv_if_ge hx hb hd ht (fun h => kt (e.mp h) ad H locs LS hR hH hls hst.tail hL) (fun h => kf (fun z => h (e.mpr z)) ad H locs LS hR hH hls hst.tail hL)

theorem w_if_gt {x off : Int} {tgt : Nat} (hX : GX X y cc nL ret dd rc rs) (hd : decode cc pc = .ok (.ifCond .gt off, 3)) (hq : pc + 3 = q) (ht : (pc : Int) + off = (tgt : Int)) (kt : 0 < x → WW X Q kc ks tgt ls st n K Rf D) (kf : ¬ 0 < x → WW X Q kc ks q ls st n K Rf D) : WW X Q kc ks pc ls (vI x :: st) n K Rf D := by
  subst hq
  obtain ⟨p, l, e, R, s, m, args, below, meth, c, dC, dI, cA, ro, scr, A, n0, ad0⟩ := X
  obtain ⟨hx, hb, hml, hown, hts, hlk, hA, hr, hnm, hE, hrm⟩ := hX
  intro ad H locs LS hR hH hls hst hL
  have e := (ltI in0 hst.head)
  rw [ofI0] at e
  exact lv_if_gt hx hb hd ht (fun h => kt (e.mp h) ad H locs LS hR hH hls hst.tail hL) (fun h => kf (fun z => h (e.mpr z)) ad H locs LS hR hH hls hst.tail hL)

theorem w_if_le {x off : Int} {tgt : Nat} (hX : GX X y cc nL ret dd rc rs) (hd : decode cc pc = .ok (.ifCond .le off, 3)) (hq : pc + 3 = q) (ht : (pc : Int) + off = (tgt : Int)) (kt : x ≤ 0 → WW X Q kc ks tgt ls st n K Rf D) (kf : ¬ x ≤ 0 → WW X Q kc ks q ls st n K Rf D) : WW X Q kc ks pc ls (vI x :: st) n K Rf D := by
  subst hq
  obtain ⟨p, l, e, R, s, m, args, below, meth, c, dC, dI, cA, ro, scr, A, n0, ad0⟩ := X
  obtain ⟨hx, hb, hml, hown, hts, hlk, hA, hr, hnm, hE, hrm⟩ := hX
  intro ad H locs LS hR hH hls hst hL
  have e := (leI hst.head in0)
  rw [ofI0] at e
  exact lv_if_le hx hb hd ht (fun h => kt (e.mp h) ad H locs LS hR hH hls hst.tail hL) (fun h => kf (fun z => h (e.mpr z)) ad H locs LS hR hH hls hst.tail hL)

theorem w_icmp_eq {x z off : Int} {tgt : Nat} (hX : GX X y cc nL ret dd rc rs) (hd : decode cc pc = .ok (.if_icmp .eq off, 3)) (hq : pc + 3 = q) (ht : (pc : Int) + off = (tgt : Int)) (kt : x = z → WW X Q kc ks tgt ls st n K Rf D) (kf : ¬ x = z → WW X Q kc ks q ls st n K Rf D) : WW X Q kc ks pc ls (vI z :: vI x :: st) n K Rf D := by
  subst hq
  obtain ⟨p, l, e, R, s, m, args, below, meth, c, dC, dI, cA, ro, scr, A, n0, ad0⟩ := X
  obtain ⟨hx, hb, hml, hown, hts, hlk, hA, hr, hnm, hE, hrm⟩ := hX
  intro ad H locs LS hR hH hls hst hL
  have e := eqI hst.tail.head hst.head
  exact lv_icmp_eq hx hb hd ht (fun h => kt (e.mp h) ad H locs LS hR hH hls hst.tail.tail hL) (fun h => kf (fun w => h (e.mpr w)) ad H locs LS hR hH hls hst.tail.tail hL)

theorem w_icmp_ne {x z off : Int} {tgt : Nat} (hX : GX X y cc nL ret dd rc rs) (hd : decode cc pc = .ok (.if_icmp .ne off, 3)) (hq : pc + 3 = q) (ht : (pc : Int) + off = (tgt : Int)) (kt : x ≠ z → WW X Q kc ks tgt ls st n K Rf D) (kf : ¬ x ≠ z → WW X Q kc ks q ls st n K Rf D) : WW X Q kc ks pc ls (vI z :: vI x :: st) n K Rf D := by
  subst hq
  obtain ⟨p, l, e, R, s, m, args, below, meth, c, dC, dI, cA, ro, scr, A, n0, ad0⟩ := X
  obtain ⟨hx, hb, hml, hown, hts, hlk, hA, hr, hnm, hE, hrm⟩ := hX
  intro ad H locs LS hR hH hls hst hL
  refine lv_icmp_ne hx hb hd ht (fun h => kt (fun w => h (by rw [w])) ad H locs LS hR hH hls hst.tail.tail hL) (fun h => kf (fun w => ?_) ad H locs LS hR hH hls hst.tail.tail hL)
  exact w ((eqI hst.tail.head hst.head).mp h)

theorem w_icmp_lt {x z off : Int} {tgt : Nat} (hX : GX X y cc nL ret dd rc rs) (hd : decode cc pc = .ok (.if_icmp .lt off, 3)) (hq : pc + 3 = q) (ht : (pc : Int) + off = (tgt : Int)) (kt : x < z → WW X Q kc ks tgt ls st n K Rf D) (kf : ¬ x < z → WW X Q kc ks q ls st n K Rf D) : WW X Q kc ks pc ls (vI z :: vI x :: st) n K Rf D := by
  subst hq
  obtain ⟨p, l, e, R, s, m, args, below, meth, c, dC, dI, cA, ro, scr, A, n0, ad0⟩ := X
  obtain ⟨hx, hb, hml, hown, hts, hlk, hA, hr, hnm, hE, hrm⟩ := hX
  intro ad H locs LS hR hH hls hst hL
  have e := ltI hst.tail.head hst.head
  exact lv_icmp_lt hx hb hd ht (fun h => kt (e.mp h) ad H locs LS hR hH hls hst.tail.tail hL) (fun h => kf (fun w => h (e.mpr w)) ad H locs LS hR hH hls hst.tail.tail hL)

theorem w_icmp_ge {x z off : Int} {tgt : Nat} (hX : GX X y cc nL ret dd rc rs) (hd : decode cc pc = .ok (.if_icmp .ge off, 3)) (hq : pc + 3 = q) (ht : (pc : Int) + off = (tgt : Int)) (kt : z ≤ x → WW X Q kc ks tgt ls st n K Rf D) (kf : ¬ z ≤ x → WW X Q kc ks q ls st n K Rf D) : WW X Q kc ks pc ls (vI z :: vI x :: st) n K Rf D := by
  subst hq
  obtain ⟨p, l, e, R, s, m, args, below, meth, c, dC, dI, cA, ro, scr, A, n0, ad0⟩ := X
  obtain ⟨hx, hb, hml, hown, hts, hlk, hA, hr, hnm, hE, hrm⟩ := hX
  intro ad H locs LS hR hH hls hst hL
  have e := leI hst.head hst.tail.head
  exact lv_icmp_ge hx hb hd ht (fun h => kt (e.mp h) ad H locs LS hR hH hls hst.tail.tail hL) (fun h => kf (fun w => h (e.mpr w)) ad H locs LS hR hH hls hst.tail.tail hL)

theorem w_icmp_gt {x z off : Int} {tgt : Nat} (hX : GX X y cc nL ret dd rc rs) (hd : decode cc pc = .ok (.if_icmp .gt off, 3)) (hq : pc + 3 = q) (ht : (pc : Int) + off = (tgt : Int)) (kt : z < x → WW X Q kc ks tgt ls st n K Rf D) (kf : ¬ z < x → WW X Q kc ks q ls st n K Rf D) : WW X Q kc ks pc ls (vI z :: vI x :: st) n K Rf D := by
  subst hq
  obtain ⟨p, l, e, R, s, m, args, below, meth, c, dC, dI, cA, ro, scr, A, n0, ad0⟩ := X
  obtain ⟨hx, hb, hml, hown, hts, hlk, hA, hr, hnm, hE, hrm⟩ := hX
  intro ad H locs LS hR hH hls hst hL
  have e := ltI hst.head hst.tail.head
  exact lv_icmp_gt hx hb hd ht (fun h => kt (e.mp h) ad H locs LS hR hH hls hst.tail.tail hL) (fun h => kf (fun w => h (e.mpr w)) ad H locs LS hR hH hls hst.tail.tail hL)

theorem w_icmp_le {x z off : Int} {tgt : Nat} (hX : GX X y cc nL ret dd rc rs) (hd : decode cc pc = .ok (.if_icmp .le off, 3)) (hq : pc + 3 = q) (ht : (pc : Int) + off = (tgt : Int)) (kt : x ≤ z → WW X Q kc ks tgt ls st n K Rf D) (kf : ¬ x ≤ z → WW X Q kc ks q ls st n K Rf D) : WW X Q kc ks pc ls (vI z :: vI x :: st) n K Rf D := by
  subst hq
  obtain ⟨p, l, e, R, s, m, args, below, meth, c, dC, dI, cA, ro, scr, A, n0, ad0⟩ := X
  obtain ⟨hx, hb, hml, hown, hts, hlk, hA, hr, hnm, hE, hrm⟩ := hX
  intro ad H locs LS hR hH hls hst hL
  have e := leI hst.tail.head hst.head
  exact lv_icmp_le hx hb hd ht (fun h => kt (e.mp h) ad H locs LS hR hH hls hst.tail.tail hL) (fun h => kf (fun w => h (e.mpr w)) ad H locs LS hR hH hls hst.tail.tail hL)

theorem w_goto {off : Int} {tgt : Nat} (hX : GX X y cc nL ret dd rc rs) (hd : decode cc pc = .ok (.goto off, 3)) (ht : (pc : Int) + off = (tgt : Int)) (kk : WW X Q kc ks tgt ls st n K Rf D) : WW X Q kc ks pc ls st n K Rf D := by
  obtain ⟨p, l, e, R, s, m, args, below, meth, c, dC, dI, cA, ro, scr, A, n0, ad0⟩ := X
  obtain ⟨hx, hb, hml, hown, hts, hlk, hA, hr, hnm, hE, hrm⟩ := hX
  intro ad H locs LS hR hH hls hst hL
  exact lv_goto hx hb hd ht (kk ad H locs LS hR hH hls hst hL)

/-- how many words a value takes -/
def catX : AV → Nat
  | .inr (.inl _) => 2
  | _ => 1
theorem cat_eq (ad ro : Nat → Nat) (v : AV) : (val ad ro v).category = catX v := by
  match v with
  | .inl x => rfl
  | .inr (.inl x) => rfl
  | .inr (.inr (.inl x)) => rfl
  | .inr (.inr (.inr (.inl x))) => rfl
  | .inr (.inr (.inr (.inr x))) => rfl

theorem w_dup {v : AV} (hX : GX X y cc nL ret dd rc rs) (hd : decode cc pc = .ok (.dup, 1)) (hq : pc + 1 = q) (hc : catX v = 1) (kk : WW X Q kc ks q ls (v :: v :: st) n K Rf D) : WW X Q kc ks pc ls (v :: st) n K Rf D := by
  subst hq
  obtain ⟨p, l, e, R, s, m, args, below, meth, c, dC, dI, cA, ro, scr, A, n0, ad0⟩ := X
  obtain ⟨hx, hb, hml, hown, hts, hlk, hA, hr, hnm, hE, hrm⟩ := hX
  intro ad H locs LS hR hH hls hst hL
  exact lv_dup hx hb hd (by rw [cat_eq]; exact hc) (kk ad H locs LS hR hH hls (hst.cons hst.head) hL)

theorem w_pop {v : AV} (hX : GX X y cc nL ret dd rc rs) (hd : decode cc pc = .ok (.pop, 1)) (hq : pc + 1 = q) (hc : catX v = 1) (kk : WW X Q kc ks q ls st n K Rf D) : WW X Q kc ks pc ls (v :: st) n K Rf D := by
  subst hq
  obtain ⟨p, l, e, R, s, m, args, below, meth, c, dC, dI, cA, ro, scr, A, n0, ad0⟩ := X
  obtain ⟨hx, hb, hml, hown, hts, hlk, hA, hr, hnm, hE, hrm⟩ := hX
  intro ad H locs LS hR hH hls hst hL
  exact lv_pop hx hb hd (va := val ad ro v) (by rw [cat_eq]; exact hc) (kk ad H locs LS hR hH hls hst.tail hL)

theorem w_dup2 {v w : AV} (hX : GX X y cc nL ret dd rc rs) (hd : decode cc pc = .ok (.dup2, 1)) (hq : pc + 1 = q) (hc : catX v = 1) (hc2 : catX w = 1) (kk : WW X Q kc ks q ls (v :: w :: v :: w :: st) n K Rf D) : WW X Q kc ks pc ls (v :: w :: st) n K Rf D := by
  subst hq
  obtain ⟨p, l, e, R, s, m, args, below, meth, c, dC, dI, cA, ro, scr, A, n0, ad0⟩ := X
  obtain ⟨hx, hb, hml, hown, hts, hlk, hA, hr, hnm, hE, hrm⟩ := hX
  intro ad H locs LS hR hH hls hst hL
  exact lv_dup2_11 hx hb hd (by rw [cat_eq]; exact hc) (by rw [cat_eq]; exact hc2) (kk ad H locs LS hR hH hls ((hst.cons hst.tail.head).cons hst.head) hL)

/-- where a table switch goes -/
def swX (dflt lo hi : Int) (offs : Array Int) (x : Int) : Int := if x < lo ∨ hi < x then dflt else offs.getD (x - lo).toNat dflt
theorem sw_dflt {dflt lo hi : Int} {offs : Array Int} {x : Int} (vs : List Int) (hc : (List.range offs.size).all (fun i => (offs.getD i dflt == dflt) || vs.contains (lo + (i : Int))) = true) (hx : x ∉ vs) : swX dflt lo hi offs x = dflt := by
  unfold swX
  split
  · rfl
  · rename_i h
    by_cases hi2 : (x - lo).toNat < offs.size
    · have h1 := List.all_eq_true.mp hc _ (List.mem_range.mpr hi2)
      simp only [Bool.or_eq_true, beq_iff_eq, List.contains_iff_mem] at h1
      rcases h1 with h1 | h1
      · exact h1
      · rw [show lo + ((x - lo).toNat : Int) = x by omega] at h1
        exact absurd h1 hx
    · simp [Array.getD, hi2]

theorem w_tsw {dflt lo hi x : Int} {offs : Array Int} {len tgt : Nat} (hX : GX X y cc nL ret dd rc rs) (hd : decode cc pc = .ok (.tableswitch dflt lo hi offs, len)) (hs : offs.size = (hi - lo + 1).toNat) (ht : (pc : Int) + swX dflt lo hi offs x = (tgt : Int)) (kk : WW X Q kc ks tgt ls st n K Rf D) : WW X Q kc ks pc ls (vI x :: st) n K Rf D := by
  obtain ⟨p, l, e, R, s, m, args, below, meth, c, dC, dI, cA, ro, scr, A, n0, ad0⟩ := X
  obtain ⟨hx, hb, hml, hown, hts, hlk, hA, hr, hnm, hE, hrm⟩ := hX
  intro ad H locs LS hR hH hls hst hL
  have hv : inI x := hst.head
  have k := kk ad H locs LS hR hH hls hst.tail hL
  unfold swX at ht
  by_cases ho : x < lo ∨ hi < x
  · rw [if_pos ho] at ht
    exact lv_tableOut hx hb hd (by rw [tI hv]; exact ho) ht k
  · rw [if_neg ho] at ht
    have hlt : (x - lo).toNat < offs.size := by rw [hs]; omega
    have hg : offs[(x - lo).toNat]? = some (offs.getD (x - lo).toNat dflt) := by
      rw [Array.getElem?_eq_getElem hlt, Array.getD, dif_pos hlt]; rfl
    exact lv_tableIn hx hb hd (by rw [tI hv]; omega) (by rw [tI hv]; omega) (by rw [tI hv]; exact hg) ht k

theorem w_lsw {dflt x off : Int} {ps : Array (Int × Int)} {len tgt : Nat} (hX : GX X y cc nL ret dd rc rs) (hd : decode cc pc = .ok (.lookupswitch dflt ps, len)) (hp : (ps.toList.zip (ps.toList.drop 1)).all (fun (a, next) => a.1 < next.1) = true) (ho : Op.lookupswitch.offset ps.toList dflt x = off) (ht : (pc : Int) + off = (tgt : Int)) (kk : WW X Q kc ks tgt ls st n K Rf D) : WW X Q kc ks pc ls (vI x :: st) n K Rf D := by
  obtain ⟨p, l, e, R, s, m, args, below, meth, c, dC, dI, cA, ro, scr, A, n0, ad0⟩ := X
  obtain ⟨hx, hb, hml, hown, hts, hlk, hA, hr, hnm, hE, hrm⟩ := hX
  intro ad H locs LS hR hH hls hst hL
  have hv : inI x := hst.head
  exact lv_lookup hx hb hd hp (by rw [tI hv]; exact ho) ht (kk ad H locs LS hR hH hls hst.tail hL)

/-- a class of the world: its name, its fields, their types -/
def CLX (ci : Nat) (C : String) (T : u_T) (ty : Nat → FieldType) : Prop := vwCl[ci]? = some (C, T, nfX ci) ∧ (∀ w ∈ u_ws C T (nfX ci), w ∈ gtX) ∧ (∀ k, k < nfX ci → parseFieldDescriptor (T k).2.2.1 = some (ty k)) ∧ ∀ a, a < nfX ci → ∀ b, b < nfX ci → a ≠ b → (T a).2.1 ≠ (T b).2.1
/-- a field's place, as the class own names it -/
def FLX (own : String) (idx : Nat) (T : u_T) (j : Nat) : Prop := ∃ ref : String, Cond.fieldLink own idx ref (T j).2.1 (T j).2.2.1 ∈ gtX ∧ (ref = (T j).1 ∨ Cond.sameField ref (T j).1 (T j).2.1 (T j).2.2.1 ∈ gtX)
theorem fl_same {own : String} {idx : Nat} {T : u_T} {j : Nat} {ref : String} {args : Array Value} {s : State} (hts : ∀ w ∈ gtX, w.before args s = true) (h : ref = (T j).1 ∨ Cond.sameField ref (T j).1 (T j).2.1 (T j).2.2.1 ∈ gtX) : ∀ x, s.fieldFound? (T j).1 (T j).2.1 (T j).2.2.1 = some x → s.fieldFound? ref (T j).2.1 (T j).2.2.1 = some x := by
  intro x hx
  rcases h with rfl | h
  · exact hx
  · exact u_same (hts _ h) x hx
theorem fs_get {ad : Nat → Nat} {Rf : Rd} {D : Dd} {ci k j N : Nat} (h : j < N) : ((List.range N).map (fvX ad Rf D ci k))[j]? = some (fvX ad Rf D ci k j) := by
  simp [h]
theorem fs_set {ad : Nat → Nat} {Rf Rf' : Rd} {D D' : Dd} {ci k j N : Nat} {v : Value} (hv : fvX ad Rf' D' ci k j = v) (ho : ∀ i, i ≠ j → fvX ad Rf' D' ci k i = fvX ad Rf D ci k i) : ((List.range N).map (fvX ad Rf D ci k)).set j v = (List.range N).map (fvX ad Rf' D' ci k) := by
  apply List.ext_getElem?
  intro i
  rw [List.getElem?_set]
  by_cases hi : i < N
  · by_cases hk : j = i
    · subst hk
      simp [hi, hv]
    · rw [if_neg hk]
      simp [hi, ho i (fun z => hk z.symm)]
  · by_cases hk : j = i
    · subst hk
      simp [hi]
    · rw [if_neg hk]
      simp [hi]
theorem fv_I {ad : Nat → Nat} {Rf : Rd} {D : Dd} {ci k j : Nat} (h : frX ci j = false) : fvX ad Rf D ci k j = .int (Int32.ofInt (D k j)) := by
  unfold fvX; rw [if_neg (by rw [h]; decide)]
theorem fv_R {ad : Nat → Nat} {Rf : Rd} {D : Dd} {ci k j : Nat} (h : frX ci j = true) : fvX ad Rf D ci k j = va_rf ((Rf k j).map ad) := by
  unfold fvX; rw [if_pos h]

theorem w_getI {k j ci idx : Nat} {C : String} {T : u_T} {ty : Nat → FieldType} (hX : GX X y cc nL ret dd rc rs) (hc : CLX ci C T ty) (hf : FLX y.cls idx T j) (hk : K k = (0, ci)) (hj : j < nfX ci) (hfr : frX ci j = false) (hd : decode cc pc = .ok (.getfield idx, 3)) (hq : pc + 3 = q) (kk : WW X Q kc ks q ls (vI (D k j) :: st) n K Rf D) : WW X Q kc ks pc ls (vR k :: st) n K Rf D := by
  subst hq
  obtain ⟨p, l, e, R, s, m, args, below, meth, c, dC, dI, cA, ro, scr, A, n0, ad0⟩ := X
  obtain ⟨hx, hb, hml, hown, hts, hlk, hA, hr, hnm, hE, hrm⟩ := hX
  intro ad H locs LS hR hH hls hst hL
  have hkn : k < n := hst.head
  obtain ⟨c1, c2, c3, c4⟩ := hc
  obtain ⟨ref, f1, f2⟩ := hf
  refine va_get (D := (dC, dI)) hx hb hts c2 hown hE.1 hR.2.1 k ((wl_get hkn).trans (by rw [ct_o hk])) c1 j hj (hts _ f1) (fl_same (own := y.cls) (idx := idx) hts f2) (fs_get hj) hd ?_
  rw [fv_I hfr]
  exact kk ad H locs LS hR hH hls (okS.cons (v := vI (D k j)) (hH.int hkn (by rw [hk]; show (0 : Nat) ≠ 2; decide) j) hst.tail) hL

theorem w_getR {k j ci idx : Nat} {C : String} {T : u_T} {ty : Nat → FieldType} {z : Nat} (hX : GX X y cc nL ret dd rc rs) (hc : CLX ci C T ty) (hf : FLX y.cls idx T j) (hk : K k = (0, ci)) (hj : j < nfX ci) (hfr : frX ci j = true) (hv : Rf k j = some z) (hd : decode cc pc = .ok (.getfield idx, 3)) (hq : pc + 3 = q) (kk : WW X Q kc ks q ls (vR z :: st) n K Rf D) : WW X Q kc ks pc ls (vR k :: st) n K Rf D := by
  subst hq
  obtain ⟨p, l, e, R, s, m, args, below, meth, c, dC, dI, cA, ro, scr, A, n0, ad0⟩ := X
  obtain ⟨hx, hb, hml, hown, hts, hlk, hA, hr, hnm, hE, hrm⟩ := hX
  intro ad H locs LS hR hH hls hst hL
  have hkn : k < n := hst.head
  obtain ⟨c1, c2, c3, c4⟩ := hc
  obtain ⟨ref, f1, f2⟩ := hf
  refine va_get (D := (dC, dI)) hx hb hts c2 hown hE.1 hR.2.1 k ((wl_get hkn).trans (by rw [ct_o hk])) c1 j hj (hts _ f1) (fl_same (own := y.cls) (idx := idx) hts f2) (fs_get hj) hd ?_
  rw [fv_R hfr, hv]
  exact kk ad H locs LS hR hH hls (okS.cons (v := vR z) ((hH k hkn).2.2 j z hv) hst.tail) hL

theorem w_putI {k j ci idx : Nat} {C : String} {T : u_T} {ty : Nat → FieldType} {x : Int} (hX : GX X y cc nL ret dd rc rs) (hc : CLX ci C T ty) (hf : FLX y.cls idx T j) (hk : K k = (0, ci)) (hj : j < nfX ci) (hfr : frX ci j = false) (hfin : (T j).2.2.2 = false) (hty : ty j = .int ∨ (ty j = .boolean ∧ (x = 0 ∨ x = 1))) (hd : decode cc pc = .ok (.putfield idx, 3)) (hq : pc + 3 = q) (kk : WW X Q kc ks q ls st n K Rf (upD D k j x)) : WW X Q kc ks pc ls (vI x :: vR k :: st) n K Rf D := by
  subst hq
  obtain ⟨p, l, e, R, s, m, args, below, meth, c, dC, dI, cA, ro, scr, A, n0, ad0⟩ := X
  obtain ⟨hx, hb, hml, hown, hts, hlk, hA, hr, hnm, hE, hrm⟩ := hX
  intro ad H locs LS hR hH hls hst hL
  have hkn : k < n := hst.tail.head
  have hxx : inI x := hst.head
  obtain ⟨c1, c2, c3, c4⟩ := hc
  obtain ⟨ref, f1, f2⟩ := hf
  have hnf : narrow (ty j) (.int (Int32.ofInt x)) = .int (Int32.ofInt x) ∧ fits (ty j) (.int (Int32.ofInt x)) = true := by
    rcases hty with h | ⟨h, rfl | rfl⟩
    · rw [h]; exact ⟨rfl, rfl⟩
    · rw [h]; exact ⟨by decide, by decide⟩
    · rw [h]; exact ⟨by decide, by decide⟩
  refine va_put (D := (dC, dI)) (v := .int (Int32.ofInt x)) hx hb hts c2 ty c3 c4 hown hE.1 hR.2.1 hR.2.2.1 hR.2.2.2 k ((wl_get hkn).trans (by rw [ct_o hk])) c1 j hj (hts _ f1) (fl_same (own := y.cls) (idx := idx) hts f2) hfin (c3 j hj) hnf.1 hnf.2 (by simp; exact hj) hd (fun H1 locs1 h1 h2 h3 => ?_)
  have e : (wlX cA ad n K Rf D).set k (ad k, .inr (ci, ((List.range (nfX ci)).map (fvX ad Rf D ci k)).set j (.int (Int32.ofInt x)))) = wlX cA ad n K Rf (upD D k j x) := by
    refine wl_set ?_ (fun i hi => ct_ne rfl (upD_ne hi))
    rw [ct_o hk, fs_set (Rf' := Rf) (D' := upD D k j x)]
    · rw [fv_I hfr]; simp [upD]
    · intro i hi
      unfold fvX
      simp [upD, hi]
  rw [e] at h1 h2
  exact kk ad H1 locs1 LS ⟨hR.1, h1, h2, h3⟩ (hH.putI (by rw [hk]; show (0 : Nat) ≠ 2; decide) hxx) hls hst.tail.tail hL

theorem w_putR {k j ci idx : Nat} {C : String} {T : u_T} {ty : Nat → FieldType} {z : Nat} (hX : GX X y cc nL ret dd rc rs) (hc : CLX ci C T ty) (hf : FLX y.cls idx T j) (hk : K k = (0, ci)) (hj : j < nfX ci) (hfr : frX ci j = true) (hfin : (T j).2.2.2 = false) (hty : (∃ C', ty j = .object C') ∨ ∃ t', ty j = .array t') (hd : decode cc pc = .ok (.putfield idx, 3)) (hq : pc + 3 = q) (kk : WW X Q kc ks q ls st n K (upR Rf k j (some z)) D) : WW X Q kc ks pc ls (vR z :: vR k :: st) n K Rf D := by
  subst hq
  obtain ⟨p, l, e, R, s, m, args, below, meth, c, dC, dI, cA, ro, scr, A, n0, ad0⟩ := X
  obtain ⟨hx, hb, hml, hown, hts, hlk, hA, hr, hnm, hE, hrm⟩ := hX
  intro ad H locs LS hR hH hls hst hL
  have hkn : k < n := hst.tail.head
  have hzn : z < n := hst.head
  obtain ⟨c1, c2, c3, c4⟩ := hc
  obtain ⟨ref, f1, f2⟩ := hf
  have hnf : narrow (ty j) (.ref (ad z)) = .ref (ad z) ∧ fits (ty j) (.ref (ad z)) = true := by
    rcases hty with ⟨C', h⟩ | ⟨t', h⟩
    · rw [h]; exact ⟨rfl, rfl⟩
    · rw [h]; exact ⟨rfl, rfl⟩
  refine va_put (D := (dC, dI)) (v := .ref (ad z)) hx hb hts c2 ty c3 c4 hown hE.1 hR.2.1 hR.2.2.1 hR.2.2.2 k ((wl_get hkn).trans (by rw [ct_o hk])) c1 j hj (hts _ f1) (fl_same (own := y.cls) (idx := idx) hts f2) hfin (c3 j hj) hnf.1 hnf.2 (by simp; exact hj) hd (fun H1 locs1 h1 h2 h3 => ?_)
  have e : (wlX cA ad n K Rf D).set k (ad k, .inr (ci, ((List.range (nfX ci)).map (fvX ad Rf D ci k)).set j (.ref (ad z)))) = wlX cA ad n K (upR Rf k j (some z)) D := by
    refine wl_set ?_ (fun i hi => ct_ne (upR_ne hi) rfl)
    rw [ct_o hk, fs_set (Rf' := upR Rf k j (some z)) (D' := D)]
    · rw [fv_R hfr]; simp [upR, va_rf]
    · intro i hi
      unfold fvX
      simp [upR, hi]
  rw [e] at h1 h2
  exact kk ad H1 locs1 LS ⟨hR.1, h1, h2, h3⟩ (hH.putR hzn) hls hst.tail.tail hL

theorem w_putRF {k j ci idx : Nat} {C : String} {T : u_T} {ty : Nat → FieldType} {z : Nat} (hX : GX X y cc nL ret dd rc rs) (hc : CLX ci C T ty) (hf : FLX y.cls idx T j) (hk : K k = (0, ci)) (hj : j < nfX ci) (hfr : frX ci j = true) (hfin : (T j).2.2.2 = true) (hdc : (T j).1 = y.cls) (hini : y.name = "<init>") (hty : (∃ C', ty j = .object C') ∨ ∃ t', ty j = .array t') (hd : decode cc pc = .ok (.putfield idx, 3)) (hq : pc + 3 = q) (kk : WW X Q kc ks q ls st n K (upR Rf k j (some z)) D) : WW X Q kc ks pc ls (vR z :: vR k :: st) n K Rf D := by
  subst hq
  obtain ⟨p, l, e, R, s, m, args, below, meth, c, dC, dI, cA, ro, scr, A, n0, ad0⟩ := X
  obtain ⟨hx, hb, hml, hown, hts, hlk, hA, hr, hnm, hE, hrm⟩ := hX
  intro ad H locs LS hR hH hls hst hL
  have hkn : k < n := hst.tail.head
  have hzn : z < n := hst.head
  obtain ⟨c1, c2, c3, c4⟩ := hc
  obtain ⟨ref, f1, f2⟩ := hf
  have hnf : narrow (ty j) (.ref (ad z)) = .ref (ad z) ∧ fits (ty j) (.ref (ad z)) = true := by
    rcases hty with ⟨C', h⟩ | ⟨t', h⟩
    · rw [h]; exact ⟨rfl, rfl⟩
    · rw [h]; exact ⟨rfl, rfl⟩
  refine va_putF (D := (dC, dI)) (v := .ref (ad z)) hx hb hts c2 ty c3 c4 hown hE.1 hR.2.1 hR.2.2.1 hR.2.2.2 k ((wl_get hkn).trans (by rw [ct_o hk])) c1 j hj (hts _ f1) (fl_same (own := y.cls) (idx := idx) hts f2) hfin (hnm.trans hini) hdc (c3 j hj) hnf.1 hnf.2 (by simp; exact hj) hd (fun H1 locs1 h1 h2 h3 => ?_)
  have e : (wlX cA ad n K Rf D).set k (ad k, .inr (ci, ((List.range (nfX ci)).map (fvX ad Rf D ci k)).set j (.ref (ad z)))) = wlX cA ad n K (upR Rf k j (some z)) D := by
    refine wl_set ?_ (fun i hi => ct_ne (upR_ne hi) rfl)
    rw [ct_o hk, fs_set (Rf' := upR Rf k j (some z)) (D' := D)]
    · rw [fv_R hfr]; simp [upR, va_rf]
    · intro i hi
      unfold fvX
      simp [upR, hi]
  rw [e] at h1 h2
  exact kk ad H1 locs1 LS ⟨hR.1, h1, h2, h3⟩ (hH.putR hzn) hls hst.tail.tail hL

theorem w_iald {k N : Nat} {i : Int} (hX : GX X y cc nL ret dd rc rs) (hk : K k = (1, N)) (h0 : 0 ≤ i) (h1 : i < N) (hd : decode cc pc = .ok (.iaload, 1)) (hq : pc + 1 = q) (kk : WW X Q kc ks q ls (vI (D k i.toNat) :: st) n K Rf D) : WW X Q kc ks pc ls (vI i :: vR k :: st) n K Rf D := by
  subst hq
  obtain ⟨p, l, e, R, s, m, args, below, meth, c, dC, dI, cA, ro, scr, A, n0, ad0⟩ := X
  obtain ⟨hx, hb, hml, hown, hts, hlk, hA, hr, hnm, hE, hrm⟩ := hX
  intro ad H locs LS hR hH hls hst hL
  have hi : inI i := hst.head
  have hkn : k < n := hst.tail.head
  refine va_iald (D := (dC, dI)) hx hb hE.1 hR.2.1 k 0 ((wl_get hkn).trans (by rw [ct_i hk])) rfl (ixI h0 h1 hi) hd ?_
  rw [clI hi]
  exact kk ad H locs LS hR hH hls (okS.cons (v := vI (D k i.toNat)) (hH.int hkn (by rw [hk]; show (1 : Nat) ≠ 2; decide) _) hst.tail.tail) hL

theorem w_lald {k N : Nat} {i : Int} (hX : GX X y cc nL ret dd rc rs) (hk : K k = (2, N)) (h0 : 0 ≤ i) (h1 : i < N) (hd : decode cc pc = .ok (.laload, 1)) (hq : pc + 1 = q) (kk : WW X Q kc ks q ls (vL (D k i.toNat) :: st) n K Rf D) : WW X Q kc ks pc ls (vI i :: vR k :: st) n K Rf D := by
  subst hq
  obtain ⟨p, l, e, R, s, m, args, below, meth, c, dC, dI, cA, ro, scr, A, n0, ad0⟩ := X
  obtain ⟨hx, hb, hml, hown, hts, hlk, hA, hr, hnm, hE, hrm⟩ := hX
  intro ad H locs LS hR hH hls hst hL
  have hi : inI i := hst.head
  have hkn : k < n := hst.tail.head
  refine va_lald (D := (dC, dI)) hx hb hE.1 hR.2.1 k 1 ((wl_get hkn).trans (by rw [ct_l hk])) rfl (ixI h0 h1 hi) hd ?_
  rw [clI hi]
  exact kk ad H locs LS hR hH hls (okS.cons (v := vL (D k i.toNat)) ((hH k hkn).2.1 (by rw [hk]) _) hst.tail.tail) hL

theorem w_aald {k N : Nat} {i : Int} {z : Nat} (hX : GX X y cc nL ret dd rc rs) (hk : K k = (3, N)) (h0 : 0 ≤ i) (h1 : i < N) (hv : Rf k i.toNat = some z) (hd : decode cc pc = .ok (.aaload, 1)) (hq : pc + 1 = q) (kk : WW X Q kc ks q ls (vR z :: st) n K Rf D) : WW X Q kc ks pc ls (vI i :: vR k :: st) n K Rf D := by
  subst hq
  obtain ⟨p, l, e, R, s, m, args, below, meth, c, dC, dI, cA, ro, scr, A, n0, ad0⟩ := X
  obtain ⟨hx, hb, hml, hown, hts, hlk, hA, hr, hnm, hE, hrm⟩ := hX
  intro ad H locs LS hR hH hls hst hL
  have hi : inI i := hst.head
  have hkn : k < n := hst.tail.head
  refine va_aldq (D := (dC, dI)) hx hb hE.1 hR.2.1 k 2 ((wl_get hkn).trans (by rw [ct_r hk])) rfl (ixI h0 h1 hi) hd ?_
  rw [clI hi, hv]
  exact kk ad H locs LS hR hH hls (okS.cons (v := vR z) ((hH k hkn).2.2 _ z hv) hst.tail.tail) hL

theorem w_iast {k N : Nat} {i : Int} {x : Int} (hX : GX X y cc nL ret dd rc rs) (hk : K k = (1, N)) (h0 : 0 ≤ i) (h1 : i < N) (hd : decode cc pc = .ok (.iastore, 1)) (hq : pc + 1 = q) (kk : WW X Q kc ks q ls st n K Rf (upD D k i.toNat x)) : WW X Q kc ks pc ls (vI x :: vI i :: vR k :: st) n K Rf D := by
  subst hq
  obtain ⟨p, l, e, R, s, m, args, below, meth, c, dC, dI, cA, ro, scr, A, n0, ad0⟩ := X
  obtain ⟨hx, hb, hml, hown, hts, hlk, hA, hr, hnm, hE, hrm⟩ := hX
  intro ad H locs LS hR hH hls hst hL
  have hxx : inI x := hst.head
  have hi : inI i := hst.tail.head
  have hkn : k < n := hst.tail.tail.head
  refine va_iast (D := (dC, dI)) hx hb hE.1 hR.2.1 hR.2.2.1 hR.2.2.2 k 0 ((wl_get hkn).trans (by rw [ct_i hk])) rfl (ixI h0 h1 hi) hd (fun H1 locs1 h1 h2 h3 => ?_)
  have e : (wlX cA ad n K Rf D).set k (ad k, .inl (cA 0, N, .inl (upd (fun i => Int32.ofInt (D k i)) (Int32.ofInt i).toNatClampNeg (Int32.ofInt x)))) = wlX cA ad n K Rf (upD D k i.toNat x) := by
    refine wl_set ?_ (fun i hi => ct_ne rfl (upD_ne hi))
    rw [ct_i hk, clI hi]
    congr 4
    funext b
    by_cases hb : b = i.toNat <;> simp [upD, upd, hb]
  rw [e] at h1 h2
  exact kk ad H1 locs1 LS ⟨hR.1, h1, h2, h3⟩ (hH.putI (by rw [hk]; show (1 : Nat) ≠ 2; decide) hxx) hls hst.tail.tail.tail hL

theorem w_last {k N : Nat} {i : Int} {x : Int} (hX : GX X y cc nL ret dd rc rs) (hk : K k = (2, N)) (h0 : 0 ≤ i) (h1 : i < N) (hd : decode cc pc = .ok (.lastore, 1)) (hq : pc + 1 = q) (kk : WW X Q kc ks q ls st n K Rf (upD D k i.toNat x)) : WW X Q kc ks pc ls (vL x :: vI i :: vR k :: st) n K Rf D := by
  subst hq
  obtain ⟨p, l, e, R, s, m, args, below, meth, c, dC, dI, cA, ro, scr, A, n0, ad0⟩ := X
  obtain ⟨hx, hb, hml, hown, hts, hlk, hA, hr, hnm, hE, hrm⟩ := hX
  intro ad H locs LS hR hH hls hst hL
  have hxx : inL x := hst.head
  have hi : inI i := hst.tail.head
  have hkn : k < n := hst.tail.tail.head
  refine va_last (D := (dC, dI)) hx hb hE.1 hR.2.1 hR.2.2.1 hR.2.2.2 k 1 ((wl_get hkn).trans (by rw [ct_l hk])) rfl (ixI h0 h1 hi) hd (fun H1 locs1 h1 h2 h3 => ?_)
  have e : (wlX cA ad n K Rf D).set k (ad k, .inl (cA 1, N, .inr (.inl (vp_updL (fun i => Int64.ofInt (D k i)) (Int32.ofInt i).toNatClampNeg (Int64.ofInt x))))) = wlX cA ad n K Rf (upD D k i.toNat x) := by
    refine wl_set ?_ (fun i hi => ct_ne rfl (upD_ne hi))
    rw [ct_l hk, clI hi]
    congr 5
    funext b
    by_cases hb : b = i.toNat <;> simp [upD, vp_updL, hb]
  rw [e] at h1 h2
  exact kk ad H1 locs1 LS ⟨hR.1, h1, h2, h3⟩ (hH.putL (by rw [hk]) hxx) hls hst.tail.tail.tail hL

theorem w_aast {k N : Nat} {i : Int} {z : Nat} (hX : GX X y cc nL ret dd rc rs) (hk : K k = (3, N)) (hz : K z = (0, 2)) (h0 : 0 ≤ i) (h1 : i < N) (hd : decode cc pc = .ok (.aastore, 1)) (hq : pc + 1 = q) (kk : WW X Q kc ks q ls st n K (upR Rf k i.toNat (some z)) D) : WW X Q kc ks pc ls (vR z :: vI i :: vR k :: st) n K Rf D := by
  subst hq
  obtain ⟨p, l, e, R, s, m, args, below, meth, c, dC, dI, cA, ro, scr, A, n0, ad0⟩ := X
  obtain ⟨hx, hb, hml, hown, hts, hlk, hA, hr, hnm, hE, hrm⟩ := hX
  intro ad H locs LS hR hH hls hst hL
  have hzn : z < n := hst.head
  have hi : inI i := hst.tail.head
  have hkn : k < n := hst.tail.tail.head
  refine va_astq (D := (dC, dI)) hx hb hE.1 hR.2.1 hR.2.2.1 hR.2.2.2 k 2 z 2 (r := (RX2, TX2, 4)) ((wl_get hkn).trans (by rw [ct_r hk])) rfl ((wl_get hzn).trans (by rw [ct_o hz])) rfl (ixI h0 h1 hi) hd (fun H1 locs1 h1 h2 h3 => ?_)
  have e : (wlX cA ad n K Rf D).set k (ad k, .inl (cA 2, N, .inr (.inr (.inr (.inr (va_up (fun i => (Rf k i).map ad) (Int32.ofInt i).toNatClampNeg (some (ad z)))))))) = wlX cA ad n K (upR Rf k i.toNat (some z)) D := by
    refine wl_set ?_ (fun i hi => ct_ne (upR_ne hi) rfl)
    rw [ct_r hk, clI hi]
    congr 7
    funext b
    by_cases hb : b = i.toNat <;> simp [upR, va_up, hb]
  rw [e] at h1 h2
  exact kk ad H1 locs1 LS ⟨hR.1, h1, h2, h3⟩ (hH.putR hzn) hls hst.tail.tail.tail hL

theorem w_alen {k N : Nat} (hX : GX X y cc nL ret dd rc rs) (hk : K k = (1, N)) (hN : inI N) (hd : decode cc pc = .ok (.arraylength, 1)) (hq : pc + 1 = q) (kk : WW X Q kc ks q ls (vI N :: st) n K Rf D) : WW X Q kc ks pc ls (vR k :: st) n K Rf D := by
  subst hq
  obtain ⟨p, l, e, R, s, m, args, below, meth, c, dC, dI, cA, ro, scr, A, n0, ad0⟩ := X
  obtain ⟨hx, hb, hml, hown, hts, hlk, hA, hr, hnm, hE, hrm⟩ := hX
  intro ad H locs LS hR hH hls hst hL
  have hkn : k < n := hst.head
  refine va_alen (D := (dC, dI)) hx hb hE.1 hR.2.1 k 0 ((wl_get hkn).trans (by rw [ct_i hk])) rfl (Int32.ofInt_eq_ofNat (n := N)).symm hd ?_
  exact kk ad H locs LS hR hH hls (okS.cons (v := vI N) hN hst.tail) hL

theorem w_sald {k : Nat} {i : Int} (hX : GX X y cc nL ret dd rc rs) (hk : k < 3) (h0 : 0 ≤ i) (h1 : i < (roX X.2.2.2.2.2.2.2.2.2.2.2.2.2.2.1 k).1) (hd : decode cc pc = .ok (.iaload, 1)) (hq : pc + 1 = q) (kk : WW X Q kc ks q ls (vI ((roX X.2.2.2.2.2.2.2.2.2.2.2.2.2.2.1 k).2 i.toNat) :: st) n K Rf D) : WW X Q kc ks pc ls (vI i :: vS k :: st) n K Rf D := by
  subst hq
  obtain ⟨p, l, e, R, s, m, args, below, meth, c, dC, dI, cA, ro, scr, A, n0, ad0⟩ := X
  obtain ⟨hx, hb, hml, hown, hts, hlk, hA, hr, hnm, hE, hrm⟩ := hX
  intro ad H locs LS hR hH hls hst hL
  have hi : inI i := hst.head
  refine va_ti hx hb (hE.2.2.2.2.2.1 k hk) hR.2.2.2 (ixI h0 h1 hi) rfl hd ?_
  rw [clI hi]
  exact kk ad H locs LS hR hH hls (okS.cons (v := vI _) ((hE.2.2.2.2.2.2 k hk).2 _) hst.tail.tail) hL

theorem w_slen {k : Nat} (hX : GX X y cc nL ret dd rc rs) (hk : k < 3) (hd : decode cc pc = .ok (.arraylength, 1)) (hq : pc + 1 = q) (kk : WW X Q kc ks q ls (vI ((roX X.2.2.2.2.2.2.2.2.2.2.2.2.2.2.1 k).1 : Nat) :: st) n K Rf D) : WW X Q kc ks pc ls (vS k :: st) n K Rf D := by
  subst hq
  obtain ⟨p, l, e, R, s, m, args, below, meth, c, dC, dI, cA, ro, scr, A, n0, ad0⟩ := X
  obtain ⟨hx, hb, hml, hown, hts, hlk, hA, hr, hnm, hE, hrm⟩ := hX
  intro ad H locs LS hR hH hls hst hL
  refine va_tlen hx hb (hE.2.2.2.2.2.1 k hk) hR.2.2.2 (Int32.ofInt_eq_ofNat (n := (roX scr k).1)).symm hd ?_
  exact kk ad H locs LS hR hH hls (okS.cons (v := vI _) (by have := (hE.2.2.2.2.2.2 k hk).1; show inI _; dsimp only; omega) hst.tail) hL

theorem w_taken (hX : GX X y cc nL ret dd rc rs) (hy : y.cls = RX6) (hd : decode cc pc = .ok (.getstatic 47, 3)) (hq : pc + 3 = q) (kk : WW X Q kc ks q ls (vS 0 :: st) n K Rf D) : WW X Q kc ks pc ls st n K Rf D := by
  subst hq
  obtain ⟨p, l, e, R, s, m, args, below, meth, c, dC, dI, cA, ro, scr, A, n0, ad0⟩ := X
  obtain ⟨hx, hb, hml, hown, hts, hlk, hA, hr, hnm, hE, hrm⟩ := hX
  intro ad H locs LS hR hH hls hst hL
  refine va_getsN hx hb hE.2.2.2.1 hR.2.2.2 hown (by rw [hy]; exact va_Nw.use rfl (hE.2.1 (.fieldLinkNest RX6 47 "CodeProof" "TAKEN" "[I" "CodeProof") (by simp [nzX]))) (fun _ h => h) hd ?_
  exact kk ad H locs LS hR hH hls (okS.cons (v := vS 0) trivial hst) hL

theorem w_left (hX : GX X y cc nL ret dd rc rs) (hy : y.cls = RX6) (hd : decode cc pc = .ok (.getstatic 50, 3)) (hq : pc + 3 = q) (kk : WW X Q kc ks q ls (vS 1 :: st) n K Rf D) : WW X Q kc ks pc ls st n K Rf D := by
  subst hq
  obtain ⟨p, l, e, R, s, m, args, below, meth, c, dC, dI, cA, ro, scr, A, n0, ad0⟩ := X
  obtain ⟨hx, hb, hml, hown, hts, hlk, hA, hr, hnm, hE, hrm⟩ := hX
  intro ad H locs LS hR hH hls hst hL
  refine va_getsN hx hb hE.2.2.2.2.1 hR.2.2.2 hown (by rw [hy]; exact va_Nw.use rfl (hE.2.1 (.fieldLinkNest RX6 50 "CodeProof" "LEFT" "[I" "CodeProof") (by simp [nzX]))) (fun _ h => h) hd ?_
  exact kk ad H locs LS hR hH hls (okS.cons (v := vS 1) trivial hst) hL

theorem w_widen {kc' ks' : Nat} (h1 : kc ≤ kc') (h2 : ks ≤ ks') (kk : WW X Q kc' ks' pc ls st n K Rf D) : WW X Q kc ks pc ls st n K Rf D := by
  obtain ⟨p, l, e, R, s, m, args, below, meth, c, dC, dI, cA, ro, scr, A, n0, ad0⟩ := X
  intro ad H locs LS hR hH hls hst hL
  exact W.widen h1 h2 (kk ad H locs LS hR hH hls hst hL)
theorem w_ok (kk : okH n K Rf D → okS n ls → okS n st → WW X Q kc ks pc ls st n K Rf D) : WW X Q kc ks pc ls st n K Rf D := by
  obtain ⟨p, l, e, R, s, m, args, below, meth, c, dC, dI, cA, ro, scr, A, n0, ad0⟩ := X
  intro ad H locs LS hR hH hls hst hL
  exact kk hH hls hst ad H locs LS hR hH hls hst hL

end ROWS
