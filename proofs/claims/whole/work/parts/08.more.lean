/-! calls of abstract methods, of a nest mate's constructor, of Object's, Math; new objects and arrays -/
section MORE
variable {X : Cx} {Q : State → Prop} {kc ks pc q : Nat} {ls st : List AV} {n : Nat} {K : Kd} {Rf : Rd} {D : Dd} {y : MethodName} {cc : ByteArray} {nL : Nat} {ret : Option FieldType} {dd rc rs : Nat} {P : Option AV → Nat → Kd → Rd → Dd → Prop}
/-- the words of a call of x, declared by owner without code; the receiver's class C selects z -/
def ALX (own : String) (idx : Nat) (C owner : String) (x z : MethodName) (cz : ByteArray) (mz : Nat) (rz : Option FieldType) (na : Nat) : Prop := (∀ w ∈ ([.methodLink own idx x, .sameMethod x.cls owner x.name x.desc, .selects C x z, .instanceMethod z, .initialized z.cls, .code z cz mz rz] : List Cond), w ∈ gtX) ∧ Cond.declares ⟨owner, x.name, x.desc⟩ ∈ nzX ∧ owner ≠ "java/lang/invoke/MethodHandle" ∧ owner ≠ "java/lang/invoke/VarHandle" ∧ (parseMethodDescriptor x.desc).map (fun d => d.parameters.length) = some na
theorem w_callA {x z : MethodName} {cz : ByteArray} {mz : Nat} {rz : Option FieldType} {na dz mc ms idx k ci : Nat} {As stk : List AV} {C owner : String} {T : u_T} {ty : Nat → FieldType} (hX : GX X y cc nL ret dd rc rs) (hM : MX dz mc ms z cz mz rz (vR k :: As) n K Rf D P) (hv : ALX y.cls idx C owner x z cz mz rz na) (hc : CLX ci C T ty) (hk : K k = (0, ci)) (hn : As.length = na) (hdz : dz + 1 ≤ dd ∧ mz ≤ 17) (hw : (st.map catX).sum ≤ 8) (hf : kc + mc ≤ rc ∧ ks + ms ≤ rs) (hd : decode cc pc = .ok (.invokevirtual idx, 3)) (hq : pc + 3 = q) (hs : As.reverse ++ vR k :: st = stk)
    (kk : ∀ (r : Option AV) (n' : Nat) (K' : Kd) (R' : Rd) (D' : Dd), P r n' K' R' D' → okH n' K' R' D' → WW X Q (kc + mc) (ks + ms) q ls (r.toList ++ st) n' K' R' D') : WW X Q kc ks pc ls stk n K Rf D := by
  subst hq; subst hs
  obtain ⟨p, l, e, R, s, m, args, below, meth, c, dC, dI, cA, ro, scr, A, n0, ad0⟩ := X
  obtain ⟨hx, hb, hml, hown, hts, hlk, hA, hr, hnm, hE, hrm⟩ := hX
  intro ad H locs LS hR hH hls hst hL
  have hkn : okV n (vR k) := hst _ (List.mem_append_right _ List.mem_cons_self)
  have hst2 : okS n st := fun w h => hst w (List.mem_append_right _ (List.mem_cons_of_mem _ h))
  have hAs : okS n As := fun w h => hst w (List.mem_append_left _ (List.mem_reverse.mpr h))
  have hMet := hM l dC dI cA ro scr ad H.size hH (okS.cons hkn hAs)
  obtain ⟨w1, w2, w3⟩ := hv
  have cw := va_cwA (R := R) (s := s) (args := args) (own := y.cls) (index := idx) (C := C) (owner := owner) (x := x) (y := z) (bytes := cz) (maxL := mz) (ret := rz) (ws := .code z cz mz rz :: gtX) (ws' := gtX) (rm := { frames := dz, cells := mc, slots := ms, locals := 36 * dz }) (mc := mc) (ms := ms) na hts (gt_in (fun w h => by
    rcases List.mem_append.mp h with h | h
    · exact w1 w (by simp only [List.mem_cons, List.not_mem_nil, or_false] at h ⊢; rcases h with h | h | h | h | h <;> simp [h])
    · rcases List.mem_cons.mp h with h | h
      · rw [h]; exact w1 _ (by simp)
      · exact h)) rfl rfl rfl (hE.2.1 _ w2) w3 ⟨by rw [hrm.1]; exact hdz.1, by have := hrm.2.1; have := hdz.1; have := hdz.2; show 8 + (mz + 11) + 36 * dz ≤ R.locals; omega⟩
  refine w_after (scr := scr) hA hR hls hst2 hL (va_runU (b := ad k) (As := As.map (val ad ro)) (rest := st.map (val ad ro)) ⟨hx, hb, hml, hown, hts⟩ hMet cw ⟨PX.blind, va_recv hE.1 hR.2.1 hc.1 ((wl_get hkn).trans (by rw [ct_o hk])), fun U hU hW => ⟨rfl, PX.pre hE hA hR U hU hW⟩⟩ rfl (by rw [List.length_map]; exact hn) (by rw [← hml]; exact hL.1) (by show List.map _ _ = _; rw [List.map_append, List.map_reverse]; rfl) (lv_room (by rw [cat_sum]; exact hw)) hd ⟨by rw [hrm.2.2.1]; exact hf.1, by rw [hrm.2.2.2]; exact hf.2⟩) kk
/-- Instruction's private constructor, out of Code -/
def NLX (z : MethodName) (cz : ByteArray) (mz : Nat) (na : Nat) : Prop := (∀ w ∈ ([.instanceMethod z, .initialized z.cls, .code z cz mz none] : List Cond), w ∈ gtX) ∧ z.name = "<init>" ∧ z.cls ≠ "java/lang/invoke/MethodHandle" ∧ z.cls ≠ "java/lang/invoke/VarHandle" ∧ (parseMethodDescriptor z.desc).map (fun d => d.parameters.length) = some na
theorem w_callN {z : MethodName} {cz : ByteArray} {mz : Nat} {na dz mc ms idx k : Nat} {As stk : List AV} {host : String} (hX : GX X y cc nL ret dd rc rs) (hM : MX dz mc ms z cz mz none (vR k :: As) n K Rf D P) (hv : NLX z cz mz na) (hz : Cond.methodLinkNest y.cls idx z host ∈ nzX) (hn : As.length = na) (hdz : dz + 1 ≤ dd ∧ mz ≤ 17) (hw : (st.map catX).sum ≤ 8) (hf : kc + mc ≤ rc ∧ ks + ms ≤ rs) (hd : decode cc pc = .ok (.invokespecial idx, 3)) (hq : pc + 3 = q) (hs : As.reverse ++ vR k :: st = stk)
    (kk : ∀ (r : Option AV) (n' : Nat) (K' : Kd) (R' : Rd) (D' : Dd), P r n' K' R' D' → okH n' K' R' D' → WW X Q (kc + mc) (ks + ms) q ls (r.toList ++ st) n' K' R' D') : WW X Q kc ks pc ls stk n K Rf D := by
  subst hq; subst hs
  obtain ⟨p, l, e, R, s, m, args, below, meth, c, dC, dI, cA, ro, scr, A, n0, ad0⟩ := X
  obtain ⟨hx, hb, hml, hown, hts, hlk, hA, hr, hnm, hE, hrm⟩ := hX
  intro ad H locs LS hR hH hls hst hL
  have hkn : okV n (vR k) := hst _ (List.mem_append_right _ List.mem_cons_self)
  have hst2 : okS n st := fun w h => hst w (List.mem_append_right _ (List.mem_cons_of_mem _ h))
  have hAs : okS n As := fun w h => hst w (List.mem_append_left _ (List.mem_reverse.mpr h))
  have hMet := hM l dC dI cA ro scr ad H.size hH (okS.cons hkn hAs)
  obtain ⟨w1, w2⟩ := hv
  have cw := va_cnB (R := R) (s := s) (args := args) (own := y.cls) (host := host) (index := idx) (y := z) (bytes := cz) (maxL := mz) (ret := none) (ws := .code z cz mz none :: gtX) (ws' := gtX) (rm := { frames := dz, cells := mc, slots := ms, locals := 36 * dz }) (mc := mc) (ms := ms) na hts (gt_in (fun w h => by
    rcases List.mem_cons.mp h with h | h
    · rw [h]; exact w1 _ (by simp)
    · exact h)) rfl rfl rfl (hE.2.1 _ hz) (hts _ (w1 _ (by simp))) w2.2 ⟨by rw [hrm.1]; exact hdz.1, by have := hrm.2.1; have := hdz.1; have := hdz.2; show 8 + (mz + 11) + 36 * dz ≤ R.locals; omega⟩
  refine w_after (scr := scr) hA hR hls hst2 hL (va_runIN (b := ad k) (As := As.map (val ad ro)) (rest := st.map (val ad ro)) ⟨hx, hb, hml, hown, hts⟩ hMet ⟨cw, w2.1, hts _ (w1 _ (by simp))⟩ ⟨PX.blind, fun U hU hW => ⟨rfl, PX.pre hE hA hR U hU hW⟩⟩ rfl (by rw [List.length_map]; exact hn) (by rw [← hml]; exact hL.1) (by show List.map _ _ = _; rw [List.map_append, List.map_reverse]; rfl) (lv_room (by rw [cat_sum]; exact hw)) hd ⟨by rw [hrm.2.2.1]; exact hf.1, by rw [hrm.2.2.2]; exact hf.2⟩) kk
theorem oi_words : Cond.instanceMethod objectInit ∈ gtX ∧ Cond.code objectInit ⟨#[0xb1]⟩ 1 none ∈ gtX := by
  constructor <;> exact List.mem_filter.mpr ⟨by decide +kernel, by decide +kernel⟩
theorem w_objInit {k idx : Nat} (hX : GX X y cc nL ret dd rc rs) (hv : Cond.methodLink y.cls idx objectInit ∈ gtX) (hdd : 1 ≤ dd) (hw : (st.map catX).sum ≤ 8) (hd : decode cc pc = .ok (.invokespecial idx, 3)) (hq : pc + 3 = q) (kk : WW X Q kc ks q ls st n K Rf D) : WW X Q kc ks pc ls (vR k :: st) n K Rf D := by
  subst hq
  obtain ⟨p, l, e, R, s, m, args, below, meth, c, dC, dI, cA, ro, scr, A, n0, ad0⟩ := X
  obtain ⟨hx, hb, hml, hown, hts, hlk, hA, hr, hnm, hE, hrm⟩ := hX
  intro ad H locs LS hR hH hls hst hL
  refine W.objInit hx hb hown (hts _ hv) (hts _ oi_words.1) (hts _ oi_words.2) rfl hL.1 rfl hd (by rw [hrm.1]; exact hdd) ?_ (kk ad H locs LS hR hH hls hst.tail hL)
  show 2 * 0 + ((st.map (val ad ro)).map fun v => v.category).sum + 12 ≤ R.locals
  rw [cat_sum]
  have := hrm.2.1
  omega
theorem w_min {idx : Nat} {x z : Int} (hX : GX X y cc nL ret dd rc rs) (hv : ∀ w ∈ ([.methodLink y.cls idx Lib.Math.min.name, .static Lib.Math.min.name, .initialized "java/lang/Math", .code Lib.Math.min.name Lib.Math.min.code 2 (some .int)] : List Cond), w ∈ gtX) (hdd : 1 ≤ dd) (hw : (st.map catX).sum ≤ 8) (hf : kc ≤ rc ∧ ks ≤ rs) (hd : decode cc pc = .ok (.invokestatic idx, 3)) (hq : pc + 3 = q) (kk : WW X Q kc ks q ls (vI (if z < x then z else x) :: st) n K Rf D) : WW X Q kc ks pc ls (vI z :: vI x :: st) n K Rf D := by
  subst hq
  obtain ⟨p, l, e, R, s, m, args, below, meth, c, dC, dI, cA, ro, scr, A, n0, ad0⟩ := X
  obtain ⟨hx, hb, hml, hown, hts, hlk, hA, hr, hnm, hE, hrm⟩ := hX
  intro ad H locs LS hR hH hls hst hL
  have hz : inI z := hst.head
  have hxx : inI x := hst.tail.head
  refine va_mmin hx hb hL.1.symm hown (hts _ (hv _ (by simp))) (hts _ (hv _ (by simp))) (hts _ (hv _ (by simp))) (hts _ (hv _ (by simp))) (by rw [hrm.1]; exact hdd) (by rw [cat_sum]; have := hrm.2.1; omega) (by rw [hrm.2.2.1]; exact hf.1) (by rw [hrm.2.2.2]; exact hf.2) hd ?_
  have e1 : (if Int32.ofInt z < Int32.ofInt x then Int32.ofInt z else Int32.ofInt x) = Int32.ofInt (if z < x then z else x) := by
    by_cases h : z < x
    · rw [if_pos h, if_pos ((ltI hz hxx).mpr h)]
    · rw [if_neg h, if_neg (fun w => h ((ltI hz hxx).mp w))]
  rw [e1]
  exact kk ad H locs LS hR hH hls (okS.cons (v := vI (if z < x then z else x)) (by show inI _; split <;> assumption) hst.tail.tail) hL
theorem w_max {idx : Nat} {x z : Int} (hX : GX X y cc nL ret dd rc rs) (hv : ∀ w ∈ ([.methodLink y.cls idx Lib.Math.max.name, .static Lib.Math.max.name, .initialized "java/lang/Math", .code Lib.Math.max.name Lib.Math.max.code 2 (some .int)] : List Cond), w ∈ gtX) (hdd : 1 ≤ dd) (hw : (st.map catX).sum ≤ 8) (hf : kc ≤ rc ∧ ks ≤ rs) (hd : decode cc pc = .ok (.invokestatic idx, 3)) (hq : pc + 3 = q) (kk : WW X Q kc ks q ls (vI (if x < z then z else x) :: st) n K Rf D) : WW X Q kc ks pc ls (vI z :: vI x :: st) n K Rf D := by
  subst hq
  obtain ⟨p, l, e, R, s, m, args, below, meth, c, dC, dI, cA, ro, scr, A, n0, ad0⟩ := X
  obtain ⟨hx, hb, hml, hown, hts, hlk, hA, hr, hnm, hE, hrm⟩ := hX
  intro ad H locs LS hR hH hls hst hL
  have hz : inI z := hst.head
  have hxx : inI x := hst.tail.head
  refine va_mmax hx hb hL.1.symm hown (hts _ (hv _ (by simp))) (hts _ (hv _ (by simp))) (hts _ (hv _ (by simp))) (hts _ (hv _ (by simp))) (by rw [hrm.1]; exact hdd) (by rw [cat_sum]; have := hrm.2.1; omega) (by rw [hrm.2.2.1]; exact hf.1) (by rw [hrm.2.2.2]; exact hf.2) hd ?_
  have e1 : (if Int32.ofInt x < Int32.ofInt z then Int32.ofInt z else Int32.ofInt x) = Int32.ofInt (if x < z then z else x) := by
    by_cases h : x < z
    · rw [if_pos h, if_pos ((ltI hxx hz).mpr h)]
    · rw [if_neg h, if_neg (fun w => h ((ltI hxx hz).mp w))]
  rw [e1]
  exact kk ad H locs LS hR hH hls (okS.cons (v := vI (if x < z then z else x)) (by show inI _; split <;> assumption) hst.tail.tail) hL
/-! new cells -/
theorem ad_new {n : Nat} {ad : Nat → Nat} (q : Nat) : ∀ k, k < n → va_up ad n q k = ad k := fun k hk => va_up_ne ad q (by omega)
theorem w_new {idx ci : Nat} {C : String} {T : u_T} {ty : Nat → FieldType} (hX : GX X y cc nL ret dd rc rs) (hc : CLX ci C T ty) (hty : ∀ j, j < nfX ci → defaultValue (ty j) = if frX ci j = true then .null else .int 0) (hv : ∀ w ∈ ([.classLink y.cls idx C, .instantiable C (nfX ci), .initialized C] : List Cond), w ∈ gtX) (hf : kc + 1 ≤ rc ∧ ks + nfX ci ≤ rs) (hd : decode cc pc = .ok (.new idx, 3)) (hq : pc + 3 = q)
    (kk : WW X Q (kc + 1) (ks + nfX ci) q ls (vR n :: st) (n + 1) (upK K n (0, ci)) (nwR Rf n) (nwD D n)) : WW X Q kc ks pc ls st n K Rf D := by
  subst hq
  obtain ⟨p, l, e, R, s, m, args, below, meth, c, dC, dI, cA, ro, scr, A, n0, ad0⟩ := X
  obtain ⟨hx, hb, hml, hown, hts, hlk, hA, hr, hnm, hE, hrm⟩ := hX
  intro ad H locs LS hR hH hls hst hL
  obtain ⟨c1, c2, c3, c4⟩ := hc
  refine va_new (D := (dC, dI)) (fs := (List.range (nfX ci)).map (fun j => if frX ci j = true then Value.null else Value.int 0)) hx hb hts c2 ty c3 hown (hts _ (hv _ (by simp))) (hts _ (hv _ (by simp))) (hts _ (hv _ (by simp))) hE.1 hR.2.1 hR.2.2.1 hR.2.2.2 hA c1 (fun j hj => by rw [hty j hj]; simp [vp_V, hj]) (by rw [hrm.2.2.1]; exact hf.1) (by rw [hrm.2.2.2]; exact hf.2) hd (fun z H1 h1 h2 h3 => ?_)
  have hct : ctX cA (va_up ad n z) (upK K n (0, ci)) (nwR Rf n) (nwD D n) n = .inr (ci, (List.range (nfX ci)).map (fun j => if frX ci j = true then Value.null else Value.int 0)) := by
    rw [ct_o (ci := ci) (by simp [upK])]
    congr 2
    apply List.map_congr_left
    intro j _
    unfold fvX
    simp only [nwR, nwD, if_pos, Option.map_none, va_rf, ofI0]
  have e1 := wl_push (cA := cA) (ad := ad) hH z (0, ci)
  rw [hct] at e1
  rw [← e1] at h1 h2
  have k1 := kk (va_up ad n z) H1 locs LS ⟨⟨Nat.le_succ_of_le hR.1.1, fun k hk => (ad_new z k (Nat.lt_of_lt_of_le hk hR.1.1)).trans (hR.1.2 k hk)⟩, h1, h2, h3⟩ (hH.new (0, ci)) (fun w hw => (hls w hw).mono (Nat.le_succ n)) (okS.cons (v := vR n) (Nat.lt_succ_self n) (fun w hw => (hst w hw).mono (Nat.le_succ n))) (hL.mv (ad_new z) hls)
  rw [List.map_cons, st_mv (ad_new z) hst, show val (va_up ad n z) ro (vR n) = .ref z from congrArg Value.ref (va_up_self ad n z)] at k1
  exact k1
theorem w_newI {N : Nat} (hX : GX X y cc nL ret dd rc rs) (hv : Cond.arrayClass .int ∈ gtX) (hN : N ≤ 100000) (hf : kc + 1 ≤ rc ∧ ks + N ≤ rs) (hd : decode cc pc = .ok (.newarray .int, 2)) (hq : pc + 2 = q)
    (kk : WW X Q (kc + 1) (ks + N) q ls (vR n :: st) (n + 1) (upK K n (1, N)) (nwR Rf n) (nwD D n)) : WW X Q kc ks pc ls (vI N :: st) n K Rf D := by
  subst hq
  obtain ⟨p, l, e, R, s, m, args, below, meth, c, dC, dI, cA, ro, scr, A, n0, ad0⟩ := X
  obtain ⟨hx, hb, hml, hown, hts, hlk, hA, hr, hnm, hE, hrm⟩ := hX
  intro ad H locs LS hR hH hls hst hL
  have hi : inI (N : Int) := hst.head
  refine va_newa (D := (dC, dI)) (atype := .int) (ty := .int) (N' := N) (a0 := (N, .inl (fun _ => Int32.ofInt 0))) hx hb (hts _ hv) rfl hE.1 hR.2.1 hR.2.2.1 hR.2.2.2 hA (fun cA => by rw [ofI0]; rfl) (fun h => by rw [← ofI0, ltI hi in0] at h; omega) (by rw [clI hi]; simp) (by show N * 4 ≤ _; omega) (by rw [hrm.2.2.1]; exact hf.1) (by rw [hrm.2.2.2]; exact hf.2) hd (fun z cB H1 hK1 h1 h2 h3 => ?_)
  have hcB : cB = cA 0 := by
    have a1 : s.vm.findClass ("[" ++ FieldType.int.toString) = some cB := (hK1.2 3 (cB, .int) rfl).2
    have a2 : s.vm.findClass ("[" ++ FieldType.int.toString) = some (cA 0) := (hE.1.2 0 (cA 0, .int) rfl).2
    exact Option.some.inj (a1.symm.trans a2)
  have hct : ctX cA (va_up ad n z) (upK K n (1, N)) (nwR Rf n) (nwD D n) n = .inl (cB, N, .inl (fun _ => Int32.ofInt 0)) := by
    rw [ct_i (N := N) (by simp [upK]), hcB]
    simp only [nwD, if_pos]
  have e1 := wl_push (cA := cA) (ad := ad) hH z (1, N)
  rw [hct] at e1
  rw [← e1] at h1 h2
  have k1 := kk (va_up ad n z) H1 locs LS ⟨⟨Nat.le_succ_of_le hR.1.1, fun k hk => (ad_new z k (Nat.lt_of_lt_of_le hk hR.1.1)).trans (hR.1.2 k hk)⟩, h1, h2, h3⟩ (hH.new (1, N)) (fun w hw => (hls w hw).mono (Nat.le_succ n)) (okS.cons (v := vR n) (Nat.lt_succ_self n) (fun w hw => (hst.tail w hw).mono (Nat.le_succ n))) (hL.mv (ad_new z) hls)
  rw [List.map_cons, st_mv (ad_new z) hst.tail, show val (va_up ad n z) ro (vR n) = .ref z from congrArg Value.ref (va_up_self ad n z)] at k1
  exact k1
theorem w_newL {N : Nat} (hX : GX X y cc nL ret dd rc rs) (hv : Cond.arrayClass .long ∈ gtX) (hN : N ≤ 100000) (hf : kc + 1 ≤ rc ∧ ks + N ≤ rs) (hd : decode cc pc = .ok (.newarray .long, 2)) (hq : pc + 2 = q)
    (kk : WW X Q (kc + 1) (ks + N) q ls (vR n :: st) (n + 1) (upK K n (2, N)) (nwR Rf n) (nwD D n)) : WW X Q kc ks pc ls (vI N :: st) n K Rf D := by
  subst hq
  obtain ⟨p, l, e, R, s, m, args, below, meth, c, dC, dI, cA, ro, scr, A, n0, ad0⟩ := X
  obtain ⟨hx, hb, hml, hown, hts, hlk, hA, hr, hnm, hE, hrm⟩ := hX
  intro ad H locs LS hR hH hls hst hL
  have hi : inI (N : Int) := hst.head
  refine va_newa (D := (dC, dI)) (atype := .long) (ty := .long) (N' := N) (a0 := (N, .inr (.inl (fun _ => Int64.ofInt 0)))) hx hb (hts _ hv) rfl hE.1 hR.2.1 hR.2.2.1 hR.2.2.2 hA (fun cA => rfl) (fun h => by rw [← ofI0, ltI hi in0] at h; omega) (by rw [clI hi]; simp) (by show N * 8 ≤ _; omega) (by rw [hrm.2.2.1]; exact hf.1) (by rw [hrm.2.2.2]; exact hf.2) hd (fun z cB H1 hK1 h1 h2 h3 => ?_)
  have hcB : cB = cA 1 := by
    have a1 : s.vm.findClass ("[" ++ FieldType.long.toString) = some cB := (hK1.2 3 (cB, .long) rfl).2
    have a2 : s.vm.findClass ("[" ++ FieldType.long.toString) = some (cA 1) := (hE.1.2 1 (cA 1, .long) rfl).2
    exact Option.some.inj (a1.symm.trans a2)
  have hct : ctX cA (va_up ad n z) (upK K n (2, N)) (nwR Rf n) (nwD D n) n = .inl (cB, N, .inr (.inl (fun _ => Int64.ofInt 0))) := by
    rw [ct_l (N := N) (by simp [upK]), hcB]
    simp only [nwD, if_pos]
  have e1 := wl_push (cA := cA) (ad := ad) hH z (2, N)
  rw [hct] at e1
  rw [← e1] at h1 h2
  have k1 := kk (va_up ad n z) H1 locs LS ⟨⟨Nat.le_succ_of_le hR.1.1, fun k hk => (ad_new z k (Nat.lt_of_lt_of_le hk hR.1.1)).trans (hR.1.2 k hk)⟩, h1, h2, h3⟩ (hH.new (2, N)) (fun w hw => (hls w hw).mono (Nat.le_succ n)) (okS.cons (v := vR n) (Nat.lt_succ_self n) (fun w hw => (hst.tail w hw).mono (Nat.le_succ n))) (hL.mv (ad_new z) hls)
  rw [List.map_cons, st_mv (ad_new z) hst.tail, show val (va_up ad n z) ro (vR n) = .ref z from congrArg Value.ref (va_up_self ad n z)] at k1
  exact k1
theorem w_newR {N idx : Nat} (hX : GX X y cc nL ret dd rc rs) (hv : Cond.classLink y.cls idx RX2 ∈ gtX) (hN : N ≤ 100000) (hf : kc + 1 ≤ rc ∧ ks + N ≤ rs) (hd : decode cc pc = .ok (.anewarray idx, 3)) (hq : pc + 3 = q)
    (kk : WW X Q (kc + 1) (ks + N) q ls (vR n :: st) (n + 1) (upK K n (3, N)) (nwR Rf n) (nwD D n)) : WW X Q kc ks pc ls (vI N :: st) n K Rf D := by
  subst hq
  obtain ⟨p, l, e, R, s, m, args, below, meth, c, dC, dI, cA, ro, scr, A, n0, ad0⟩ := X
  obtain ⟨hx, hb, hml, hown, hts, hlk, hA, hr, hnm, hE, hrm⟩ := hX
  intro ad H locs LS hR hH hls hst hL
  have hi : inI (N : Int) := hst.head
  refine va_newq (D := (dC, dI)) (C := RX2) (N' := N) hx hb hown (hts _ hv) hE.2.2.1 hE.1 hR.2.1 hR.2.2.1 hR.2.2.2 hA (fun h => by rw [← ofI0, ltI hi in0] at h; omega) (by rw [clI hi]; simp) (by omega) (by rw [hrm.2.2.1]; exact hf.1) (by rw [hrm.2.2.2]; exact hf.2) hd (fun z cB H1 hK1 h1 h2 h3 => ?_)
  have hcB : cB = cA 2 := by
    obtain ⟨_, _, _, _, _, a1⟩ : ∃ (kA : Class) (comp : ClassId), s.vm.classes[cB]? = some kA ∧ kA.kind = .array comp (.object RX2) ∧ s.vm.findClass RX2 = some comp ∧ s.vm.findClass ("[" ++ (FieldType.object RX2).toString) = some cB := (hK1.2 3 (cB, .object RX2) rfl).2
    obtain ⟨_, _, _, _, _, a2⟩ : ∃ (kA : Class) (comp : ClassId), s.vm.classes[cA 2]? = some kA ∧ kA.kind = .array comp (.object RX2) ∧ s.vm.findClass RX2 = some comp ∧ s.vm.findClass ("[" ++ (FieldType.object RX2).toString) = some (cA 2) := (hE.1.2 2 (cA 2, .object RX2) rfl).2
    exact Option.some.inj (a1.symm.trans a2)
  have hct : ctX cA (va_up ad n z) (upK K n (3, N)) (nwR Rf n) (nwD D n) n = .inl (cB, N, .inr (.inr (.inr (.inr (fun _ => none))))) := by
    rw [ct_r (N := N) (by simp [upK]), hcB]
    simp only [nwR, if_pos, Option.map_none]
  have e1 := wl_push (cA := cA) (ad := ad) hH z (3, N)
  rw [hct] at e1
  rw [← e1] at h1 h2
  have k1 := kk (va_up ad n z) H1 locs LS ⟨⟨Nat.le_succ_of_le hR.1.1, fun k hk => (ad_new z k (Nat.lt_of_lt_of_le hk hR.1.1)).trans (hR.1.2 k hk)⟩, h1, h2, h3⟩ (hH.new (3, N)) (fun w hw => (hls w hw).mono (Nat.le_succ n)) (okS.cons (v := vR n) (Nat.lt_succ_self n) (fun w hw => (hst.tail w hw).mono (Nat.le_succ n))) (hL.mv (ad_new z) hls)
  rw [List.map_cons, st_mv (ad_new z) hst.tail, show val (va_up ad n z) ro (vR n) = .ref z from congrArg Value.ref (va_up_self ad n z)] at k1
  exact k1
end MORE
