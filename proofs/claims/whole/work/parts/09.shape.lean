/-! THE WORLD behind the two constructors: labels, kinds, references; contracts of methods that make nothing. -/
def K0 : Kd := fun k => if 8 ≤ k ∧ k < 264 then (0, 2) else match k with
  | 0 => (0, 8) | 1 => (0, 0) | 2 => (3, 256) | 3 => (0, 2) | 4 => (1, 16) | 5 => (1, 16) | 6 => (1, 16) | 7 => (1, 16)
  | 264 => (0, 4) | 265 => (0, 1) | 266 => (0, 3) | 267 => (1, 256) | 268 => (0, 5) | 269 => (1, 257) | 270 => (1, 16) | 271 => (0, 7) | 272 => (2, 257) | 273 => (2, 256) | 274 => (1, 16)
  | 275 => (0, 6) | 276 => (1, 256) | 277 => (1, 16) | 278 => (1, 16)
  | 279 => (0, 9) | 280 => (1, 16) | 281 => (1, 16) | 282 => (1, 17) | 283 => (1, 256) | 284 => (1, 256) | 285 => (1, 256) | 286 => (1, 256) | 287 => (1, 257) | 288 => (2, 257) | 289 => (2, 256) | 290 => (2, 16) | 291 => (1, 16) | 292 => (1, 4096) | 293 => (1, 20) | 294 => (1, 20) | 295 => (1, 20)
  | _ => (0, 0)
def R0 : Rd := fun k j => match k with
  | 0 => (match j with | 0 => some 1 | 1 => some 264 | 2 => some 275 | _ => none)
  | 1 => (match j with | 0 => some 2 | 1 => some 3 | 2 => some 4 | 3 => some 5 | 4 => some 6 | 5 => some 7 | _ => none)
  | 2 => if j < 256 then some (8 + j) else none
  | 264 => (match j with | 0 => some 1 | 1 => some 265 | 2 => some 266 | 3 => some 268 | 4 => some 271 | _ => none)
  | 265 => (match j with | 0 => some 1 | _ => none)
  | 266 => (match j with | 0 => some 1 | 1 => some 267 | _ => none)
  | 268 => (match j with | 0 => some 1 | 1 => some 269 | 2 => some 270 | _ => none)
  | 271 => (match j with | 0 => some 1 | 1 => some 272 | 2 => some 273 | 3 => some 274 | _ => none)
  | 275 => (match j with | 0 => some 1 | 1 => some 276 | 2 => some 277 | 3 => some 278 | _ => none)
  | 279 => (match j with | 2 => some 280 | 3 => some 281 | 4 => some 282 | 6 => some 283 | 7 => some 284 | 8 => some 285 | 9 => some 286 | 12 => some 287 | 13 => some 288 | 14 => some 289 | 15 => some 290 | 16 => some 291 | 21 => some 292 | 22 => some 293 | 23 => some 294 | 24 => some 295 | _ => none)
  | _ => none
/-- an Instruction: one of the 256, or the one that is none -/
def isIns (k : Nat) : Prop := k = 3 ∨ (8 ≤ k ∧ k < 264)
theorem K0_ins {k : Nat} (h : isIns k) : K0 k = (0, 2) := by
  rcases h with rfl | h
  · rfl
  · unfold K0; rw [if_pos h]
abbrev W0 (X : Cx) (Q : State → Prop) (pc : Nat) (ls st : List AV) (D : Dd) : Prop := WW X Q 0 0 pc ls st 296 K0 R0 D
def MC (d : Nat) (y : MethodName) (cc : ByteArray) (maxL : Nat) (ret : Option FieldType) (As : List AV) (D : Dd) (P : Option AV → Dd → Prop) : Prop := MX d 0 0 y cc maxL ret As 296 K0 R0 D (fun r n' K' R' D' => n' = 296 ∧ K' = K0 ∧ R' = R0 ∧ P r D')
/-- the answer is r, the numbers behind it are D' -/
abbrev Is (r : Option AV) (D' : Dd) : Option AV → Dd → Prop := fun r2 D2 => r = r2 ∧ D' = D2
def FX (X : Cx) (Q : State → Prop) (P : Option AV → Dd → Prop) : Prop := FinX X Q 0 0 (fun r n' K' R' D' => n' = 296 ∧ K' = K0 ∧ R' = R0 ∧ P r D')
theorem MC.mk {d : Nat} {y : MethodName} {cc : ByteArray} {maxL : Nat} {ret : Option FieldType} {As : List AV} {D : Dd} {P : Option AV → Dd → Prop} (ls0 : List AV) (hy : plainName y.cls = true) (hlen : (enX As).length ≤ maxL) (hls : enX As ++ List.replicate (maxL - (enX As).length) vN = ls0)
    (body : ∀ (X : Cx) (Q : State → Prop), GX X y cc maxL ret d 0 0 → FX X Q P → okH 296 K0 R0 D → okS 296 ls0 → W0 X Q 0 ls0 [] D) : MC d y cc maxL ret As D P :=
  MX.mk ls0 hy hlen hls (fun X Q hX hF => w_ok (fun h1 h2 _ => body X Q hX hF h1 h2))
section C0
variable {X : Cx} {Q : State → Prop} {pc q : Nat} {ls st : List AV} {D : Dd} {y : MethodName} {cc : ByteArray} {nL : Nat} {ret : Option FieldType} {dd : Nat} {P : Option AV → Dd → Prop}
theorem e_i {x : Int} (hX : GX X y cc nL (some .int) dd 0 0) (hF : FX X Q P) (hd : decode cc pc = .ok (.ireturn, 1)) (hP : P (some (vI x)) D) : W0 X Q pc ls [vI x] D := w_iret hX hF hd ⟨rfl, rfl, rfl, hP⟩
theorem e_z {x : Int} (hX : GX X y cc nL (some .boolean) dd 0 0) (hF : FX X Q P) (hd : decode cc pc = .ok (.ireturn, 1)) (h01 : x = 0 ∨ x = 1) (hP : P (some (vI x)) D) : W0 X Q pc ls [vI x] D := w_zret hX hF hd h01 ⟨rfl, rfl, rfl, hP⟩
theorem e_l {x : Int} (hX : GX X y cc nL (some .long) dd 0 0) (hF : FX X Q P) (hd : decode cc pc = .ok (.lreturn, 1)) (hP : P (some (vL x)) D) : W0 X Q pc ls [vL x] D := w_lret hX hF hd ⟨rfl, rfl, rfl, hP⟩
theorem e_a {k : Nat} {C : String} (hX : GX X y cc nL (some (.object C)) dd 0 0) (hF : FX X Q P) (hd : decode cc pc = .ok (.areturn, 1)) (hP : P (some (vR k)) D) : W0 X Q pc ls [vR k] D := w_aret hX hF hd ⟨rfl, rfl, rfl, hP⟩
theorem e_v (hX : GX X y cc nL none dd 0 0) (hF : FX X Q P) (hd : decode cc pc = .ok (.return_, 1)) (hP : P none D) : W0 X Q pc ls [] D := w_vret hX hF hd ⟨rfl, rfl, rfl, hP⟩
theorem c_V {z : MethodName} {cz : ByteArray} {mz : Nat} {rz : Option FieldType} {na dz idx k ci : Nat} {As stk : List AV} {C : String} {T : u_T} {ty : Nat → FieldType} (hX : GX X y cc nL ret dd 0 0) (hv : VLX y.cls idx C z cz mz rz na) (hc : CLX ci C T ty) (hd : decode cc pc = .ok (.invokevirtual idx, 3)) (hq : pc + 3 = q) (hM : MC dz z cz mz rz (vR k :: As) D P) (hs : As.reverse ++ vR k :: st = stk) (hk : K0 k = (0, ci)) (hn : As.length = na) (hdz : dz + 1 ≤ dd ∧ mz ≤ 17) (hw : (st.map catX).sum ≤ 8)
    (kk : ∀ (r : Option AV) (D' : Dd), P r D' → okH 296 K0 R0 D' → W0 X Q q ls (r.toList ++ st) D') : W0 X Q pc ls stk D :=
  w_callV hX hM hv hc hk hn hdz hw ⟨Nat.le_refl _, Nat.le_refl _⟩ hd hq hs (fun r n' K' R' D' hP hH => by
    obtain ⟨rfl, rfl, rfl, hP⟩ := hP
    exact kk r D' hP hH)
theorem c_A {x z : MethodName} {cz : ByteArray} {mz : Nat} {rz : Option FieldType} {na dz idx k ci : Nat} {As stk : List AV} {C owner : String} {T : u_T} {ty : Nat → FieldType} (hX : GX X y cc nL ret dd 0 0) (hv : ALX y.cls idx C owner x z cz mz rz na) (hc : CLX ci C T ty) (hd : decode cc pc = .ok (.invokevirtual idx, 3)) (hq : pc + 3 = q) (hM : MC dz z cz mz rz (vR k :: As) D P) (hs : As.reverse ++ vR k :: st = stk) (hk : K0 k = (0, ci)) (hn : As.length = na) (hdz : dz + 1 ≤ dd ∧ mz ≤ 17) (hw : (st.map catX).sum ≤ 8)
    (kk : ∀ (r : Option AV) (D' : Dd), P r D' → okH 296 K0 R0 D' → W0 X Q q ls (r.toList ++ st) D') : W0 X Q pc ls stk D :=
  w_callA hX hM hv hc hk hn hdz hw ⟨Nat.le_refl _, Nat.le_refl _⟩ hd hq hs (fun r n' K' R' D' hP hH => by
    obtain ⟨rfl, rfl, rfl, hP⟩ := hP
    exact kk r D' hP hH)
theorem c_S {z : MethodName} {cz : ByteArray} {mz : Nat} {rz : Option FieldType} {na dz idx : Nat} {As stk : List AV} (hX : GX X y cc nL ret dd 0 0) (hv : SLX y.cls idx z cz mz rz na) (hd : decode cc pc = .ok (.invokestatic idx, 3)) (hq : pc + 3 = q) (hM : MC dz z cz mz rz As D P) (hs : As.reverse ++ st = stk) (hn : As.length = na) (hdz : dz + 1 ≤ dd ∧ mz ≤ 17) (hw : (st.map catX).sum ≤ 8)
    (kk : ∀ (r : Option AV) (D' : Dd), P r D' → okH 296 K0 R0 D' → W0 X Q q ls (r.toList ++ st) D') : W0 X Q pc ls stk D :=
  w_callS hX hM hv hn hdz hw ⟨Nat.le_refl _, Nat.le_refl _⟩ hd hq hs (fun r n' K' R' D' hP hH => by
    obtain ⟨rfl, rfl, rfl, hP⟩ := hP
    exact kk r D' hP hH)
end C0
theorem upD_eq (D : Dd) (k j : Nat) (x : Int) : upD D k j x k j = x := by simp [upD]
theorem upD_k {D : Dd} {k j : Nat} {x : Int} {a b : Nat} (h : a ≠ k) : upD D k j x a b = D a b := by simp [upD, h]
theorem upD_j {D : Dd} {k j : Nat} {x : Int} {b : Nat} (h : b ≠ j) : upD D k j x k b = D k b := by simp [upD, h]
theorem w_nameI {X : Cx} {Q : State → Prop} {kc ks pc : Nat} {ls st : List AV} {n : Nat} {K : Kd} {Rf : Rd} {D : Dd} {x : Int} (k : ∀ y : Int, y = x → WW X Q kc ks pc ls (vI y :: st) n K Rf D) : WW X Q kc ks pc ls (vI x :: st) n K Rf D := k x rfl
theorem w_nameL {X : Cx} {Q : State → Prop} {kc ks pc : Nat} {ls st : List AV} {n : Nat} {K : Kd} {Rf : Rd} {D : Dd} {x : Int} (k : ∀ y : Int, y = x → WW X Q kc ks pc ls (vL y :: st) n K Rf D) : WW X Q kc ks pc ls (vL x :: st) n K Rf D := k x rfl
