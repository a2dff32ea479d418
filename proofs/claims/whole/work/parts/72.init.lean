/-! Constructors -/
theorem upK_id {K : Kd} {n : Nat} {x : Nat × Nat} (h : K n = x) : upK K n x = K := by
  funext a
  unfold upK
  by_cases e : a = n
  · rw [if_pos e, e, h]
  · rw [if_neg e]
section VNEW
variable {X : Cx} {Q : State → Prop} {kc ks pc q : Nat} {ls st : List AV} {n : Nat} {K : Kd} {Rf : Rd} {D : Dd} {y : MethodName} {cc : ByteArray} {nL : Nat} {ret : Option FieldType} {dd rc rs : Nat}
theorem v_new {idx ci n1 kc1 ks1 : Nat} {C : String} {T : u_T} {ty : Nat → FieldType} (hX : GX X y cc nL ret dd rc rs) (hc : CLX ci C T ty) (hty : ∀ j, j < nfX ci → defaultValue (ty j) = if frX ci j = true then .null else .int 0) (hv : ∀ w ∈ ([.classLink y.cls idx C, .instantiable C (nfX ci), .initialized C] : List Cond), w ∈ gtX) (hf : kc + 1 ≤ rc ∧ ks + nfX ci ≤ rs) (hd : decode cc pc = .ok (.new idx, 3)) (hq : pc + 3 = q) (hK : K n = (0, ci)) (h1 : n + 1 = n1) (h2 : kc + 1 = kc1) (h3 : ks + nfX ci = ks1) (kk : WW X Q kc1 ks1 q ls (vR n :: st) n1 K (nwR Rf n) (nwD D n)) : WW X Q kc ks pc ls st n K Rf D := by
  subst h1 h2 h3
  exact w_new hX hc hty hv hf hd hq (by rw [upK_id hK]; exact kk)
theorem v_newI {N n1 kc1 ks1 : Nat} (hX : GX X y cc nL ret dd rc rs) (hN : N ≤ 100000) (hf : kc + 1 ≤ rc ∧ ks + N ≤ rs) (hd : decode cc pc = .ok (.newarray .int, 2)) (hq : pc + 2 = q) (hK : K n = (1, N)) (h1 : n + 1 = n1) (h2 : kc + 1 = kc1) (h3 : ks + N = ks1) (kk : WW X Q kc1 ks1 q ls (vR n :: st) n1 K (nwR Rf n) (nwD D n)) : WW X Q kc ks pc ls (vI N :: st) n K Rf D := by
  subst h1 h2 h3
  exact w_newI hX aw_int hN hf hd hq (by rw [upK_id hK]; exact kk)
theorem v_newL {N n1 kc1 ks1 : Nat} (hX : GX X y cc nL ret dd rc rs) (hN : N ≤ 100000) (hf : kc + 1 ≤ rc ∧ ks + N ≤ rs) (hd : decode cc pc = .ok (.newarray .long, 2)) (hq : pc + 2 = q) (hK : K n = (2, N)) (h1 : n + 1 = n1) (h2 : kc + 1 = kc1) (h3 : ks + N = ks1) (kk : WW X Q kc1 ks1 q ls (vR n :: st) n1 K (nwR Rf n) (nwD D n)) : WW X Q kc ks pc ls (vI N :: st) n K Rf D := by
  subst h1 h2 h3
  exact w_newL hX aw_long hN hf hd hq (by rw [upK_id hK]; exact kk)
theorem v_newR {N n1 kc1 ks1 idx : Nat} (hX : GX X y cc nL ret dd rc rs) (hv : Cond.classLink y.cls idx RX2 ∈ gtX) (hN : N ≤ 100000) (hf : kc + 1 ≤ rc ∧ ks + N ≤ rs) (hd : decode cc pc = .ok (.anewarray idx, 3)) (hq : pc + 3 = q) (hK : K n = (3, N)) (h1 : n + 1 = n1) (h2 : kc + 1 = kc1) (h3 : ks + N = ks1) (kk : WW X Q kc1 ks1 q ls (vR n :: st) n1 K (nwR Rf n) (nwD D n)) : WW X Q kc ks pc ls (vI N :: st) n K Rf D := by
  subst h1 h2 h3
  exact w_newR hX hv hN hf hd hq (by rw [upK_id hK]; exact kk)
/-- only the labels below n matter -/
theorem w_cg {Rf2 : Rd} {D2 : Dd} (hR : ∀ k, k < n → Rf2 k = Rf k) (hD : ∀ k, k < n → D2 k = D k) (kk : WW X Q kc ks pc ls st n K Rf2 D2) : WW X Q kc ks pc ls st n K Rf D := by
  obtain ⟨p, l, e, R, s, m, args, below, meth, c, dC, dI, cA, ro, scr, A, n0, ad0⟩ := X
  intro ad H locs LS hRP hH hls hst hL
  have e1 : wlX cA ad n K Rf2 D2 = wlX cA ad n K Rf D := by
    unfold wlX
    apply List.map_congr_left
    intro k hk
    have hk : k < n := List.mem_range.mp hk
    rw [ct_ne (hR k hk) (hD k hk)]
  refine kk ad H locs LS ⟨hRP.1, by rw [e1]; exact hRP.2.1, by rw [e1]; exact hRP.2.2.1, hRP.2.2.2⟩ (fun k hk => ?_) hls hst hL
  rw [hR k hk, hD k hk]
  exact hH k hk
end VNEW
set_option maxRecDepth 100000 in
set_option maxHeartbeats 4000000 in
theorem mi_ins (k n : Nat) (hk : K0 k = (0, 2)) (R : Rd) (D : Dd) : MX 1 0 0 yX2_init cX2_init 1 none [vR k] n K0 R D (fun r n2 K2 R2 D2 => r = none ∧ n2 = n ∧ K2 = K0 ∧ R2 = R ∧ D2 = (upD D k 0 (-1))) := by
  refine MX.mk [vR k] (by decide) (Nat.le_of_ble_eq_true rfl) rfl (fun X Q hX hF => ?_)
  refine w_aload_n (i := 0) hX dX2_init_0 rfl rfl rfl ?_
  refine w_objInit hX ml_RX2_3 (by decide) (Nat.le_of_ble_eq_true rfl) dX2_init_1 rfl ?_
  refine w_aload_n (i := 0) hX dX2_init_4 rfl rfl rfl ?_
  refine w_iconst hX dX2_init_5 rfl (by decide) ?_
  refine w_putI (j := 0) hX cl2 fl_RX2_9_2 hk (by decide) rfl rfl (Or.inl rfl) dX2_init_6 rfl ?_
  exact w_vret hX hF dX2_init_9 ⟨rfl, rfl, rfl, rfl, rfl⟩
set_option maxRecDepth 100000 in
set_option maxHeartbeats 4000000 in
theorem mi_pass1 (R : Rd) (D : Dd) : MX 1 0 0 yX4_init cX4_init 2 none [vR 265, vR 1] 266 K0 R D (fun r n2 K2 R2 D2 => r = none ∧ n2 = 266 ∧ K2 = K0 ∧ R2 = (upR R 265 0 (some 1)) ∧ D2 = D) := by
  refine MX.mk [vR 265, vR 1] (by decide) (Nat.le_of_ble_eq_true rfl) rfl (fun X Q hX hF => ?_)
  refine w_aload_n (i := 0) hX dX4_init_0 rfl rfl rfl ?_
  refine w_objInit hX ml_RX4_1 (by decide) (Nat.le_of_ble_eq_true rfl) dX4_init_1 rfl ?_
  refine w_aload_n (i := 0) hX dX4_init_4 rfl rfl rfl ?_
  refine w_aload_n (i := 1) hX dX4_init_5 rfl rfl rfl ?_
  refine w_putRF (j := 0) hX cl1 fl_RX4_7_1 rfl (by decide) rfl rfl rfl rfl (Or.inl ⟨_, rfl⟩) dX4_init_6 rfl ?_
  exact w_vret hX hF dX4_init_9 ⟨rfl, rfl, rfl, rfl, rfl⟩
set_option maxRecDepth 100000 in
set_option maxHeartbeats 4000000 in
theorem mi_pass3 (R : Rd) (D : Dd) : MX 1 0 0 yX4_init cX4_init 2 none [vR 266, vR 1] 267 K0 R D (fun r n2 K2 R2 D2 => r = none ∧ n2 = 267 ∧ K2 = K0 ∧ R2 = (upR R 266 0 (some 1)) ∧ D2 = D) := by
  refine MX.mk [vR 266, vR 1] (by decide) (Nat.le_of_ble_eq_true rfl) rfl (fun X Q hX hF => ?_)
  refine w_aload_n (i := 0) hX dX4_init_0 rfl rfl rfl ?_
  refine w_objInit hX ml_RX4_1 (by decide) (Nat.le_of_ble_eq_true rfl) dX4_init_1 rfl ?_
  refine w_aload_n (i := 0) hX dX4_init_4 rfl rfl rfl ?_
  refine w_aload_n (i := 1) hX dX4_init_5 rfl rfl rfl ?_
  refine w_putRF (j := 0) hX cl3 fl_RX4_7_3 rfl (by decide) rfl rfl rfl rfl (Or.inl ⟨_, rfl⟩) dX4_init_6 rfl ?_
  exact w_vret hX hF dX4_init_9 ⟨rfl, rfl, rfl, rfl, rfl⟩
set_option maxRecDepth 100000 in
set_option maxHeartbeats 4000000 in
theorem mi_pass5 (R : Rd) (D : Dd) : MX 1 0 0 yX4_init cX4_init 2 none [vR 268, vR 1] 269 K0 R D (fun r n2 K2 R2 D2 => r = none ∧ n2 = 269 ∧ K2 = K0 ∧ R2 = (upR R 268 0 (some 1)) ∧ D2 = D) := by
  refine MX.mk [vR 268, vR 1] (by decide) (Nat.le_of_ble_eq_true rfl) rfl (fun X Q hX hF => ?_)
  refine w_aload_n (i := 0) hX dX4_init_0 rfl rfl rfl ?_
  refine w_objInit hX ml_RX4_1 (by decide) (Nat.le_of_ble_eq_true rfl) dX4_init_1 rfl ?_
  refine w_aload_n (i := 0) hX dX4_init_4 rfl rfl rfl ?_
  refine w_aload_n (i := 1) hX dX4_init_5 rfl rfl rfl ?_
  refine w_putRF (j := 0) hX cl5 fl_RX4_7_5 rfl (by decide) rfl rfl rfl rfl (Or.inl ⟨_, rfl⟩) dX4_init_6 rfl ?_
  exact w_vret hX hF dX4_init_9 ⟨rfl, rfl, rfl, rfl, rfl⟩
set_option maxRecDepth 100000 in
set_option maxHeartbeats 4000000 in
theorem mi_form (R : Rd) (D : Dd) : MX 2 0 0 yX1_init cX1_init 2 none [vR 265, vR 1] 266 K0 R D (fun r n2 K2 R2 D2 => r = none ∧ n2 = 266 ∧ K2 = K0 ∧ R2 = (upR R 265 0 (some 1)) ∧ D2 = D) := by
  refine MX.mk [vR 265, vR 1] (by decide) (Nat.le_of_ble_eq_true rfl) rfl (fun X Q hX hF => ?_)
  refine w_aload_n (i := 0) hX dX1_init_0 rfl rfl rfl ?_
  refine w_aload_n (i := 1) hX dX1_init_1 rfl rfl rfl ?_
  refine w_callI hX (mi_pass1 R D) ml_RX1_3 rfl (by decide) (Nat.le_of_ble_eq_true rfl) ⟨by decide, by decide⟩ dX1_init_2 rfl rfl ?_
  rintro _ _ _ _ _ ⟨rfl, rfl, rfl, rfl, rfl⟩ -
  dsimp only [Option.toList, List.nil_append]
  exact w_vret hX hF dX1_init_5 ⟨rfl, rfl, rfl, rfl, rfl⟩
set_option maxRecDepth 100000 in
set_option maxHeartbeats 4000000 in
theorem mi_loop (R : Rd) (D : Dd) : MX 2 1 256 yX3_init cX3_init 2 none [vR 266, vR 1] 267 K0 R D (fun r n2 K2 R2 D2 => r = none ∧ n2 = 268 ∧ K2 = K0 ∧ R2 = (upR (nwR (upR R 266 0 (some 1)) 267) 266 1 (some 267)) ∧ D2 = (nwD D 267)) := by
  refine MX.mk [vR 266, vR 1] (by decide) (Nat.le_of_ble_eq_true rfl) rfl (fun X Q hX hF => ?_)
  refine w_aload_n (i := 0) hX dX3_init_0 rfl rfl rfl ?_
  refine w_aload_n (i := 1) hX dX3_init_1 rfl rfl rfl ?_
  refine w_callI hX (mi_pass3 R D) ml_RX3_3 rfl (by decide) (Nat.le_of_ble_eq_true rfl) ⟨by decide, by decide⟩ dX3_init_2 rfl rfl ?_
  rintro _ _ _ _ _ ⟨rfl, rfl, rfl, rfl, rfl⟩ -
  dsimp only [Option.toList, List.nil_append]
  refine w_aload_n (i := 0) hX dX3_init_5 rfl rfl rfl ?_
  refine w_sipush hX dX3_init_6 rfl (by decide) ?_
  refine v_newI (N := 256) (n1 := 268) (kc1 := 1) (ks1 := 256) hX (by decide) ⟨by decide, by decide⟩ dX3_init_9 rfl rfl rfl rfl rfl ?_
  refine w_putRF (j := 1) hX cl3 fl_RX3_9_3 rfl (by decide) rfl rfl rfl rfl (Or.inr ⟨_, rfl⟩) dX3_init_11 rfl ?_
  exact w_vret hX hF dX3_init_14 ⟨rfl, rfl, rfl, rfl, rfl⟩
set_option maxRecDepth 100000 in
set_option maxHeartbeats 4000000 in
theorem mi_stack (R : Rd) (D : Dd) : MX 2 2 273 yX6_init cX6_init 2 none [vR 268, vR 1] 269 K0 R D (fun r n2 K2 R2 D2 => r = none ∧ n2 = 271 ∧ K2 = K0 ∧ R2 = (upR (nwR (upR (nwR (upR R 268 0 (some 1)) 269) 268 1 (some 269)) 270) 268 2 (some 270)) ∧ D2 = (nwD (nwD D 269) 270)) := by
  refine MX.mk [vR 268, vR 1] (by decide) (Nat.le_of_ble_eq_true rfl) rfl (fun X Q hX hF => ?_)
  refine w_aload_n (i := 0) hX dX6_init_0 rfl rfl rfl ?_
  refine w_aload_n (i := 1) hX dX6_init_1 rfl rfl rfl ?_
  refine w_callI hX (mi_pass5 R D) ml_RX6_3 rfl (by decide) (Nat.le_of_ble_eq_true rfl) ⟨by decide, by decide⟩ dX6_init_2 rfl rfl ?_
  rintro _ _ _ _ _ ⟨rfl, rfl, rfl, rfl, rfl⟩ -
  dsimp only [Option.toList, List.nil_append]
  refine w_aload_n (i := 0) hX dX6_init_5 rfl rfl rfl ?_
  refine w_sipush hX dX6_init_6 rfl (by decide) ?_
  refine v_newI (N := 257) (n1 := 270) (kc1 := 1) (ks1 := 257) hX (by decide) ⟨by decide, by decide⟩ dX6_init_9 rfl rfl rfl rfl rfl ?_
  refine w_putRF (j := 1) hX cl5 fl_RX6_9_5 rfl (by decide) rfl rfl rfl rfl (Or.inr ⟨_, rfl⟩) dX6_init_11 rfl ?_
  refine w_aload_n (i := 0) hX dX6_init_14 rfl rfl rfl ?_
  refine w_bipush hX dX6_init_15 rfl (by decide) ?_
  refine v_newI (N := 16) (n1 := 271) (kc1 := 2) (ks1 := 273) hX (by decide) ⟨by decide, by decide⟩ dX6_init_17 rfl rfl rfl rfl rfl ?_
  refine w_putRF (j := 2) hX cl5 fl_RX6_15_5 rfl (by decide) rfl rfl rfl rfl (Or.inr ⟨_, rfl⟩) dX6_init_19 rfl ?_
  exact w_vret hX hF dX6_init_22 ⟨rfl, rfl, rfl, rfl, rfl⟩
set_option maxRecDepth 100000 in
set_option maxHeartbeats 4000000 in
theorem mi_ways (R : Rd) (D : Dd) : MX 1 3 529 yX8_init cX8_init 2 none [vR 271, vR 1] 272 K0 R D (fun r n2 K2 R2 D2 => r = none ∧ n2 = 275 ∧ K2 = K0 ∧ R2 = (upR (upR (nwR (upR (nwR (upR (nwR R 272) 271 1 (some 272)) 273) 271 2 (some 273)) 274) 271 3 (some 274)) 271 0 (some 1)) ∧ D2 = (nwD (nwD (nwD D 272) 273) 274)) := by
  refine MX.mk [vR 271, vR 1] (by decide) (Nat.le_of_ble_eq_true rfl) rfl (fun X Q hX hF => ?_)
  refine w_aload_n (i := 0) hX dX8_init_0 rfl rfl rfl ?_
  refine w_objInit hX ml_RX8_3 (by decide) (Nat.le_of_ble_eq_true rfl) dX8_init_1 rfl ?_
  refine w_aload_n (i := 0) hX dX8_init_4 rfl rfl rfl ?_
  refine w_sipush hX dX8_init_5 rfl (by decide) ?_
  refine v_newL (N := 257) (n1 := 273) (kc1 := 1) (ks1 := 257) hX (by decide) ⟨by decide, by decide⟩ dX8_init_8 rfl rfl rfl rfl rfl ?_
  refine w_putRF (j := 1) hX cl7 fl_RX8_9_7 rfl (by decide) rfl rfl rfl rfl (Or.inr ⟨_, rfl⟩) dX8_init_10 rfl ?_
  refine w_aload_n (i := 0) hX dX8_init_13 rfl rfl rfl ?_
  refine w_sipush hX dX8_init_14 rfl (by decide) ?_
  refine v_newL (N := 256) (n1 := 274) (kc1 := 2) (ks1 := 513) hX (by decide) ⟨by decide, by decide⟩ dX8_init_17 rfl rfl rfl rfl rfl ?_
  refine w_putRF (j := 2) hX cl7 fl_RX8_15_7 rfl (by decide) rfl rfl rfl rfl (Or.inr ⟨_, rfl⟩) dX8_init_19 rfl ?_
  refine w_aload_n (i := 0) hX dX8_init_22 rfl rfl rfl ?_
  refine w_bipush hX dX8_init_23 rfl (by decide) ?_
  refine v_newI (N := 16) (n1 := 275) (kc1 := 3) (ks1 := 529) hX (by decide) ⟨by decide, by decide⟩ dX8_init_25 rfl rfl rfl rfl rfl ?_
  refine w_putRF (j := 3) hX cl7 fl_RX8_18_7 rfl (by decide) rfl rfl rfl rfl (Or.inr ⟨_, rfl⟩) dX8_init_27 rfl ?_
  refine w_aload_n (i := 0) hX dX8_init_30 rfl rfl rfl ?_
  refine w_aload_n (i := 1) hX dX8_init_31 rfl rfl rfl ?_
  refine w_putRF (j := 0) hX cl7 fl_RX8_22_7 rfl (by decide) rfl rfl rfl rfl (Or.inl ⟨_, rfl⟩) dX8_init_32 rfl ?_
  exact w_vret hX hF dX8_init_35 ⟨rfl, rfl, rfl, rfl, rfl⟩
set_option maxRecDepth 100000 in
set_option maxHeartbeats 4000000 in
theorem mi_walker (R : Rd) (D : Dd) : MX 1 3 288 yX7_init cX7_init 2 none [vR 275, vR 1] 276 K0 R D (fun r n2 K2 R2 D2 => r = none ∧ n2 = 279 ∧ K2 = K0 ∧ R2 = (upR (upR (nwR (upR (nwR (upR (nwR R 276) 275 1 (some 276)) 277) 275 2 (some 277)) 278) 275 3 (some 278)) 275 0 (some 1)) ∧ D2 = (nwD (nwD (nwD D 276) 277) 278)) := by
  refine MX.mk [vR 275, vR 1] (by decide) (Nat.le_of_ble_eq_true rfl) rfl (fun X Q hX hF => ?_)
  refine w_aload_n (i := 0) hX dX7_init_0 rfl rfl rfl ?_
  refine w_objInit hX ml_RX7_3 (by decide) (Nat.le_of_ble_eq_true rfl) dX7_init_1 rfl ?_
  refine w_aload_n (i := 0) hX dX7_init_4 rfl rfl rfl ?_
  refine w_sipush hX dX7_init_5 rfl (by decide) ?_
  refine v_newI (N := 256) (n1 := 277) (kc1 := 1) (ks1 := 256) hX (by decide) ⟨by decide, by decide⟩ dX7_init_8 rfl rfl rfl rfl rfl ?_
  refine w_putRF (j := 1) hX cl6 fl_RX7_9_6 rfl (by decide) rfl rfl rfl rfl (Or.inr ⟨_, rfl⟩) dX7_init_10 rfl ?_
  refine w_aload_n (i := 0) hX dX7_init_13 rfl rfl rfl ?_
  refine w_bipush hX dX7_init_14 rfl (by decide) ?_
  refine v_newI (N := 16) (n1 := 278) (kc1 := 2) (ks1 := 272) hX (by decide) ⟨by decide, by decide⟩ dX7_init_16 rfl rfl rfl rfl rfl ?_
  refine w_putRF (j := 2) hX cl6 fl_RX7_15_6 rfl (by decide) rfl rfl rfl rfl (Or.inr ⟨_, rfl⟩) dX7_init_18 rfl ?_
  refine w_aload_n (i := 0) hX dX7_init_21 rfl rfl rfl ?_
  refine w_bipush hX dX7_init_22 rfl (by decide) ?_
  refine v_newI (N := 16) (n1 := 279) (kc1 := 3) (ks1 := 288) hX (by decide) ⟨by decide, by decide⟩ dX7_init_24 rfl rfl rfl rfl rfl ?_
  refine w_putRF (j := 3) hX cl6 fl_RX7_18_6 rfl (by decide) rfl rfl rfl rfl (Or.inr ⟨_, rfl⟩) dX7_init_26 rfl ?_
  refine w_aload_n (i := 0) hX dX7_init_29 rfl rfl rfl ?_
  refine w_aload_n (i := 1) hX dX7_init_30 rfl rfl rfl ?_
  refine w_putRF (j := 0) hX cl6 fl_RX7_21_6 rfl (by decide) rfl rfl rfl rfl (Or.inl ⟨_, rfl⟩) dX7_init_31 rfl ?_
  exact w_vret hX hF dX7_init_34 ⟨rfl, rfl, rfl, rfl, rfl⟩
set_option maxRecDepth 100000 in
set_option maxHeartbeats 4000000 in
theorem mi_proof (R : Rd) (D : Dd) : MX 3 10 1070 yX5_init cX5_init 2 none [vR 264, vR 1] 265 K0 R D (fun r n2 K2 R2 D2 => r = none ∧ n2 = 275 ∧ K2 = K0 ∧ R2 = (upR (upR (upR (nwR (upR (nwR (upR (nwR (nwR (upR (upR (nwR (upR (nwR (upR (nwR (upR (upR (nwR (upR (nwR (upR (upR (nwR (upR R 264 0 (some 1)) 265) 265 0 (some 1)) 264 1 (some 265)) 266) 266 0 (some 1)) 267) 266 1 (some 267)) 264 2 (some 266)) 268) 268 0 (some 1)) 269) 268 1 (some 269)) 270) 268 2 (some 270)) 264 3 (some 268)) 271) 272) 271 1 (some 272)) 273) 271 2 (some 273)) 274) 271 3 (some 274)) 271 0 (some 1)) 264 4 (some 271)) ∧ D2 = (nwD (nwD (nwD (nwD (nwD (nwD (nwD (nwD (nwD (nwD (upD (upD D 264 7 (-1)) 264 8 (-1)) 265) 266) 267) 268) 269) 270) 271) 272) 273) 274)) := by
  refine MX.mk [vR 264, vR 1] (by decide) (Nat.le_of_ble_eq_true rfl) rfl (fun X Q hX hF => ?_)
  refine w_aload_n (i := 0) hX dX5_init_0 rfl rfl rfl ?_
  refine w_objInit hX ml_RX5_3 (by decide) (Nat.le_of_ble_eq_true rfl) dX5_init_1 rfl ?_
  refine w_aload_n (i := 0) hX dX5_init_4 rfl rfl rfl ?_
  refine w_iconst hX dX5_init_5 rfl (by decide) ?_
  refine w_putI (j := 7) hX cl4 fl_RX5_9_4 rfl (by decide) rfl rfl (Or.inl rfl) dX5_init_6 rfl ?_
  refine w_aload_n (i := 0) hX dX5_init_9 rfl rfl rfl ?_
  refine w_iconst hX dX5_init_10 rfl (by decide) ?_
  refine w_putI (j := 8) hX cl4 fl_RX5_15_4 rfl (by decide) rfl rfl (Or.inl rfl) dX5_init_11 rfl ?_
  refine w_aload_n (i := 0) hX dX5_init_14 rfl rfl rfl ?_
  refine w_aload_n (i := 1) hX dX5_init_15 rfl rfl rfl ?_
  refine w_putRF (j := 0) hX cl4 fl_RX5_18_4 rfl (by decide) rfl rfl rfl rfl (Or.inl ⟨_, rfl⟩) dX5_init_16 rfl ?_
  refine w_aload_n (i := 0) hX dX5_init_19 rfl rfl rfl ?_
  refine v_new (n1 := 266) (kc1 := 1) (ks1 := 1) hX cl1 dv1 nw_RX5_22 ⟨by decide, by decide⟩ dX5_init_20 rfl rfl rfl rfl rfl ?_
  refine w_dup hX dX5_init_23 rfl rfl ?_
  refine w_aload_n (i := 1) hX dX5_init_24 rfl rfl rfl ?_
  refine w_callI hX (mi_form (nwR (upR R 264 0 (some 1)) 265) (nwD (upD (upD D 264 7 (-1)) 264 8 (-1)) 265)) ml_RX5_24 rfl (by decide) (Nat.le_of_ble_eq_true rfl) ⟨by decide, by decide⟩ dX5_init_25 rfl rfl ?_
  rintro _ _ _ _ _ ⟨rfl, rfl, rfl, rfl, rfl⟩ -
  dsimp only [Option.toList, List.nil_append]
  refine w_putRF (j := 1) hX cl4 fl_RX5_27_4 rfl (by decide) rfl rfl rfl rfl (Or.inl ⟨_, rfl⟩) dX5_init_28 rfl ?_
  refine w_aload_n (i := 0) hX dX5_init_31 rfl rfl rfl ?_
  refine v_new (n1 := 267) (kc1 := 2) (ks1 := 4) hX cl3 dv3 nw_RX5_31 ⟨by decide, by decide⟩ dX5_init_32 rfl rfl rfl rfl rfl ?_
  refine w_dup hX dX5_init_35 rfl rfl ?_
  refine w_aload_n (i := 1) hX dX5_init_36 rfl rfl rfl ?_
  refine w_callI hX (mi_loop (nwR (upR (upR (nwR (upR R 264 0 (some 1)) 265) 265 0 (some 1)) 264 1 (some 265)) 266) (nwD (nwD (upD (upD D 264 7 (-1)) 264 8 (-1)) 265) 266)) ml_RX5_33 rfl (by decide) (Nat.le_of_ble_eq_true rfl) ⟨by decide, by decide⟩ dX5_init_37 rfl rfl ?_
  rintro _ _ _ _ _ ⟨rfl, rfl, rfl, rfl, rfl⟩ -
  dsimp only [Option.toList, List.nil_append]
  refine w_putRF (j := 2) hX cl4 fl_RX5_34_4 rfl (by decide) rfl rfl rfl rfl (Or.inl ⟨_, rfl⟩) dX5_init_40 rfl ?_
  refine w_aload_n (i := 0) hX dX5_init_43 rfl rfl rfl ?_
  refine v_new (n1 := 269) (kc1 := 4) (ks1 := 264) hX cl5 dv5 nw_RX5_38 ⟨by decide, by decide⟩ dX5_init_44 rfl rfl rfl rfl rfl ?_
  refine w_dup hX dX5_init_47 rfl rfl ?_
  refine w_aload_n (i := 1) hX dX5_init_48 rfl rfl rfl ?_
  refine w_callI hX (mi_stack (nwR (upR (upR (nwR (upR (nwR (upR (upR (nwR (upR R 264 0 (some 1)) 265) 265 0 (some 1)) 264 1 (some 265)) 266) 266 0 (some 1)) 267) 266 1 (some 267)) 264 2 (some 266)) 268) (nwD (nwD (nwD (nwD (upD (upD D 264 7 (-1)) 264 8 (-1)) 265) 266) 267) 268)) ml_RX5_40 rfl (by decide) (Nat.le_of_ble_eq_true rfl) ⟨by decide, by decide⟩ dX5_init_49 rfl rfl ?_
  rintro _ _ _ _ _ ⟨rfl, rfl, rfl, rfl, rfl⟩ -
  dsimp only [Option.toList, List.nil_append]
  refine w_putRF (j := 3) hX cl4 fl_RX5_41_4 rfl (by decide) rfl rfl rfl rfl (Or.inl ⟨_, rfl⟩) dX5_init_52 rfl ?_
  refine w_aload_n (i := 0) hX dX5_init_55 rfl rfl rfl ?_
  refine v_new (n1 := 272) (kc1 := 7) (ks1 := 541) hX cl7 dv7 nw_RX5_45 ⟨by decide, by decide⟩ dX5_init_56 rfl rfl rfl rfl rfl ?_
  refine w_dup hX dX5_init_59 rfl rfl ?_
  refine w_aload_n (i := 1) hX dX5_init_60 rfl rfl rfl ?_
  refine w_callI hX (mi_ways (nwR (upR (upR (nwR (upR (nwR (upR (nwR (upR (upR (nwR (upR (nwR (upR (upR (nwR (upR R 264 0 (some 1)) 265) 265 0 (some 1)) 264 1 (some 265)) 266) 266 0 (some 1)) 267) 266 1 (some 267)) 264 2 (some 266)) 268) 268 0 (some 1)) 269) 268 1 (some 269)) 270) 268 2 (some 270)) 264 3 (some 268)) 271) (nwD (nwD (nwD (nwD (nwD (nwD (nwD (upD (upD D 264 7 (-1)) 264 8 (-1)) 265) 266) 267) 268) 269) 270) 271)) ml_RX5_47 rfl (by decide) (Nat.le_of_ble_eq_true rfl) ⟨by decide, by decide⟩ dX5_init_61 rfl rfl ?_
  rintro _ _ _ _ _ ⟨rfl, rfl, rfl, rfl, rfl⟩ -
  dsimp only [Option.toList, List.nil_append]
  refine w_putRF (j := 4) hX cl4 fl_RX5_48_4 rfl (by decide) rfl rfl rfl rfl (Or.inl ⟨_, rfl⟩) dX5_init_64 rfl ?_
  exact w_vret hX hF dX5_init_67 ⟨rfl, rfl, rfl, rfl, rfl⟩
