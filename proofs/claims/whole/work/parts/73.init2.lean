/-! Constructors: Code, CodeProof, the reference -/
theorem upR_a {R : Rd} {k j a b : Nat} {x : Option Nat} (h : a ≠ k) : upR R k j x a b = R a b := by rw [upR_ne h]
theorem nwR_a {R : Rd} {k a b : Nat} (h : a ≠ k) : nwR R k a b = R a b := by unfold nwR; rw [if_neg h]
theorem nwR_s {R : Rd} {k b : Nat} : nwR R k k b = none := by unfold nwR; rw [if_pos rfl]
theorem nwD_a {D : Dd} {k a b : Nat} (h : a ≠ k) : nwD D k a b = D a b := by unfold nwD; rw [if_neg h]
theorem R0_ins {a b : Nat} (h : 8 ≤ a ∧ a < 264) : R0 a b = none := by
  unfold R0
  split <;> first | omega | rfl
/-- the loop of Code's constructor, i rows made -/
def CIV (R00 : Rd) (D00 : Dd) (i : Nat) (R : Rd) (D : Dd) : Prop := (∀ b, R 0 b = R00 0 b) ∧ (∀ a b, 1 ≤ a → a < 8 → a ≠ 2 → R a b = R0 a b) ∧ (∀ b, R 2 b = if b < i then some (8 + b) else none) ∧ (∀ a b, 8 ≤ a → a < 8 + i → R a b = none) ∧ (∀ b, D 0 b = D00 0 b) ∧ D 1 6 = 64 ∧ D 1 7 = 0 ∧ D 1 8 = 0 ∧ D 3 0 = -1
def CIP (R00 : Rd) (D00 : Dd) : Option AV → Nat → Kd → Rd → Dd → Prop := fun r n2 K2 R2 D2 => r = none ∧ n2 = 264 ∧ K2 = K0 ∧ (∀ b, R2 0 b = R00 0 b) ∧ (∀ a b, 1 ≤ a → a < 264 → R2 a b = R0 a b) ∧ (∀ b, D2 0 b = D00 0 b) ∧ D2 1 6 = 64 ∧ D2 1 7 = 0 ∧ D2 1 8 = 0 ∧ D2 3 0 = -1
theorem CIV.P {R00 R : Rd} {D00 D : Dd} (h : CIV R00 D00 256 R D) : CIP R00 D00 none 264 K0 R D := by
  obtain ⟨h1, h2, h3, h4, h5, h6, h7, h8, h9⟩ := h
  refine ⟨rfl, rfl, rfl, h1, fun a b a0 a1 => ?_, h5, h6, h7, h8, h9⟩
  by_cases e : a = 2
  · subst e; rw [h3]; rfl
  · by_cases e2 : a < 8
    · exact h2 a b a0 e2 e
    · rw [h4 a b (by omega) (by omega), R0_ins (by omega)]
theorem CIV.s {R00 R : Rd} {D00 D : Dd} {i : Nat} (hi : i < 256) (h : CIV R00 D00 i R D) : CIV R00 D00 (i + 1) (upR (nwR R (8 + i)) 2 (i : Int).toNat (some (8 + i))) (upD (nwD D (8 + i)) (8 + i) 0 (-1)) := by
  obtain ⟨h1, h2, h3, h4, h5, h6, h7, h8, h9⟩ := h
  have q : ∀ a b, a < 8 → upD (nwD D (8 + i)) (8 + i) 0 (-1) a b = D a b := fun a b ha => by rw [upD_k (by omega), nwD_a (by omega)]
  refine ⟨fun b => by rw [upR_a (by decide), nwR_a (by omega)]; exact h1 b, fun a b a0 a1 a2 => by rw [upR_a a2, nwR_a (by omega)]; exact h2 a b a0 a1 a2, fun b => ?_, fun a b a0 a1 => ?_, fun b => by rw [q _ _ (by decide)]; exact h5 b, by rw [q _ _ (by decide)]; exact h6, by rw [q _ _ (by decide)]; exact h7, by rw [q _ _ (by decide)]; exact h8, by rw [q _ _ (by decide)]; exact h9⟩
  · show (if 2 = 2 then (if b = (i : Int).toNat then some (8 + i) else nwR R (8 + i) 2 b) else nwR R (8 + i) 2 b) = _
    rw [if_pos rfl, nwR_a (by omega), h3]
    by_cases e : b = i
    · rw [if_pos (by omega), if_pos (by omega), e]
    · rw [if_neg (by omega)]
      by_cases e2 : b < i
      · rw [if_pos e2, if_pos (by omega)]
      · rw [if_neg e2, if_neg (by omega)]
  · rw [upR_a (by omega)]
    by_cases e : a = 8 + i
    · rw [e, nwR_s]
    · rw [nwR_a e]; exact h4 a b a0 (by omega)
set_option maxRecDepth 100000 in
set_option maxHeartbeats 4000000 in
theorem l_code {X : Cx} {Q : State → Prop} {P : Option AV → Nat → Kd → Rd → Dd → Prop} (hX : GX X yX0_init cX0_init 2 none 2 262 1348) (hF : FinX X Q 262 1348 P) (R00 : Rd) (D00 : Dd) (hP : ∀ R D, CIV R00 D00 256 R D → P none 264 K0 R D) : ∀ (m i : Nat) (R : Rd) (D : Dd), 256 - i < m → i ≤ 256 → CIV R00 D00 i R D → WW X Q (6 + i) (324 + 4 * i) 65 [vR 1, vI i] [] (8 + i) K0 R D := by
  intro m
  induction m with
  | zero =>
    intro i R D hm
    exact absurd hm (Nat.not_lt_zero _)
  | succ m ih =>
    intro i R D hm hi hc
    refine w_iload_n (i := 1) hX dX0_init_65 rfl rfl rfl ?_
    refine w_sipush hX dX0_init_66 rfl (by decide) ?_
    refine w_icmp_ge (tgt := 91) hX dX0_init_69 rfl (by decide) (fun h69 => ?_) (fun h69 => ?_)
    · have zq_e : i = 256 := by omega
      subst zq_e
      exact w_vret hX hF dX0_init_91 (hP R D hc)
    · have zq_i : i < 256 := by omega
      have zq_k : K0 (8 + i) = (0, 2) := K0_ins (Or.inr ⟨by omega, by omega⟩)
      refine w_aload_n (i := 0) hX dX0_init_72 rfl rfl rfl ?_
      refine w_getR (j := 0) (z := 2) hX cl0 fl_RX0_11_0 rfl (by decide) rfl (hc.2.1 1 0 (by decide) (by decide) (by decide)) dX0_init_73 rfl ?_
      refine w_iload_n (i := 1) hX dX0_init_76 rfl rfl rfl ?_
      refine v_new (n1 := 8 + (i + 1)) (kc1 := 6 + (i + 1)) (ks1 := 324 + 4 * (i + 1)) hX cl2 dv2 nw_RX0_9 ⟨by omega, by show 324 + 4 * i + 4 ≤ 1348; omega⟩ dX0_init_77 rfl zq_k (by omega) (by omega) (by show 324 + 4 * i + 4 = _; omega) ?_
      refine w_dup hX dX0_init_80 rfl rfl ?_
      refine w_callN hX (mi_ins (8 + i) (8 + (i + 1)) zq_k (nwR R (8 + i)) (nwD D (8 + i))) nl_ins (host := "CodeProof") (by unfold nzX; exact List.mem_cons_self) rfl (by decide) (by simp [catX, vI, vR]) ⟨by omega, by omega⟩ dX0_init_81 rfl rfl ?_
      rintro _ _ _ _ _ ⟨rfl, rfl, rfl, rfl, rfl⟩ -
      dsimp only [Option.toList, List.nil_append]
      refine w_aast (N := 256) hX rfl zq_k (by omega) (by omega) dX0_init_84 rfl ?_
      refine w_iinc hX dX0_init_85 rfl rfl (by decide) (by omega) ?_
      dsimp only [st1X, st2X, klX_I, klX_L, klX_R, klX_S, klX_N]
      refine w_goto (tgt := 65) hX dX0_init_88 (by decide) ?_
      exact ih (i + 1) _ _ (by omega) (by omega) (hc.s zq_i)
set_option maxRecDepth 100000 in
set_option maxHeartbeats 4000000 in
theorem mi_code (R : Rd) (D : Dd) (hR : ∀ b, R 1 b = none) (hD : ∀ b, D 1 b = 0) : MX 2 262 1348 yX0_init cX0_init 2 none [vR 1] 2 K0 R D (CIP R D) := by
  refine MX.mk [vR 1, vN] (by decide) (Nat.le_of_ble_eq_true rfl) rfl (fun X Q hX hF => ?_)
  refine w_aload_n (i := 0) hX dX0_init_0 rfl rfl rfl ?_
  refine w_objInit hX ml_RX0_3 (by decide) (Nat.le_of_ble_eq_true rfl) dX0_init_1 rfl ?_
  refine w_aload_n (i := 0) hX dX0_init_4 rfl rfl rfl ?_
  refine w_sipush hX dX0_init_5 rfl (by decide) ?_
  refine v_newR (N := 256) (n1 := 3) (kc1 := 1) (ks1 := 256) hX (nw_RX0_9 _ List.mem_cons_self) (by decide) ⟨by decide, by decide⟩ dX0_init_8 rfl rfl rfl rfl rfl ?_
  refine w_putRF (j := 0) hX cl0 fl_RX0_11_0 rfl (by decide) rfl rfl rfl rfl (Or.inr ⟨_, rfl⟩) dX0_init_11 rfl ?_
  refine w_aload_n (i := 0) hX dX0_init_14 rfl rfl rfl ?_
  refine v_new (n1 := 4) (kc1 := 2) (ks1 := 260) hX cl2 dv2 nw_RX0_9 ⟨by decide, by decide⟩ dX0_init_15 rfl rfl rfl rfl rfl ?_
  refine w_dup hX dX0_init_18 rfl rfl ?_
  refine w_callN hX (mi_ins 3 4 rfl (nwR (upR (nwR R 2) 1 0 (some 2)) 3) (nwD (nwD D 2) 3)) nl_ins (host := "CodeProof") (by unfold nzX; exact List.mem_cons_self) rfl (by decide) (Nat.le_of_ble_eq_true rfl) ⟨by decide, by decide⟩ dX0_init_19 rfl rfl ?_
  rintro _ _ _ _ _ ⟨rfl, rfl, rfl, rfl, rfl⟩ -
  dsimp only [Option.toList, List.nil_append]
  refine w_putRF (j := 1) hX cl0 fl_RX0_18_0 rfl (by decide) rfl rfl rfl rfl (Or.inl ⟨_, rfl⟩) dX0_init_22 rfl ?_
  refine w_aload_n (i := 0) hX dX0_init_25 rfl rfl rfl ?_
  refine w_bipush hX dX0_init_26 rfl (by decide) ?_
  refine v_newI (N := 16) (n1 := 5) (kc1 := 3) (ks1 := 276) hX (by decide) ⟨by decide, by decide⟩ dX0_init_28 rfl rfl rfl rfl rfl ?_
  refine w_putRF (j := 2) hX cl0 fl_RX0_22_0 rfl (by decide) rfl rfl rfl rfl (Or.inr ⟨_, rfl⟩) dX0_init_30 rfl ?_
  refine w_aload_n (i := 0) hX dX0_init_33 rfl rfl rfl ?_
  refine w_bipush hX dX0_init_34 rfl (by decide) ?_
  refine v_newI (N := 16) (n1 := 6) (kc1 := 4) (ks1 := 292) hX (by decide) ⟨by decide, by decide⟩ dX0_init_36 rfl rfl rfl rfl rfl ?_
  refine w_putRF (j := 3) hX cl0 fl_RX0_26_0 rfl (by decide) rfl rfl rfl rfl (Or.inr ⟨_, rfl⟩) dX0_init_38 rfl ?_
  refine w_aload_n (i := 0) hX dX0_init_41 rfl rfl rfl ?_
  refine w_bipush hX dX0_init_42 rfl (by decide) ?_
  refine v_newI (N := 16) (n1 := 7) (kc1 := 5) (ks1 := 308) hX (by decide) ⟨by decide, by decide⟩ dX0_init_44 rfl rfl rfl rfl rfl ?_
  refine w_putRF (j := 4) hX cl0 fl_RX0_29_0 rfl (by decide) rfl rfl rfl rfl (Or.inr ⟨_, rfl⟩) dX0_init_46 rfl ?_
  refine w_aload_n (i := 0) hX dX0_init_49 rfl rfl rfl ?_
  refine w_bipush hX dX0_init_50 rfl (by decide) ?_
  refine v_newI (N := 16) (n1 := 8) (kc1 := 6) (ks1 := 324) hX (by decide) ⟨by decide, by decide⟩ dX0_init_52 rfl rfl rfl rfl rfl ?_
  refine w_putRF (j := 5) hX cl0 fl_RX0_32_0 rfl (by decide) rfl rfl rfl rfl (Or.inr ⟨_, rfl⟩) dX0_init_54 rfl ?_
  refine w_aload_n (i := 0) hX dX0_init_57 rfl rfl rfl ?_
  refine w_bipush hX dX0_init_58 rfl (by decide) ?_
  refine w_putI (j := 6) hX cl0 fl_RX0_35_0 rfl (by decide) rfl rfl (Or.inl rfl) dX0_init_60 rfl ?_
  refine w_iconst hX dX0_init_63 rfl (by decide) ?_
  refine w_istore_n (i := 1) hX dX0_init_64 rfl rfl (by decide) ?_
  dsimp only [st1X, st2X, klX_I, klX_L, klX_R, klX_S, klX_N]
  refine l_code hX hF R D (fun R2 D2 h => h.P) 257 0 _ _ (by decide) (by decide) ⟨fun b => rfl, fun a b a0 a1 a2 => ?_, fun b => ?_, fun a b a0 a1 => by omega, fun b => rfl, rfl, hD 7, hD 8, rfl⟩
  · have zq_a : a = 1 ∨ a = 3 ∨ a = 4 ∨ a = 5 ∨ a = 6 ∨ a = 7 := by omega
    rcases zq_a with rfl | rfl | rfl | rfl | rfl | rfl
    · match b with
      | 0 => rfl
      | 1 => rfl
      | 2 => rfl
      | 3 => rfl
      | 4 => rfl
      | 5 => rfl
      | b + 6 => exact hR (b + 6)
    · rfl
    · rfl
    · rfl
    · rfl
    · rfl
  · rw [if_neg (by omega)]; rfl
/-- the numbers behind CodeProof's constructor -/
def CPD (D : Dd) : Prop := D 1 6 = 64 ∧ D 1 7 = 0 ∧ D 1 8 = 0 ∧ D 3 0 = -1 ∧ D 264 5 = 0 ∧ D 264 6 = 0 ∧ D 264 7 = -1 ∧ D 264 8 = -1 ∧ (∀ j, D 272 j = 0) ∧ (∀ j, D 273 j = 0) ∧ (∀ j, D 274 j = 0) ∧ (∀ j, D 276 j = 0) ∧ ∀ j, D 278 j = 0
set_option maxRecDepth 100000 in
set_option maxHeartbeats 4000000 in
theorem mi_cp (R : Rd) (D : Dd) (hR : ∀ b, R 0 b = none) : MX 4 278 2733 yX9_init cX9_init 1 none [vR 0] 1 K0 R D (fun r n2 K2 R2 D2 => r = none ∧ n2 = 279 ∧ K2 = K0 ∧ (∀ a b, a < 279 → R2 a b = R0 a b) ∧ CPD D2) := by
  refine MX.mk [vR 0] (by decide) (Nat.le_of_ble_eq_true rfl) rfl (fun X Q hX hF => ?_)
  refine w_aload_n (i := 0) hX dX9_init_0 rfl rfl rfl ?_
  refine w_objInit hX ml_RX9_1 (by decide) (Nat.le_of_ble_eq_true rfl) dX9_init_1 rfl ?_
  refine w_aload_n (i := 0) hX dX9_init_4 rfl rfl rfl ?_
  refine v_new (n1 := 2) (kc1 := 1) (ks1 := 9) hX cl0 dv0 nw_RX9_7 ⟨by decide, by decide⟩ dX9_init_5 rfl rfl rfl rfl rfl ?_
  refine w_dup hX dX9_init_8 rfl rfl ?_
  refine w_callI hX (mi_code (nwR R 1) (nwD D 1) (fun b => nwR_s) (fun b => rfl)) ml_RX9_9 rfl (by decide) (Nat.le_of_ble_eq_true rfl) ⟨by decide, by decide⟩ dX9_init_9 rfl rfl ?_
  rintro _ _ _ R1 D1 ⟨rfl, rfl, rfl, c1, c2, c3, c4, c5, c6, c7⟩ -
  dsimp only [Option.toList, List.nil_append]
  refine w_putRF (j := 0) hX cl8 fl_RX9_10_8 rfl (by decide) rfl rfl rfl rfl (Or.inl ⟨_, rfl⟩) dX9_init_12 rfl ?_
  refine w_aload_n (i := 0) hX dX9_init_15 rfl rfl rfl ?_
  refine v_new (n1 := 265) (kc1 := 264) (ks1 := 1366) hX cl4 dv4 nw_RX9_16 ⟨by decide, by decide⟩ dX9_init_16 rfl rfl rfl rfl rfl ?_
  refine w_dup hX dX9_init_19 rfl rfl ?_
  refine w_aload_n (i := 0) hX dX9_init_20 rfl rfl rfl ?_
  refine w_getR (j := 0) (z := 1) hX cl8 fl_RX9_10_8 rfl (by decide) rfl rfl dX9_init_21 rfl ?_
  refine w_callI hX (mi_proof (nwR (upR R1 0 0 (some 1)) 264) (nwD D1 264)) ml_RX9_18 rfl (by decide) (Nat.le_of_ble_eq_true rfl) ⟨by decide, by decide⟩ dX9_init_24 rfl rfl ?_
  rintro _ _ _ _ _ ⟨rfl, rfl, rfl, rfl, rfl⟩ -
  dsimp only [Option.toList, List.nil_append]
  refine w_putRF (j := 1) hX cl8 fl_RX9_21_8 rfl (by decide) rfl rfl rfl rfl (Or.inl ⟨_, rfl⟩) dX9_init_27 rfl ?_
  refine w_aload_n (i := 0) hX dX9_init_30 rfl rfl rfl ?_
  refine v_new (n1 := 276) (kc1 := 275) (ks1 := 2445) hX cl6 dv6 nw_RX9_25 ⟨by decide, by decide⟩ dX9_init_31 rfl rfl rfl rfl rfl ?_
  refine w_dup hX dX9_init_34 rfl rfl ?_
  refine w_aload_n (i := 0) hX dX9_init_35 rfl rfl rfl ?_
  refine w_getR (j := 0) (z := 1) hX cl8 fl_RX9_10_8 rfl (by decide) rfl rfl dX9_init_36 rfl ?_
  refine w_callI hX (mi_walker (nwR (upR (upR (upR (upR (nwR (upR (nwR (upR (nwR (nwR (upR (upR (nwR (upR (nwR (upR (nwR (upR (upR (nwR (upR (nwR (upR (upR (nwR (upR (nwR (upR R1 0 0 (some 1)) 264) 264 0 (some 1)) 265) 265 0 (some 1)) 264 1 (some 265)) 266) 266 0 (some 1)) 267) 266 1 (some 267)) 264 2 (some 266)) 268) 268 0 (some 1)) 269) 268 1 (some 269)) 270) 268 2 (some 270)) 264 3 (some 268)) 271) 272) 271 1 (some 272)) 273) 271 2 (some 273)) 274) 271 3 (some 274)) 271 0 (some 1)) 264 4 (some 271)) 0 1 (some 264)) 275) (nwD (nwD (nwD (nwD (nwD (nwD (nwD (nwD (nwD (nwD (nwD (upD (upD (nwD D1 264) 264 7 (-1)) 264 8 (-1)) 265) 266) 267) 268) 269) 270) 271) 272) 273) 274) 275)) ml_RX9_27 rfl (by decide) (Nat.le_of_ble_eq_true rfl) ⟨by decide, by decide⟩ dX9_init_39 rfl rfl ?_
  rintro _ _ _ _ _ ⟨rfl, rfl, rfl, rfl, rfl⟩ -
  dsimp only [Option.toList, List.nil_append]
  refine w_putRF (j := 2) hX cl8 fl_RX9_28_8 rfl (by decide) rfl rfl rfl rfl (Or.inl ⟨_, rfl⟩) dX9_init_42 rfl ?_
  refine w_vret hX hF dX9_init_45 ⟨rfl, rfl, rfl, ?_, c4, c5, c6, c7, rfl, rfl, rfl, rfl, fun j => rfl, fun j => rfl, fun j => rfl, fun j => rfl, fun j => rfl⟩
  intro a b ha
  by_cases h1 : 1 ≤ a ∧ a < 264
  · repeat (first | rw [upR_a (by omega)] | rw [nwR_a (by omega)])
    exact c2 a b h1.1 h1.2
  · have zq_a : a = 0 ∨ a = 264 ∨ a = 265 ∨ a = 266 ∨ a = 267 ∨ a = 268 ∨ a = 269 ∨ a = 270 ∨ a = 271 ∨ a = 272 ∨ a = 273 ∨ a = 274 ∨ a = 275 ∨ a = 276 ∨ a = 277 ∨ a = 278 := by omega
    rcases zq_a with rfl | rfl | rfl | rfl | rfl | rfl | rfl | rfl | rfl | rfl | rfl | rfl | rfl | rfl | rfl | rfl
    · match b with
      | 0 => rfl
      | 1 => rfl
      | 2 => rfl
      | b + 3 => exact (c1 (b + 3)).trans (hR (b + 3))
    all_goals
      match b with
      | 0 => rfl
      | 1 => rfl
      | 2 => rfl
      | 3 => rfl
      | 4 => rfl
      | b + 5 => rfl
