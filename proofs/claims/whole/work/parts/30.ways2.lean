/-! Ways.longest: forward, from an instruction to another one -/
def inD (D : Dd) (a b s : Int) : Dd := upD (flD D 272 a (b + 1)) 272 a.toNat s
/-- m steps of the loop, from i on -/
noncomputable def itW (u to : Int) : Nat → Int → Dd → Dd
  | 0, _, D => D
  | m + 1, i, D => itW u to m (i + 1) (itP (D 272 i.toNat ≠ -1) (goD D u i to) D)
noncomputable def lgD (D : Dd) (u a b s : Int) : Dd := itW u b (b - a).toNat a (inD D a b s)
theorem ed_w {D : Dd} (hr : rdB D) (hg : grB D) {u i : Int} (h13 : (D (atF D u i) 0) = 13 → 0 ≤ (D (atF D u (i - 1)) 2) ∧ (D (atF D u (i - 1)) 2) ≤ 1000000) : ∀ e ∈ edF D u i, 0 ≤ e.2 := by
  have hs : (D (atF D u i) 0) = 13 → (D (atF D u (i - 1)) 2) ≠ 0 → 0 ≤ srF D i ((D (atF D u (i - 1)) 2) - 1) := by
    intro h h0
    have := h13 h
    unfold srF
    split
    · rename_i q
      have := hr i.toNat (by omega)
      exact (mulB (t := (D (atF D u (i - 1)) 2) - 1) (by omega) (show 0 ≤ D 273 i.toNat ∧ D 273 i.toNat ≤ 1000000002 by omega)).1
    · omega
  have hq := gr_in hg ((D (atF D u i) 1))
  intro e he
  unfold edF at he
  split at he
  · simp at he; rw [he]; simp
  · split at he
    · simp at he; rcases he with he | he <;> rw [he] <;> simp
    · split at he
      · rename_i h
        split at he
        · simp at he; rw [he]; simp
        · rename_i h0
          have := hs h h0
          simp only [List.mem_cons, List.not_mem_nil, or_false] at he; rw [he]; show 0 ≤ 1 + _; omega
      · split at he
        · simp at he; rw [he]; simp
        · split at he
          · simp only [List.mem_cons, List.not_mem_nil, or_false] at he; rw [he]; show 0 ≤ 1 + _; omega
          · split at he
            · simp at he; rw [he]; simp
            · simp at he; rw [he]; simp
theorem keepB.ce {to s : Int} : ∀ {r : List (Int × Int)} {D : Dd}, keepB D (ceD D to s r)
  | [], D => keepB.rf D
  | (t, w) :: r, D => keepB.ct.tr (keepB.ce (r := r))
theorem bfB.ce {to s : Int} (hs : 0 ≤ s) : ∀ {r : List (Int × Int)} {D : Dd}, bfB D → (∀ e ∈ r, 0 ≤ e.2) → bfB (ceD D to s r)
  | [], _, h, _ => h
  | (t, w) :: r, _, h, hw => bfB.ce hs (r := r) (h.ct (by have := hw (t, w) List.mem_cons_self; simp at this; omega)) (fun e he => hw e (List.mem_cons_of_mem _ he))
theorem keepB.go {D : Dd} {u i to : Int} : keepB D (goD D u i to) := keepB.ce
theorem keepB.it {u to : Int} : ∀ {m : Nat} {i : Int} {D : Dd}, keepB D (itW u to m i D)
  | 0, _, D => keepB.rf D
  | m + 1, i, D => by
    show keepB D (itW u to m (i + 1) (itP (D 272 i.toNat ≠ -1) (goD D u i to) D))
    by_cases h : D 272 i.toNat ≠ -1
    · rw [it_t h]; exact keepB.go.tr keepB.it
    · rw [it_f h]; exact keepB.it
theorem keepB.in {D : Dd} {a b s : Int} : keepB D (inD D a b s) := fun k j h => by
  unfold inD
  rw [upD_k h, flD_ne h]
theorem keepB.lg {D : Dd} {u a b s : Int} : keepB D (lgD D u a b s) := keepB.in.tr keepB.it
theorem bfB.in {D : Dd} (h : bfB D) {a b s : Int} (hs : 0 ≤ s ∧ s ≤ 1000000001) : bfB (inD D a b s) := fun j hj => by
  unfold inD
  rw [upD_rd, if_pos rfl]
  split
  · omega
  · unfold flD
    split
    · omega
    · exact h j hj
/-- of every 13 in the unit the 12 before it says how often -/
def V13 (D : Dd) (u : Int) : Prop := ∀ i : Int, (D (atF D u i) 0) = 13 → 0 ≤ (D (atF D u (i - 1)) 2) ∧ (D (atF D u (i - 1)) 2) ≤ 1000000
theorem V13.sm {D D2 : Dd} {u : Int} (h : V13 D u) (k : smC D D2) (hI : InC D) : V13 D2 u := fun i hi => by
  rw [f_sm k hI] at hi ⊢
  exact h i hi
theorem bfB.go {D : Dd} (h : bfB D) (hr : rdB D) (hg : grB D) {u i to : Int} (hv : V13 D u) (hb : 0 ≤ D 272 i.toNat) : bfB (goD D u i to) := bfB.ce hb h (ed_w hr hg (hv i))

set_option maxRecDepth 100000 in
set_option maxHeartbeats 4000000 in
theorem l_fill {X : Cx} {Q : State → Prop} {P : Option AV → Dd → Prop} (hX : GX X yX8_longest cX8_longest 7 (some .long) 3 0 0) (hF : FX X Q P) (D : Dd) (u a b s : Int) (hb : b ≤ 256) (ha : 0 ≤ a ∧ a ≤ b) (hyes : W0 X Q 45 [vR 271, vI u, vI a, vI b, vL s, vN, vI (b + 1)] [] (flD D 272 a (b + 1))) : ∀ (m : Nat) (i : Int), (b + 1 - i).toNat < m → a ≤ i → i ≤ b + 1 → W0 X Q 23 [vR 271, vI u, vI a, vI b, vL s, vN, vI i] [] (flD D 272 a i) := by
  intro m
  induction m with
  | zero =>
    intro i hm h0 h1
    exact absurd hm (Nat.not_lt_zero _)
  | succ m ih =>
    intro i hm h0 h1
    refine w_iload hX dX8_longest_23 rfl rfl ?_
    refine w_iload_n (i := 3) hX dX8_longest_25 rfl rfl rfl ?_
    refine w_icmp_gt (tgt := 45) hX dX8_longest_26 rfl (by decide) (fun h26 => ?_) (fun h26 => ?_)
    · have zq_e : i = b + 1 := by omega
      subst zq_e
      exact hyes
    · refine w_aload_n (i := 0) hX dX8_longest_29 rfl rfl rfl ?_
      refine w_getR (j := 1) hX cl7 fl_RX8_9_7 rfl (by decide) rfl rfl dX8_longest_30 rfl ?_
      refine w_iload hX dX8_longest_33 rfl rfl ?_
      refine w_ldc2 (x := -1) hX kl_RX8_55 dX8_longest_35 rfl (by decide) (by decide) ?_
      refine w_last hX rfl (by omega) (by omega) dX8_longest_38 rfl ?_
      refine w_iinc hX dX8_longest_39 rfl rfl (by decide) (by omega) ?_
      dsimp only [st1X, st2X, klX_I, klX_L, klX_R, klX_S, klX_N]
      refine w_goto (tgt := 23) hX dX8_longest_42 (by decide) ?_
      rw [flD_s D 272 a i (by omega) h0]
      exact ih (i + 1) (by omega) (by omega) (by omega)

set_option maxRecDepth 100000 in
set_option maxHeartbeats 4000000 in
theorem l_way {X : Cx} {Q : State → Prop} {P : Option AV → Dd → Prop} (hX : GX X yX8_longest cX8_longest 7 (some .long) 3 0 0) (hF : FX X Q P) (hy9 : True) (u a b s : Int) (hb : b ≤ 256) (ha : 0 ≤ a ∧ a ≤ b) : ∀ (m : Nat) (i : Int) (D : Dd), (b - i).toNat < m → a ≤ i → i ≤ b → InC D → bfB D → rdB D → grB D → V13 D u → P (some (vL (itW u b (b - i).toNat i D 272 b.toNat))) (itW u b (b - i).toNat i D) → W0 X Q 56 [vR 271, vI u, vI a, vI b, vL s, vN, vI i] [] D := by
  intro m
  induction m with
  | zero =>
    intro i D hm h0 h1 hI hbf hr hg hv hP
    exact absurd hm (Nat.not_lt_zero _)
  | succ m ih =>
    intro i D hm h0 h1 hI hbf hr hg hv hP
    have zq_b := hbf i.toNat (by omega)
    refine w_iload hX dX8_longest_56 rfl rfl ?_
    refine w_iload_n (i := 3) hX dX8_longest_58 rfl rfl rfl ?_
    refine w_icmp_ge (tgt := 90) hX dX8_longest_59 rfl (by decide) (fun h59 => ?_) (fun h59 => ?_)
    · have zq_e : i = b := by omega
      subst zq_e
      rw [show (i - i).toNat = 0 by omega] at hP
      have hP : P (some (vL (D 272 i.toNat))) D := hP
      refine w_aload_n (i := 0) hX dX8_longest_90 rfl rfl rfl ?_
      refine w_getR (j := 1) hX cl7 fl_RX8_9_7 rfl (by decide) rfl rfl dX8_longest_91 rfl ?_
      refine w_iload_n (i := 3) hX dX8_longest_94 rfl rfl rfl ?_
      refine w_lald hX rfl (by omega) (by omega) dX8_longest_95 rfl ?_
      exact e_l hX hF dX8_longest_96 hP
    · rw [show (b - i).toNat = (b - (i + 1)).toNat + 1 by omega] at hP
      have hP : P (some (vL (itW u b (b - (i + 1)).toNat (i + 1) (itP (D 272 i.toNat ≠ -1) (goD D u i b) D) 272 b.toNat))) (itW u b (b - (i + 1)).toNat (i + 1) (itP (D 272 i.toNat ≠ -1) (goD D u i b) D)) := hP
      refine w_aload_n (i := 0) hX dX8_longest_62 rfl rfl rfl ?_
      refine w_getR (j := 1) hX cl7 fl_RX8_9_7 rfl (by decide) rfl rfl dX8_longest_63 rfl ?_
      refine w_iload hX dX8_longest_66 rfl rfl ?_
      refine w_lald hX rfl (by omega) (by omega) dX8_longest_68 rfl ?_
      refine w_ldc2 (x := -1) hX kl_RX8_55 dX8_longest_69 rfl (by decide) (by decide) ?_
      refine w_lcmp hX dX8_longest_72 rfl ?_
      refine w_if_eq (tgt := 84) hX dX8_longest_73 rfl (by decide) (fun h73 => ?_) (fun h73 => ?_)
      · rw [lc_eq] at h73
        rw [it_f (by omega)] at hP
        refine w_iinc hX dX8_longest_84 rfl rfl (by decide) (by omega) ?_
        dsimp only [st1X, st2X, klX_I, klX_L, klX_R, klX_S, klX_N]
        refine w_goto (tgt := 56) hX dX8_longest_87 (by decide) ?_
        exact ih (i + 1) D (by omega) (by omega) (by omega) hI hbf hr hg hv hP
      · rw [lc_eq] at h73
        rw [it_t (by omega)] at hP
        refine w_aload_n (i := 0) hX dX8_longest_76 rfl rfl rfl ?_
        refine w_iload_n (i := 1) hX dX8_longest_77 rfl rfl rfl ?_
        refine w_iload hX dX8_longest_78 rfl rfl ?_
        refine w_iload_n (i := 3) hX dX8_longest_80 rfl rfl rfl ?_
        refine c_V hX ml_RX8_59 cl7 dX8_longest_81 rfl (m_goOn D hI u i b hb (by omega) (by omega) hr hg (hv i)) rfl rfl rfl (by decide) (Nat.le_of_ble_eq_true rfl) ?_
        rintro _ _ ⟨rfl, rfl⟩ -
        all_goals try dsimp only [Option.toList, List.cons_append, List.nil_append]
        refine w_iinc hX dX8_longest_84 rfl rfl (by decide) (by omega) ?_
        dsimp only [st1X, st2X, klX_I, klX_L, klX_R, klX_S, klX_N]
        refine w_goto (tgt := 56) hX dX8_longest_87 (by decide) ?_
        exact ih (i + 1) _ (by omega) (by omega) (by omega) (in_sm keepB.go.sm hI) (bfB.go hbf hr hg hv (by omega)) (hr.kp keepB.go) (hg.kp keepB.go) (hv.sm keepB.go.sm hI) hP

set_option maxRecDepth 100000 in
set_option maxHeartbeats 4000000 in
theorem m_longest (D : Dd) (hI : InC D) (u a b s : Int) (hb : b ≤ 256) (ha : 0 ≤ a ∧ a ≤ b) (hs : 0 ≤ s ∧ s ≤ 1) (hbf : bfB D) (hr : rdB D) (hg : grB D) (hv : V13 D u) : MC 3 yX8_longest cX8_longest 7 (some .long) [vR 271, vI u, vI a, vI b, vL s] D (Is (some (vL (lgD D u a b s 272 b.toNat))) (lgD D u a b s)) := by
  refine MC.mk [vR 271, vI u, vI a, vI b, vL s, vN, vN] (by decide) (Nat.le_of_ble_eq_true rfl) rfl (fun X Q hX hF hok hol => ?_)
  refine w_iload_n (i := 2) hX dX8_longest_0 rfl rfl rfl ?_
  refine w_if_lt (tgt := 16) hX dX8_longest_1 rfl (by decide) (fun h1 => ?_) (fun h1 => ?_)
  · exfalso; omega
  · refine w_iload_n (i := 2) hX dX8_longest_4 rfl rfl rfl ?_
    refine w_iload_n (i := 3) hX dX8_longest_5 rfl rfl rfl ?_
    refine w_icmp_gt (tgt := 16) hX dX8_longest_6 rfl (by decide) (fun h6 => ?_) (fun h6 => ?_)
    · exfalso; omega
    · refine w_iload_n (i := 3) hX dX8_longest_9 rfl rfl rfl ?_
      refine w_sipush hX dX8_longest_10 rfl (by decide) ?_
      refine w_icmp_le (tgt := 20) hX dX8_longest_13 rfl (by decide) (fun h13 => ?_) (fun h13 => ?_)
      · refine w_iload_n (i := 2) hX dX8_longest_20 rfl rfl rfl ?_
        refine w_istore hX dX8_longest_21 rfl (by decide) ?_
        dsimp only [st1X, st2X, klX_I, klX_L, klX_R, klX_S, klX_N]
        have zq_l := l_fill hX hF D u a b s hb ha ?_ _ a (Nat.lt_succ_self _) (by omega) (by omega)
        · rw [flD_0] at zq_l
          exact zq_l
        refine w_aload_n (i := 0) hX dX8_longest_45 rfl rfl rfl ?_
        refine w_getR (j := 1) hX cl7 fl_RX8_9_7 rfl (by decide) rfl rfl dX8_longest_46 rfl ?_
        refine w_iload_n (i := 2) hX dX8_longest_49 rfl rfl rfl ?_
        refine w_lload hX dX8_longest_50 rfl rfl ?_
        refine w_last hX rfl (by omega) (by omega) dX8_longest_52 rfl ?_
        refine w_iload_n (i := 2) hX dX8_longest_53 rfl rfl rfl ?_
        refine w_istore hX dX8_longest_54 rfl (by decide) ?_
        dsimp only [st1X, st2X, klX_I, klX_L, klX_R, klX_S, klX_N]
        exact l_way hX hF trivial u a b s hb ha _ a _ (Nat.lt_succ_self _) (by omega) (by omega) (in_sm keepB.in.sm hI) (bfB.in hbf (by omega)) (hr.kp keepB.in) (hg.kp keepB.in) (hv.sm keepB.in.sm hI) ⟨rfl, rfl⟩
      · exfalso; omega
