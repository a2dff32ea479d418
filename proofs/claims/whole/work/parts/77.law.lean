/-! The law's loop -/
section LAW
variable {X : Cx} {Q : State → Prop} {kc ks pc q : Nat} {ls st : List AV} {D : Dd} {y : MethodName} {cc : ByteArray} {nL : Nat} {ret : Option FieldType} {dd rc rs : Nat} {P : Option AV → Dd → Prop}
theorem cc_V {z : MethodName} {cz : ByteArray} {mz : Nat} {rz : Option FieldType} {na dz idx k ci : Nat} {As stk : List AV} {C : String} {T : u_T} {ty : Nat → FieldType} (hX : GX X y cc nL ret dd rc rs) (hv : VLX y.cls idx C z cz mz rz na) (hc : CLX ci C T ty) (hd : decode cc pc = .ok (.invokevirtual idx, 3)) (hq : pc + 3 = q) (hM : MC dz z cz mz rz (vR k :: As) D P) (hs : As.reverse ++ vR k :: st = stk) (hk : K0 k = (0, ci)) (hn : As.length = na) (hdz : dz + 1 ≤ dd ∧ mz ≤ 17) (hw : (st.map catX).sum ≤ 8) (hf : kc ≤ rc ∧ ks ≤ rs)
    (kk : ∀ (r : Option AV) (D' : Dd), P r D' → okH 296 K0 R0 D' → WW X Q kc ks q ls (r.toList ++ st) 296 K0 R0 D') : WW X Q kc ks pc ls stk 296 K0 R0 D :=
  w_callV hX hM hv hc hk hn hdz hw hf hd hq hs (fun r n' K' R' D' hP hH => by
    obtain ⟨rfl, rfl, rfl, hP⟩ := hP
    exact kk r D' hP hH)
theorem w_scr {i : Int} {L : Nat} {xs : Nat → Int} (hX : GX X y cc nL ret dd rc rs) (hs : roX X.2.2.2.2.2.2.2.2.2.2.2.2.2.2.1 2 = (L, xs)) (h0 : 0 ≤ i) (h1 : i < L) (hd : decode cc pc = .ok (.iaload, 1)) (hq : pc + 1 = q) (kk : WW X Q kc ks q ls (vI (xs i.toNat) :: st) 296 K0 R0 D) : WW X Q kc ks pc ls (vI i :: vS 2 :: st) 296 K0 R0 D := by
  refine w_sald hX (by decide) h0 (by rw [hs]; exact h1) hd hq ?_
  rw [hs]
  exact kk
end LAW
theorem SRo.C {D0 D2 : Dd} {r : Option AV} (h : SRo D0 r D2) : kC D0 D2 := by
  have kCS : ∀ {m : Nat} {D : Dd}, SR D0 m D → kC D0 D := by
    intro m
    induction m with
    | zero => intro D q; have q : D = D0 := q; rw [q]; exact kC.rf D0
    | succ m ih => intro D q; obtain ⟨D', a1, a2⟩ := q; exact (ih a1).tr a2.C
  rcases h with ⟨m, D', _, a2, a3, _⟩ | ⟨D', a1, a2, _⟩
  · exact (kCS a2).tr a3.C
  · rw [← a2]; exact (kCS a1).up (by decide)
theorem MI.kp {D D1 : Dd} (h : MI D) (m1 : ∀ l j, 274 < l → D1 l j = D l j) : MI D1 := by
  refine ⟨?_, ⟨fun j hj => by rw [m1 _ _ (by decide)]; exact h.2.1 j hj, fun j hj => by rw [m1 _ _ (by decide)]; exact h.2.2.1 j hj, fun j hj => by rw [m1 _ _ (by decide)]; exact h.2.2.2 j hj⟩⟩
  unfold MF InM
  simp only [m1 279 _ (by decide), m1 282 _ (by decide), m1 281 _ (by decide), m1 280 _ (by decide)]
  exact h.1
theorem nu_m (D : Dd) (f p : Int) : ∀ l j, 274 < l → fgD (nuD D f p) l j = D l j := fun l j hl => by
  rw [(fg_v _).1 l j (by omega)]
  unfold nuD
  rw [upD_k (by omega), upD_k (by omega), upD_k (by omega), upD_k (by omega), upD_k (by omega)]
theorem ni_m (D : Dd) (hI : InC D) (h8 : D 1 8 < 256) (x a b c : Int) : ∀ l j, 274 < l → fgD (niD D x a b c) l j = D l j := fun l j hl => by
  have := hI.2.1
  rw [(fg_v _).1 l j (by omega)]
  unfold niD
  rw [upD_k (by omega), upD_k (by omega), upD_k (by omega), upD_k (by omega), upD_k (by omega), upD_k (by omega)]
theorem ch_m (D : Dd) (hI : InC D) (u i x a b c : Int) : ∀ l j, 274 < l → rwD (fgD D) (atF D u i) x a b c l j = D l j := fun l j hl => by
  have hk : atF D u i < 264 := by
    unfold atF
    split
    · rename_i w
      have := hI.2.2 u.toNat (by omega)
      have := hI.2.1
      omega
    · decide
  rw [(rw_v _ _ _ _ _ _).1 l j (by omega), (fg_v _).1 l j (by omega)]

set_option maxRecDepth 100000 in
set_option maxHeartbeats 4000000 in
theorem lk_begin {X : Cx} {Q : State → Prop} {nm : String} (hX : GX X ⟨RL, nm, "([I)Z"⟩ cL_law 4 (some .boolean) 10 600000 7302250) {L : Nat} {xs : Nat → Int} (hs : roX X.2.2.2.2.2.2.2.2.2.2.2.2.2.2.1 2 = (L, xs)) (hL : L ≤ 448) (i : Int) (hi : 0 ≤ i ∧ i ≤ L - 7) (D : Dd) (h : Sim D) (tl : ∀ D2, Sim D2 → WW X Q 296 8792 403 [vS 2, vR 0, vR 279, vI i] [] 296 K0 R0 D2) : WW X Q 296 8792 84 [vS 2, vR 0, vR 279, vI i] [] 296 K0 R0 D := by
  have hI := h.2.1.1
  refine w_aload_n (i := 1) hX dL_law_84 rfl rfl rfl ?_
  refine w_aload_nS (i := 0) hX dL_law_85 rfl rfl rfl ?_
  refine w_iload_n (i := 3) hX dL_law_86 rfl rfl rfl ?_
  refine w_iconst hX dL_law_87 rfl (by decide) ?_
  refine w_iadd hX dL_law_88 rfl (by omega) ?_
  refine w_scr hX hs (by omega) (by omega) dL_law_89 rfl ?_
  refine cc_V hX ml_RL_13 cl8 dL_law_90 rfl (f_begin D _) rfl rfl rfl (by decide) (Nat.le_of_ble_eq_true rfl) ⟨by decide, by decide⟩ ?_
  rintro _ D1 zq_1 -
  rcases zq_1 with ⟨zq_c, rfl, rfl⟩ | ⟨zq_c, rfl, rfl⟩
  · dsimp only [Option.toList, List.cons_append, List.nil_append]
    refine w_aload_n (i := 2) hX dL_law_93 rfl rfl rfl ?_
    refine w_aload_nS (i := 0) hX dL_law_94 rfl rfl rfl ?_
    refine w_iload_n (i := 3) hX dL_law_95 rfl rfl rfl ?_
    refine w_iconst hX dL_law_96 rfl (by decide) ?_
    refine w_iadd hX dL_law_97 rfl (by omega) ?_
    refine w_scr hX hs (by omega) (by omega) dL_law_98 rfl ?_
    refine cc_V hX ml_RL_17 cl9 dL_law_99 rfl (r_begin _ _) rfl rfl rfl (by decide) (Nat.le_of_ble_eq_true rfl) ⟨by decide, by decide⟩ ?_
    rintro _ D2 zq_2 -
    rcases zq_2 with ⟨zq_d, rfl, rfl⟩ | ⟨zq_d, rfl, rfl⟩
    · dsimp only [Option.toList, List.cons_append, List.nil_append]
      refine w_icmp_eq (tgt := 403) hX dL_law_102 rfl (by decide) (fun _ => ?_) (fun zq_n => absurd rfl zq_n)
      exact tl _ h
    · exfalso; omega
  · dsimp only [Option.toList, List.cons_append, List.nil_append]
    refine w_aload_n (i := 2) hX dL_law_93 rfl rfl rfl ?_
    refine w_aload_nS (i := 0) hX dL_law_94 rfl rfl rfl ?_
    refine w_iload_n (i := 3) hX dL_law_95 rfl rfl rfl ?_
    refine w_iconst hX dL_law_96 rfl (by decide) ?_
    refine w_iadd hX dL_law_97 rfl (by omega) ?_
    refine w_scr hX hs (by omega) (by omega) dL_law_98 rfl ?_
    refine cc_V hX ml_RL_17 cl9 dL_law_99 rfl (r_begin _ _) rfl rfl rfl (by decide) (Nat.le_of_ble_eq_true rfl) ⟨by decide, by decide⟩ ?_
    rintro _ D2 zq_2 -
    rcases zq_2 with ⟨zq_d, rfl, rfl⟩ | ⟨zq_d, rfl, rfl⟩
    · exfalso; omega
    · dsimp only [Option.toList, List.cons_append, List.nil_append]
      refine w_icmp_eq (tgt := 403) hX dL_law_102 rfl (by decide) (fun _ => ?_) (fun zq_n => absurd rfl zq_n)
      exact tl _ (sim_begin h zq_c)

set_option maxRecDepth 100000 in
set_option maxHeartbeats 4000000 in
theorem lk_unit {X : Cx} {Q : State → Prop} {nm : String} (hX : GX X ⟨RL, nm, "([I)Z"⟩ cL_law 4 (some .boolean) 10 600000 7302250) {L : Nat} {xs : Nat → Int} (hs : roX X.2.2.2.2.2.2.2.2.2.2.2.2.2.2.1 2 = (L, xs)) (hL : L ≤ 448) (i : Int) (hi : 0 ≤ i ∧ i ≤ L - 7) (D : Dd) (h : Sim D) (tl : ∀ D2, Sim D2 → WW X Q 296 8792 403 [vS 2, vR 0, vR 279, vI i] [] 296 K0 R0 D2) : WW X Q 296 8792 107 [vS 2, vR 0, vR 279, vI i] [] 296 K0 R0 D := by
  have hI := h.2.1.1
  refine w_aload_n (i := 1) hX dL_law_107 rfl rfl rfl ?_
  refine w_aload_nS (i := 0) hX dL_law_108 rfl rfl rfl ?_
  refine w_iload_n (i := 3) hX dL_law_109 rfl rfl rfl ?_
  refine w_iconst hX dL_law_110 rfl (by decide) ?_
  refine w_iadd hX dL_law_111 rfl (by omega) ?_
  refine w_scr hX hs (by omega) (by omega) dL_law_112 rfl ?_
  refine w_aload_nS (i := 0) hX dL_law_113 rfl rfl rfl ?_
  refine w_iload_n (i := 3) hX dL_law_114 rfl rfl rfl ?_
  refine w_iconst hX dL_law_115 rfl (by decide) ?_
  refine w_iadd hX dL_law_116 rfl (by omega) ?_
  refine w_scr hX hs (by omega) (by omega) dL_law_117 rfl ?_
  refine cc_V hX ml_RL_18 cl8 dL_law_118 rfl (f_unit D hI _ _) rfl rfl rfl (by decide) (Nat.le_of_ble_eq_true rfl) ⟨by decide, by decide⟩ ?_
  rintro _ D1 zq_1 -
  rcases zq_1 with ⟨zq_c, rfl, rfl⟩ | ⟨zq_c, rfl, zq_e1⟩
  · dsimp only [Option.toList, List.cons_append, List.nil_append]
    refine w_aload_n (i := 2) hX dL_law_121 rfl rfl rfl ?_
    refine w_aload_nS (i := 0) hX dL_law_122 rfl rfl rfl ?_
    refine w_iload_n (i := 3) hX dL_law_123 rfl rfl rfl ?_
    refine w_iconst hX dL_law_124 rfl (by decide) ?_
    refine w_iadd hX dL_law_125 rfl (by omega) ?_
    refine w_scr hX hs (by omega) (by omega) dL_law_126 rfl ?_
    refine w_aload_nS (i := 0) hX dL_law_127 rfl rfl rfl ?_
    refine w_iload_n (i := 3) hX dL_law_128 rfl rfl rfl ?_
    refine w_iconst hX dL_law_129 rfl (by decide) ?_
    refine w_iadd hX dL_law_130 rfl (by omega) ?_
    refine w_scr hX hs (by omega) (by omega) dL_law_131 rfl ?_
    refine cc_V hX ml_RL_22 cl9 dL_law_132 rfl (r_unit _ h.2.2.1.1.1 _ _) rfl rfl rfl (by decide) (Nat.le_of_ble_eq_true rfl) ⟨by decide, by decide⟩ ?_
    rintro _ D2 zq_2 -
    have zq_u := h.1.2.1
    rcases zq_2 with ⟨zq_d, rfl, rfl⟩ | ⟨zq_d, rfl, zq_e2⟩
    · dsimp only [Option.toList, List.cons_append, List.nil_append]
      refine w_icmp_eq (tgt := 403) hX dL_law_135 rfl (by decide) (fun _ => ?_) (fun zq_n => absurd rfl zq_n)
      exact tl _ h
    · exfalso; omega
  · dsimp only [Option.toList, List.cons_append, List.nil_append]
    refine w_aload_n (i := 2) hX dL_law_121 rfl rfl rfl ?_
    refine w_aload_nS (i := 0) hX dL_law_122 rfl rfl rfl ?_
    refine w_iload_n (i := 3) hX dL_law_123 rfl rfl rfl ?_
    refine w_iconst hX dL_law_124 rfl (by decide) ?_
    refine w_iadd hX dL_law_125 rfl (by omega) ?_
    refine w_scr hX hs (by omega) (by omega) dL_law_126 rfl ?_
    refine w_aload_nS (i := 0) hX dL_law_127 rfl rfl rfl ?_
    refine w_iload_n (i := 3) hX dL_law_128 rfl rfl rfl ?_
    refine w_iconst hX dL_law_129 rfl (by decide) ?_
    refine w_iadd hX dL_law_130 rfl (by omega) ?_
    refine w_scr hX hs (by omega) (by omega) dL_law_131 rfl ?_
    refine cc_V hX ml_RL_22 cl9 dL_law_132 rfl (r_unit _ (h.2.2.1.kp (fun l j hl => by rw [← zq_e1]; exact nu_m D _ _ l j hl)).1.1 _ _) rfl rfl rfl (by decide) (Nat.le_of_ble_eq_true rfl) ⟨by decide, by decide⟩ ?_
    rintro _ D2 zq_2 -
    have zq_u : D1 279 1 = D 1 7 := by rw [← zq_e1, nu_m D _ _ _ _ (by decide)]; exact h.1.2.1.symm
    rcases zq_2 with ⟨zq_d, rfl, rfl⟩ | ⟨zq_d, rfl, zq_e2⟩
    · exfalso; omega
    · dsimp only [Option.toList, List.cons_append, List.nil_append]
      refine w_icmp_eq (tgt := 403) hX dL_law_135 rfl (by decide) (fun _ => ?_) (fun zq_n => absurd zq_u.symm zq_n)
      exact tl _ (sim_unit h zq_c zq_e1 zq_e2).2

set_option maxRecDepth 100000 in
set_option maxHeartbeats 4000000 in
theorem lk_add {X : Cx} {Q : State → Prop} {nm : String} (hX : GX X ⟨RL, nm, "([I)Z"⟩ cL_law 4 (some .boolean) 10 600000 7302250) {L : Nat} {xs : Nat → Int} (hs : roX X.2.2.2.2.2.2.2.2.2.2.2.2.2.2.1 2 = (L, xs)) (hL : L ≤ 448) (i : Int) (hi : 0 ≤ i ∧ i ≤ L - 7) (D : Dd) (h : Sim D) (tl : ∀ D2, Sim D2 → WW X Q 296 8792 403 [vS 2, vR 0, vR 279, vI i] [] 296 K0 R0 D2) : WW X Q 296 8792 140 [vS 2, vR 0, vR 279, vI i] [] 296 K0 R0 D := by
  have hI := h.2.1.1
  refine w_aload_n (i := 1) hX dL_law_140 rfl rfl rfl ?_
  refine w_aload_nS (i := 0) hX dL_law_141 rfl rfl rfl ?_
  refine w_iload_n (i := 3) hX dL_law_142 rfl rfl rfl ?_
  refine w_iconst hX dL_law_143 rfl (by decide) ?_
  refine w_iadd hX dL_law_144 rfl (by omega) ?_
  refine w_scr hX hs (by omega) (by omega) dL_law_145 rfl ?_
  refine w_aload_nS (i := 0) hX dL_law_146 rfl rfl rfl ?_
  refine w_iload_n (i := 3) hX dL_law_147 rfl rfl rfl ?_
  refine w_iconst hX dL_law_148 rfl (by decide) ?_
  refine w_iadd hX dL_law_149 rfl (by omega) ?_
  refine w_scr hX hs (by omega) (by omega) dL_law_150 rfl ?_
  refine w_aload_nS (i := 0) hX dL_law_151 rfl rfl rfl ?_
  refine w_iload_n (i := 3) hX dL_law_152 rfl rfl rfl ?_
  refine w_iconst hX dL_law_153 rfl (by decide) ?_
  refine w_iadd hX dL_law_154 rfl (by omega) ?_
  refine w_scr hX hs (by omega) (by omega) dL_law_155 rfl ?_
  refine w_aload_nS (i := 0) hX dL_law_156 rfl rfl rfl ?_
  refine w_iload_n (i := 3) hX dL_law_157 rfl rfl rfl ?_
  refine w_iconst hX dL_law_158 rfl (by decide) ?_
  refine w_iadd hX dL_law_159 rfl (by omega) ?_
  refine w_scr hX hs (by omega) (by omega) dL_law_160 rfl ?_
  refine cc_V hX ml_RL_23 cl8 dL_law_161 rfl (f_add D hI _ _ _ _) rfl rfl rfl (by decide) (Nat.le_of_ble_eq_true rfl) ⟨by decide, by decide⟩ ?_
  rintro _ D1 zq_1 -
  rcases zq_1 with ⟨zq_c, rfl, rfl⟩ | ⟨zq_c, rfl, zq_e1⟩
  · dsimp only [Option.toList, List.cons_append, List.nil_append]
    refine w_aload_n (i := 2) hX dL_law_164 rfl rfl rfl ?_
    refine w_aload_nS (i := 0) hX dL_law_165 rfl rfl rfl ?_
    refine w_iload_n (i := 3) hX dL_law_166 rfl rfl rfl ?_
    refine w_iconst hX dL_law_167 rfl (by decide) ?_
    refine w_iadd hX dL_law_168 rfl (by omega) ?_
    refine w_scr hX hs (by omega) (by omega) dL_law_169 rfl ?_
    refine w_aload_nS (i := 0) hX dL_law_170 rfl rfl rfl ?_
    refine w_iload_n (i := 3) hX dL_law_171 rfl rfl rfl ?_
    refine w_iconst hX dL_law_172 rfl (by decide) ?_
    refine w_iadd hX dL_law_173 rfl (by omega) ?_
    refine w_scr hX hs (by omega) (by omega) dL_law_174 rfl ?_
    refine w_aload_nS (i := 0) hX dL_law_175 rfl rfl rfl ?_
    refine w_iload_n (i := 3) hX dL_law_176 rfl rfl rfl ?_
    refine w_iconst hX dL_law_177 rfl (by decide) ?_
    refine w_iadd hX dL_law_178 rfl (by omega) ?_
    refine w_scr hX hs (by omega) (by omega) dL_law_179 rfl ?_
    refine w_aload_nS (i := 0) hX dL_law_180 rfl rfl rfl ?_
    refine w_iload_n (i := 3) hX dL_law_181 rfl rfl rfl ?_
    refine w_iconst hX dL_law_182 rfl (by decide) ?_
    refine w_iadd hX dL_law_183 rfl (by omega) ?_
    refine w_scr hX hs (by omega) (by omega) dL_law_184 rfl ?_
    refine cc_V hX ml_RL_27 cl9 dL_law_185 rfl (r_add _ h.2.2.1.1.1 _ _ _ _) rfl rfl rfl (by decide) (Nat.le_of_ble_eq_true rfl) ⟨by decide, by decide⟩ ?_
    rintro _ D2 zq_2 -
    have zq_u := h.1.2.1
    have zq_v := h.2.2.2.2.2.1
    rcases zq_2 with ⟨zq_d, rfl, rfl⟩ | ⟨zq_d, rfl, zq_e2⟩
    · dsimp only [Option.toList, List.cons_append, List.nil_append]
      refine w_icmp_eq (tgt := 403) hX dL_law_188 rfl (by decide) (fun _ => ?_) (fun zq_n => absurd rfl zq_n)
      exact tl _ h
    · exfalso; omega
  · dsimp only [Option.toList, List.cons_append, List.nil_append]
    refine w_aload_n (i := 2) hX dL_law_164 rfl rfl rfl ?_
    refine w_aload_nS (i := 0) hX dL_law_165 rfl rfl rfl ?_
    refine w_iload_n (i := 3) hX dL_law_166 rfl rfl rfl ?_
    refine w_iconst hX dL_law_167 rfl (by decide) ?_
    refine w_iadd hX dL_law_168 rfl (by omega) ?_
    refine w_scr hX hs (by omega) (by omega) dL_law_169 rfl ?_
    refine w_aload_nS (i := 0) hX dL_law_170 rfl rfl rfl ?_
    refine w_iload_n (i := 3) hX dL_law_171 rfl rfl rfl ?_
    refine w_iconst hX dL_law_172 rfl (by decide) ?_
    refine w_iadd hX dL_law_173 rfl (by omega) ?_
    refine w_scr hX hs (by omega) (by omega) dL_law_174 rfl ?_
    refine w_aload_nS (i := 0) hX dL_law_175 rfl rfl rfl ?_
    refine w_iload_n (i := 3) hX dL_law_176 rfl rfl rfl ?_
    refine w_iconst hX dL_law_177 rfl (by decide) ?_
    refine w_iadd hX dL_law_178 rfl (by omega) ?_
    refine w_scr hX hs (by omega) (by omega) dL_law_179 rfl ?_
    refine w_aload_nS (i := 0) hX dL_law_180 rfl rfl rfl ?_
    refine w_iload_n (i := 3) hX dL_law_181 rfl rfl rfl ?_
    refine w_iconst hX dL_law_182 rfl (by decide) ?_
    refine w_iadd hX dL_law_183 rfl (by omega) ?_
    refine w_scr hX hs (by omega) (by omega) dL_law_184 rfl ?_
    refine cc_V hX ml_RL_27 cl9 dL_law_185 rfl (r_add _ (h.2.2.1.kp (fun l j hl => by rw [← zq_e1]; exact ni_m D hI zq_c.2 _ _ _ _ l j hl)).1.1 _ _ _ _) rfl rfl rfl (by decide) (Nat.le_of_ble_eq_true rfl) ⟨by decide, by decide⟩ ?_
    rintro _ D2 zq_2 -
    have zq_u : D1 279 1 = D 1 7 := by rw [← zq_e1, ni_m D hI zq_c.2 _ _ _ _ _ _ (by decide)]; exact h.1.2.1.symm
    have zq_v : D1 279 5 = D 1 8 := by rw [← zq_e1, ni_m D hI zq_c.2 _ _ _ _ _ _ (by decide)]; exact h.2.2.2.2.2.1.symm
    rcases zq_2 with ⟨zq_d, rfl, rfl⟩ | ⟨zq_d, rfl, zq_e2⟩
    · exfalso; omega
    · have zq_s := sim_add h zq_c zq_e1 zq_e2
      dsimp only [Option.toList, List.cons_append, List.nil_append]
      refine w_icmp_eq (tgt := 403) hX dL_law_188 rfl (by decide) (fun _ => ?_) (fun zq_n => absurd zq_s.1 zq_n)
      exact tl _ zq_s.2.2.2

set_option maxRecDepth 100000 in
set_option maxHeartbeats 4000000 in
theorem lk_change {X : Cx} {Q : State → Prop} {nm : String} (hX : GX X ⟨RL, nm, "([I)Z"⟩ cL_law 4 (some .boolean) 10 600000 7302250) {L : Nat} {xs : Nat → Int} (hs : roX X.2.2.2.2.2.2.2.2.2.2.2.2.2.2.1 2 = (L, xs)) (hL : L ≤ 448) (i : Int) (hi : 0 ≤ i ∧ i ≤ L - 7) (D : Dd) (h : Sim D) (tl : ∀ D2, Sim D2 → WW X Q 296 8792 403 [vS 2, vR 0, vR 279, vI i] [] 296 K0 R0 D2) : WW X Q 296 8792 193 [vS 2, vR 0, vR 279, vI i] [] 296 K0 R0 D := by
  have hI := h.2.1.1
  refine w_aload_n (i := 1) hX dL_law_193 rfl rfl rfl ?_
  refine w_aload_nS (i := 0) hX dL_law_194 rfl rfl rfl ?_
  refine w_iload_n (i := 3) hX dL_law_195 rfl rfl rfl ?_
  refine w_iconst hX dL_law_196 rfl (by decide) ?_
  refine w_iadd hX dL_law_197 rfl (by omega) ?_
  refine w_scr hX hs (by omega) (by omega) dL_law_198 rfl ?_
  refine w_aload_nS (i := 0) hX dL_law_199 rfl rfl rfl ?_
  refine w_iload_n (i := 3) hX dL_law_200 rfl rfl rfl ?_
  refine w_iconst hX dL_law_201 rfl (by decide) ?_
  refine w_iadd hX dL_law_202 rfl (by omega) ?_
  refine w_scr hX hs (by omega) (by omega) dL_law_203 rfl ?_
  refine w_aload_nS (i := 0) hX dL_law_204 rfl rfl rfl ?_
  refine w_iload_n (i := 3) hX dL_law_205 rfl rfl rfl ?_
  refine w_iconst hX dL_law_206 rfl (by decide) ?_
  refine w_iadd hX dL_law_207 rfl (by omega) ?_
  refine w_scr hX hs (by omega) (by omega) dL_law_208 rfl ?_
  refine w_aload_nS (i := 0) hX dL_law_209 rfl rfl rfl ?_
  refine w_iload_n (i := 3) hX dL_law_210 rfl rfl rfl ?_
  refine w_iconst hX dL_law_211 rfl (by decide) ?_
  refine w_iadd hX dL_law_212 rfl (by omega) ?_
  refine w_scr hX hs (by omega) (by omega) dL_law_213 rfl ?_
  refine w_aload_nS (i := 0) hX dL_law_214 rfl rfl rfl ?_
  refine w_iload_n (i := 3) hX dL_law_215 rfl rfl rfl ?_
  refine w_iconst hX dL_law_216 rfl (by decide) ?_
  refine w_iadd hX dL_law_217 rfl (by omega) ?_
  refine w_scr hX hs (by omega) (by omega) dL_law_218 rfl ?_
  refine w_aload_nS (i := 0) hX dL_law_219 rfl rfl rfl ?_
  refine w_iload_n (i := 3) hX dL_law_220 rfl rfl rfl ?_
  refine w_bipush hX dL_law_221 rfl (by decide) ?_
  refine w_iadd hX dL_law_223 rfl (by omega) ?_
  refine w_scr hX hs (by omega) (by omega) dL_law_224 rfl ?_
  refine cc_V hX ml_RL_28 cl8 dL_law_225 rfl (f_change D hI _ _ _ _ _ _) rfl rfl rfl (by decide) (Nat.le_of_ble_eq_true rfl) ⟨by decide, by decide⟩ ?_
  rintro _ D1 zq_1 -
  rcases zq_1 with ⟨zq_c, rfl, rfl⟩ | ⟨zq_c, rfl, zq_e1⟩
  · dsimp only [Option.toList, List.cons_append, List.nil_append]
    refine w_aload_n (i := 2) hX dL_law_228 rfl rfl rfl ?_
    refine w_aload_nS (i := 0) hX dL_law_229 rfl rfl rfl ?_
    refine w_iload_n (i := 3) hX dL_law_230 rfl rfl rfl ?_
    refine w_iconst hX dL_law_231 rfl (by decide) ?_
    refine w_iadd hX dL_law_232 rfl (by omega) ?_
    refine w_scr hX hs (by omega) (by omega) dL_law_233 rfl ?_
    refine w_aload_nS (i := 0) hX dL_law_234 rfl rfl rfl ?_
    refine w_iload_n (i := 3) hX dL_law_235 rfl rfl rfl ?_
    refine w_iconst hX dL_law_236 rfl (by decide) ?_
    refine w_iadd hX dL_law_237 rfl (by omega) ?_
    refine w_scr hX hs (by omega) (by omega) dL_law_238 rfl ?_
    refine w_aload_nS (i := 0) hX dL_law_239 rfl rfl rfl ?_
    refine w_iload_n (i := 3) hX dL_law_240 rfl rfl rfl ?_
    refine w_iconst hX dL_law_241 rfl (by decide) ?_
    refine w_iadd hX dL_law_242 rfl (by omega) ?_
    refine w_scr hX hs (by omega) (by omega) dL_law_243 rfl ?_
    refine w_aload_nS (i := 0) hX dL_law_244 rfl rfl rfl ?_
    refine w_iload_n (i := 3) hX dL_law_245 rfl rfl rfl ?_
    refine w_iconst hX dL_law_246 rfl (by decide) ?_
    refine w_iadd hX dL_law_247 rfl (by omega) ?_
    refine w_scr hX hs (by omega) (by omega) dL_law_248 rfl ?_
    refine w_aload_nS (i := 0) hX dL_law_249 rfl rfl rfl ?_
    refine w_iload_n (i := 3) hX dL_law_250 rfl rfl rfl ?_
    refine w_iconst hX dL_law_251 rfl (by decide) ?_
    refine w_iadd hX dL_law_252 rfl (by omega) ?_
    refine w_scr hX hs (by omega) (by omega) dL_law_253 rfl ?_
    refine w_aload_nS (i := 0) hX dL_law_254 rfl rfl rfl ?_
    refine w_iload_n (i := 3) hX dL_law_255 rfl rfl rfl ?_
    refine w_bipush hX dL_law_256 rfl (by decide) ?_
    refine w_iadd hX dL_law_258 rfl (by omega) ?_
    refine w_scr hX hs (by omega) (by omega) dL_law_259 rfl ?_
    refine cc_V hX ml_RL_32 cl9 dL_law_260 rfl (r_change _ h.2.2.1.1.1 _ _ _ _ _ _) rfl rfl rfl (by decide) (Nat.le_of_ble_eq_true rfl) ⟨by decide, by decide⟩ ?_
    rintro _ D2 zq_2 -
    have zq_f : ∀ l j, 274 < l → D l j = D l j := fun _ _ _ => rfl
    have zq_z : ∀ u : Int, 0 ≤ u ∧ u < D 1 7 → szF D u = D 282 (u + 1).toNat - D 282 u.toNat := fun u hu => cd_sz h.1 hu
    have zq_o : ∀ u : Int, ¬ (0 ≤ u ∧ u < D 1 7) → szF D u = 0 := fun u hu => by unfold szF; rw [if_neg hu]
    have zq_u := h.1.2.1
    rcases zq_2 with ⟨zq_d, rfl, zq_e2⟩ | ⟨zq_d, rfl, zq_e2⟩
    · subst zq_e2
      dsimp only [Option.toList, List.cons_append, List.nil_append]
      refine w_icmp_eq (tgt := 403) hX dL_law_263 rfl (by decide) (fun _ => ?_) (fun zq_n => absurd rfl zq_n)
      exact tl _ h
    · exfalso
      rw [zq_f 279 _ (by decide), zq_f 282 _ (by decide), zq_f 282 _ (by decide)] at zq_d
      rw [← zq_u] at zq_d
      by_cases zq_w : 0 ≤ xs (i + 1).toNat ∧ xs (i + 1).toNat < D 1 7
      · have := zq_z _ zq_w; omega
      · have := zq_o _ zq_w; omega
  · dsimp only [Option.toList, List.cons_append, List.nil_append]
    refine w_aload_n (i := 2) hX dL_law_228 rfl rfl rfl ?_
    refine w_aload_nS (i := 0) hX dL_law_229 rfl rfl rfl ?_
    refine w_iload_n (i := 3) hX dL_law_230 rfl rfl rfl ?_
    refine w_iconst hX dL_law_231 rfl (by decide) ?_
    refine w_iadd hX dL_law_232 rfl (by omega) ?_
    refine w_scr hX hs (by omega) (by omega) dL_law_233 rfl ?_
    refine w_aload_nS (i := 0) hX dL_law_234 rfl rfl rfl ?_
    refine w_iload_n (i := 3) hX dL_law_235 rfl rfl rfl ?_
    refine w_iconst hX dL_law_236 rfl (by decide) ?_
    refine w_iadd hX dL_law_237 rfl (by omega) ?_
    refine w_scr hX hs (by omega) (by omega) dL_law_238 rfl ?_
    refine w_aload_nS (i := 0) hX dL_law_239 rfl rfl rfl ?_
    refine w_iload_n (i := 3) hX dL_law_240 rfl rfl rfl ?_
    refine w_iconst hX dL_law_241 rfl (by decide) ?_
    refine w_iadd hX dL_law_242 rfl (by omega) ?_
    refine w_scr hX hs (by omega) (by omega) dL_law_243 rfl ?_
    refine w_aload_nS (i := 0) hX dL_law_244 rfl rfl rfl ?_
    refine w_iload_n (i := 3) hX dL_law_245 rfl rfl rfl ?_
    refine w_iconst hX dL_law_246 rfl (by decide) ?_
    refine w_iadd hX dL_law_247 rfl (by omega) ?_
    refine w_scr hX hs (by omega) (by omega) dL_law_248 rfl ?_
    refine w_aload_nS (i := 0) hX dL_law_249 rfl rfl rfl ?_
    refine w_iload_n (i := 3) hX dL_law_250 rfl rfl rfl ?_
    refine w_iconst hX dL_law_251 rfl (by decide) ?_
    refine w_iadd hX dL_law_252 rfl (by omega) ?_
    refine w_scr hX hs (by omega) (by omega) dL_law_253 rfl ?_
    refine w_aload_nS (i := 0) hX dL_law_254 rfl rfl rfl ?_
    refine w_iload_n (i := 3) hX dL_law_255 rfl rfl rfl ?_
    refine w_bipush hX dL_law_256 rfl (by decide) ?_
    refine w_iadd hX dL_law_258 rfl (by omega) ?_
    refine w_scr hX hs (by omega) (by omega) dL_law_259 rfl ?_
    refine cc_V hX ml_RL_32 cl9 dL_law_260 rfl (r_change _ (h.2.2.1.kp (fun l j hl => by rw [← zq_e1]; exact ch_m D hI _ _ _ _ _ _ l j hl)).1.1 _ _ _ _ _ _) rfl rfl rfl (by decide) (Nat.le_of_ble_eq_true rfl) ⟨by decide, by decide⟩ ?_
    rintro _ D2 zq_2 -
    have zq_f : ∀ l j, 274 < l → D1 l j = D l j := fun l j hl => by rw [← zq_e1]; exact ch_m D hI _ _ _ _ _ _ l j hl
    have zq_z : ∀ u : Int, 0 ≤ u ∧ u < D 1 7 → szF D u = D 282 (u + 1).toNat - D 282 u.toNat := fun u hu => cd_sz h.1 hu
    have zq_o : ∀ u : Int, ¬ (0 ≤ u ∧ u < D 1 7) → szF D u = 0 := fun u hu => by unfold szF; rw [if_neg hu]
    have zq_u := h.1.2.1
    rcases zq_2 with ⟨zq_d, rfl, zq_e2⟩ | ⟨zq_d, rfl, zq_e2⟩
    · exfalso
      rw [zq_f 279 _ (by decide), zq_f 282 _ (by decide), zq_f 282 _ (by decide)] at zq_d
      rw [← zq_u] at zq_d
      by_cases zq_w : 0 ≤ xs (i + 1).toNat ∧ xs (i + 1).toNat < D 1 7
      · have := zq_z _ zq_w; omega
      · have := zq_o _ zq_w; omega
    · dsimp only [Option.toList, List.cons_append, List.nil_append]
      refine w_icmp_eq (tgt := 403) hX dL_law_263 rfl (by decide) (fun _ => ?_) (fun zq_n => absurd rfl zq_n)
      exact tl _ (sim_change h zq_c zq_e1 zq_e2)

set_option maxRecDepth 100000 in
set_option maxHeartbeats 4000000 in
theorem lk_prove {X : Cx} {Q : State → Prop} {nm : String} (hX : GX X ⟨RL, nm, "([I)Z"⟩ cL_law 4 (some .boolean) 10 600000 7302250) {L : Nat} {xs : Nat → Int} (hs : roX X.2.2.2.2.2.2.2.2.2.2.2.2.2.2.1 2 = (L, xs)) (hL : L ≤ 448) (i : Int) (hi : 0 ≤ i ∧ i ≤ L - 7) (D : Dd) (h : Sim D) (tl : ∀ D2, Sim D2 → WW X Q 296 8792 403 [vS 2, vR 0, vR 279, vI i] [] 296 K0 R0 D2) : WW X Q 296 8792 268 [vS 2, vR 0, vR 279, vI i] [] 296 K0 R0 D := by
  have hI := h.2.1.1
  refine w_aload_n (i := 1) hX dL_law_268 rfl rfl rfl ?_
  refine cc_V hX ml_RL_33 cl8 dL_law_269 rfl (f_prove D h.2.1) rfl rfl rfl (by decide) (Nat.le_of_ble_eq_true rfl) ⟨by decide, by decide⟩ ?_
  rintro _ D1 ⟨zq_1, zq_x, rfl⟩ -
  have zq_k := zq_1.C
  have zq_m : MI D1 := h.2.2.1.kp (fun l j hl => by rw [zq_k l j (Or.inr hl), (fg_v D).1 l j (by omega)])
  dsimp only [Option.toList, List.cons_append, List.nil_append]
  refine w_aload_n (i := 2) hX dL_law_272 rfl rfl rfl ?_
  refine cc_V hX ml_RL_37 cl9 dL_law_273 rfl (r_prove D1 zq_m) rfl rfl rfl (by decide) (Nat.le_of_ble_eq_true rfl) ⟨by decide, by decide⟩ ?_
  rintro _ D2 zq_2 -
  have zq_s := sim_prove h zq_1 zq_k zq_2
  obtain ⟨zq_r, zq_t⟩ := zq_s
  subst zq_r
  dsimp only [Option.toList, List.cons_append, List.nil_append]
  refine w_icmp_eq (tgt := 403) hX dL_law_276 rfl (by decide) (fun _ => ?_) (fun zq_n => absurd rfl zq_n)
  exact tl _ zq_t

set_option maxRecDepth 100000 in
set_option maxHeartbeats 4000000 in
theorem lk_count {X : Cx} {Q : State → Prop} {nm : String} (hX : GX X ⟨RL, nm, "([I)Z"⟩ cL_law 4 (some .boolean) 10 600000 7302250) {L : Nat} {xs : Nat → Int} (hs : roX X.2.2.2.2.2.2.2.2.2.2.2.2.2.2.1 2 = (L, xs)) (hL : L ≤ 448) (i : Int) (hi : 0 ≤ i ∧ i ≤ L - 7) (D : Dd) (h : Sim D) (tl : ∀ D2, Sim D2 → WW X Q 296 8792 403 [vS 2, vR 0, vR 279, vI i] [] 296 K0 R0 D2) : WW X Q 296 8792 281 [vS 2, vR 0, vR 279, vI i] [] 296 K0 R0 D := by
  have hI := h.2.1.1
  refine w_aload_n (i := 1) hX dL_law_281 rfl rfl rfl ?_
  refine w_aload_nS (i := 0) hX dL_law_282 rfl rfl rfl ?_
  refine w_iload_n (i := 3) hX dL_law_283 rfl rfl rfl ?_
  refine w_iconst hX dL_law_284 rfl (by decide) ?_
  refine w_iadd hX dL_law_285 rfl (by omega) ?_
  refine w_scr hX hs (by omega) (by omega) dL_law_286 rfl ?_
  refine cc_V hX ml_RL_38 cl8 dL_law_287 rfl (f_count D _) rfl rfl rfl (by decide) (Nat.le_of_ble_eq_true rfl) ⟨by decide, by decide⟩ ?_
  rintro _ _ ⟨rfl, rfl⟩ -
  dsimp only [Option.toList, List.cons_append, List.nil_append]
  refine w_aload_n (i := 2) hX dL_law_290 rfl rfl rfl ?_
  refine w_aload_nS (i := 0) hX dL_law_291 rfl rfl rfl ?_
  refine w_iload_n (i := 3) hX dL_law_292 rfl rfl rfl ?_
  refine w_iconst hX dL_law_293 rfl (by decide) ?_
  refine w_iadd hX dL_law_294 rfl (by omega) ?_
  refine w_scr hX hs (by omega) (by omega) dL_law_295 rfl ?_
  refine cc_V hX ml_RL_41 cl9 dL_law_296 rfl (r_count D _) rfl rfl rfl (by decide) (Nat.le_of_ble_eq_true rfl) ⟨by decide, by decide⟩ ?_
  rintro _ _ ⟨rfl, rfl⟩ -
  dsimp only [Option.toList, List.cons_append, List.nil_append]
  have zq_p := h.2.2.2.2.2.2.2.1
  unfold PRo at zq_p
  refine w_icmp_eq (tgt := 403) hX dL_law_299 rfl (by decide) (fun _ => ?_) (fun zq_n => absurd (by rw [zq_p.1, zq_p.2.1, zq_p.2.2, h.1.2.1, h.2.2.2.2.2.1]) zq_n)
  exact tl _ h

set_option maxRecDepth 100000 in
set_option maxHeartbeats 4000000 in
theorem lk_steps {X : Cx} {Q : State → Prop} {nm : String} (hX : GX X ⟨RL, nm, "([I)Z"⟩ cL_law 4 (some .boolean) 10 600000 7302250) {L : Nat} {xs : Nat → Int} (hs : roX X.2.2.2.2.2.2.2.2.2.2.2.2.2.2.1 2 = (L, xs)) (hL : L ≤ 448) (i : Int) (hi : 0 ≤ i ∧ i ≤ L - 7) (D : Dd) (h : Sim D) (tl : ∀ D2, Sim D2 → WW X Q 296 8792 403 [vS 2, vR 0, vR 279, vI i] [] 296 K0 R0 D2) : WW X Q 296 8792 304 [vS 2, vR 0, vR 279, vI i] [] 296 K0 R0 D := by
  have hI := h.2.1.1
  refine w_aload_n (i := 1) hX dL_law_304 rfl rfl rfl ?_
  refine w_aload_nS (i := 0) hX dL_law_305 rfl rfl rfl ?_
  refine w_iload_n (i := 3) hX dL_law_306 rfl rfl rfl ?_
  refine w_iconst hX dL_law_307 rfl (by decide) ?_
  refine w_iadd hX dL_law_308 rfl (by omega) ?_
  refine w_scr hX hs (by omega) (by omega) dL_law_309 rfl ?_
  refine cc_V hX ml_RL_42 cl8 dL_law_310 rfl (f_steps D hI _) rfl rfl rfl (by decide) (Nat.le_of_ble_eq_true rfl) ⟨by decide, by decide⟩ ?_
  rintro _ _ ⟨rfl, rfl⟩ -
  dsimp only [Option.toList, List.cons_append, List.nil_append]
  refine w_aload_n (i := 2) hX dL_law_313 rfl rfl rfl ?_
  refine w_aload_nS (i := 0) hX dL_law_314 rfl rfl rfl ?_
  refine w_iload_n (i := 3) hX dL_law_315 rfl rfl rfl ?_
  refine w_iconst hX dL_law_316 rfl (by decide) ?_
  refine w_iadd hX dL_law_317 rfl (by omega) ?_
  refine w_scr hX hs (by omega) (by omega) dL_law_318 rfl ?_
  refine cc_V hX ml_RL_45 cl9 dL_law_319 rfl (r_steps D h.2.2.1.1.1 (fun j hj => by have := h.2.2.1.2.2.2 j hj; unfold inI; omega) _) rfl rfl rfl (by decide) (Nat.le_of_ble_eq_true rfl) ⟨by decide, by decide⟩ ?_
  rintro _ _ ⟨rfl, rfl⟩ -
  dsimp only [Option.toList, List.cons_append, List.nil_append]
  have zq_a := h.2.2.2.2.2.2.2.2.2
  have zq_5 := h.2.2.2.2.2.2.2.2.1
  have zq_u := h.1.2.1
  refine w_icmp_eq (tgt := 403) hX dL_law_322 rfl (by decide) (fun _ => ?_) (fun zq_n => absurd (by
      by_cases zq_w : D 264 5 ≠ 0 ∧ 0 ≤ xs (i + 1).toNat ∧ xs (i + 1).toNat < D 1 7
      · rw [it_t zq_w, it_t (by rw [← zq_5, ← zq_u]; exact zq_w)]
        exact ((zq_a.resolve_left zq_w.1).2.2 (xs (i + 1).toNat).toNat (by omega)).2
      · rw [it_f zq_w, it_f (by rw [← zq_5, ← zq_u]; exact zq_w)]) zq_n)
  exact tl _ h

set_option maxRecDepth 100000 in
set_option maxHeartbeats 4000000 in
theorem lk_depth {X : Cx} {Q : State → Prop} {nm : String} (hX : GX X ⟨RL, nm, "([I)Z"⟩ cL_law 4 (some .boolean) 10 600000 7302250) {L : Nat} {xs : Nat → Int} (hs : roX X.2.2.2.2.2.2.2.2.2.2.2.2.2.2.1 2 = (L, xs)) (hL : L ≤ 448) (i : Int) (hi : 0 ≤ i ∧ i ≤ L - 7) (D : Dd) (h : Sim D) (tl : ∀ D2, Sim D2 → WW X Q 296 8792 403 [vS 2, vR 0, vR 279, vI i] [] 296 K0 R0 D2) : WW X Q 296 8792 327 [vS 2, vR 0, vR 279, vI i] [] 296 K0 R0 D := by
  have hI := h.2.1.1
  refine w_aload_n (i := 1) hX dL_law_327 rfl rfl rfl ?_
  refine w_aload_nS (i := 0) hX dL_law_328 rfl rfl rfl ?_
  refine w_iload_n (i := 3) hX dL_law_329 rfl rfl rfl ?_
  refine w_iconst hX dL_law_330 rfl (by decide) ?_
  refine w_iadd hX dL_law_331 rfl (by omega) ?_
  refine w_scr hX hs (by omega) (by omega) dL_law_332 rfl ?_
  refine cc_V hX ml_RL_46 cl8 dL_law_333 rfl (f_depth D hI _) rfl rfl rfl (by decide) (Nat.le_of_ble_eq_true rfl) ⟨by decide, by decide⟩ ?_
  rintro _ _ ⟨rfl, rfl⟩ -
  dsimp only [Option.toList, List.cons_append, List.nil_append]
  refine w_aload_n (i := 2) hX dL_law_336 rfl rfl rfl ?_
  refine w_aload_nS (i := 0) hX dL_law_337 rfl rfl rfl ?_
  refine w_iload_n (i := 3) hX dL_law_338 rfl rfl rfl ?_
  refine w_iconst hX dL_law_339 rfl (by decide) ?_
  refine w_iadd hX dL_law_340 rfl (by omega) ?_
  refine w_scr hX hs (by omega) (by omega) dL_law_341 rfl ?_
  refine cc_V hX ml_RL_49 cl9 dL_law_342 rfl (r_depth D h.2.2.1.1.1 _) rfl rfl rfl (by decide) (Nat.le_of_ble_eq_true rfl) ⟨by decide, by decide⟩ ?_
  rintro _ _ ⟨rfl, rfl⟩ -
  dsimp only [Option.toList, List.cons_append, List.nil_append]
  have zq_a := h.2.2.2.2.2.2.2.2.2
  have zq_5 := h.2.2.2.2.2.2.2.2.1
  have zq_u := h.1.2.1
  refine w_icmp_eq (tgt := 403) hX dL_law_345 rfl (by decide) (fun _ => ?_) (fun zq_n => absurd (by
      by_cases zq_w : D 264 5 ≠ 0 ∧ 0 ≤ xs (i + 1).toNat ∧ xs (i + 1).toNat < D 1 7
      · rw [it_t zq_w, it_t (by rw [← zq_5, ← zq_u]; exact zq_w)]
        exact ((zq_a.resolve_left zq_w.1).2.2 (xs (i + 1).toNat).toNat (by omega)).1
      · rw [it_f zq_w, it_f (by rw [← zq_5, ← zq_u]; exact zq_w)]) zq_n)
  exact tl _ h

set_option maxRecDepth 100000 in
set_option maxHeartbeats 4000000 in
theorem lk_walk {X : Cx} {Q : State → Prop} {nm : String} (hX : GX X ⟨RL, nm, "([I)Z"⟩ cL_law 4 (some .boolean) 10 600000 7302250) {L : Nat} {xs : Nat → Int} (hs : roX X.2.2.2.2.2.2.2.2.2.2.2.2.2.2.1 2 = (L, xs)) (hL : L ≤ 448) (i : Int) (hi : 0 ≤ i ∧ i ≤ L - 7) (D : Dd) (h : Sim D) (tl : ∀ D2, Sim D2 → WW X Q 296 8792 403 [vS 2, vR 0, vR 279, vI i] [] 296 K0 R0 D2) : WW X Q 296 8792 350 [vS 2, vR 0, vR 279, vI i] [] 296 K0 R0 D := by
  have hI := h.2.1.1
  refine w_aload_n (i := 1) hX dL_law_350 rfl rfl rfl ?_
  refine w_aload_nS (i := 0) hX dL_law_351 rfl rfl rfl ?_
  refine w_iload_n (i := 3) hX dL_law_352 rfl rfl rfl ?_
  refine w_iconst hX dL_law_353 rfl (by decide) ?_
  refine w_iadd hX dL_law_354 rfl (by omega) ?_
  refine w_scr hX hs (by omega) (by omega) dL_law_355 rfl ?_
  refine w_i2l hX dL_law_356 rfl ?_
  refine w_bipush hX dL_law_357 rfl (by decide) ?_
  refine w_lshl hX dL_law_359 rfl ?_
  refine w_aload_nS (i := 0) hX dL_law_360 rfl rfl rfl ?_
  refine w_iload_n (i := 3) hX dL_law_361 rfl rfl rfl ?_
  refine w_iconst hX dL_law_362 rfl (by decide) ?_
  refine w_iadd hX dL_law_363 rfl (by omega) ?_
  refine w_scr hX hs (by omega) (by omega) dL_law_364 rfl ?_
  refine w_i2l hX dL_law_365 rfl ?_
  refine w_ldc2 (x := 4294967295) hX kl_RL_50 dL_law_366 rfl (by decide) (by decide) ?_
  refine w_land hX dL_law_369 rfl ?_
  refine w_lor hX dL_law_370 rfl ?_
  refine cc_V hX ml_RL_52 cl8 dL_law_371 rfl (f_walk D hI _ (fun zq_w => WI.w0 (h.wks zq_w.1) h.2.2.2.1)) rfl rfl rfl (by decide) (Nat.le_of_ble_eq_true rfl) ⟨by decide, by decide⟩ ?_
  rintro _ D1 zq_1 -
  have zq_i := hI.1.1
  have zq_5 := h.2.2.2.2.2.2.2.2.1
  have zq_u := h.1.2.1
  rcases zq_1 with ⟨zq_c, rfl, rfl⟩ | ⟨zq_c, rfl, rfl⟩
  · dsimp only [Option.toList, List.cons_append, List.nil_append]
    refine w_aload_n (i := 2) hX dL_law_374 rfl rfl rfl ?_
    refine w_aload_nS (i := 0) hX dL_law_375 rfl rfl rfl ?_
    refine w_iload_n (i := 3) hX dL_law_376 rfl rfl rfl ?_
    refine w_iconst hX dL_law_377 rfl (by decide) ?_
    refine w_iadd hX dL_law_378 rfl (by omega) ?_
    refine w_scr hX hs (by omega) (by omega) dL_law_379 rfl ?_
    refine w_i2l hX dL_law_380 rfl ?_
    refine w_bipush hX dL_law_381 rfl (by decide) ?_
    refine w_lshl hX dL_law_383 rfl ?_
    refine w_aload_nS (i := 0) hX dL_law_384 rfl rfl rfl ?_
    refine w_iload_n (i := 3) hX dL_law_385 rfl rfl rfl ?_
    refine w_iconst hX dL_law_386 rfl (by decide) ?_
    refine w_iadd hX dL_law_387 rfl (by omega) ?_
    refine w_scr hX hs (by omega) (by omega) dL_law_388 rfl ?_
    refine w_i2l hX dL_law_389 rfl ?_
    refine w_ldc2 (x := 4294967295) hX kl_RL_50 dL_law_390 rfl (by decide) (by decide) ?_
    refine w_land hX dL_law_393 rfl ?_
    refine w_lor hX dL_law_394 rfl ?_
    refine cc_V hX ml_RL_56 cl9 dL_law_395 rfl (r_walk _ (by rw [← zq_u]; exact hI.1) _ (fun lev t f T => lev < 0) (fun lev t f T hj hl => absurd hj (by omega)) (fun zq_w => absurd zq_w (by omega))) rfl rfl rfl (by decide) (Nat.le_of_ble_eq_true rfl) ⟨by decide, by decide⟩ ?_
    rintro _ D2 zq_2 -
    rcases zq_2 with ⟨zq_d, rfl, zq_e2⟩ | ⟨zq_d, zq_x, rfl, zq_e2⟩
    · subst zq_e2
      dsimp only [Option.toList, List.cons_append, List.nil_append]
      refine w_icmp_eq (tgt := 403) hX dL_law_398 rfl (by decide) (fun _ => ?_) (fun zq_n => absurd rfl zq_n)
      exact tl _ h
    · exfalso; omega
  · dsimp only [Option.toList, List.cons_append, List.nil_append]
    have zq_k : ∀ (b : Int) (l j : Nat), l < 275 ∨ 278 < l → (wkF b 1000000 0 (w0D D)).2 l j = D l j := fun b => ((keepK.w0 D).tr (keepK.wk b 1000000 0 (w0D D)))
    refine w_aload_n (i := 2) hX dL_law_374 rfl rfl rfl ?_
    refine w_aload_nS (i := 0) hX dL_law_375 rfl rfl rfl ?_
    refine w_iload_n (i := 3) hX dL_law_376 rfl rfl rfl ?_
    refine w_iconst hX dL_law_377 rfl (by decide) ?_
    refine w_iadd hX dL_law_378 rfl (by omega) ?_
    refine w_scr hX hs (by omega) (by omega) dL_law_379 rfl ?_
    refine w_i2l hX dL_law_380 rfl ?_
    refine w_bipush hX dL_law_381 rfl (by decide) ?_
    refine w_lshl hX dL_law_383 rfl ?_
    refine w_aload_nS (i := 0) hX dL_law_384 rfl rfl rfl ?_
    refine w_iload_n (i := 3) hX dL_law_385 rfl rfl rfl ?_
    refine w_iconst hX dL_law_386 rfl (by decide) ?_
    refine w_iadd hX dL_law_387 rfl (by omega) ?_
    refine w_scr hX hs (by omega) (by omega) dL_law_388 rfl ?_
    refine w_i2l hX dL_law_389 rfl ?_
    refine w_ldc2 (x := 4294967295) hX kl_RL_50 dL_law_390 rfl (by decide) (by decide) ?_
    refine w_land hX dL_law_393 rfl ?_
    refine w_lor hX dL_law_394 rfl ?_
    refine cc_V hX ml_RL_56 cl9 dL_law_395 rfl (r_walk _ (by rw [zq_k _ 279 _ (by decide), ← zq_u]; exact hI.1) _ (JJ D) (jw_of _ (h.wks zq_c.1)) (fun _ => sim_J h zq_c.1 (by omega))) rfl rfl rfl (by decide) (Nat.le_of_ble_eq_true rfl) ⟨by decide, by decide⟩ ?_
    rintro _ D2 zq_2 -
    rcases zq_2 with ⟨zq_d, rfl, zq_e2⟩ | ⟨zq_d, zq_x, rfl, zq_e2⟩
    · exfalso
      rw [zq_k _ 279 _ (by decide), zq_k _ 279 _ (by decide)] at zq_d
      omega
    · have zq_s := sim_walk h zq_c.1 (by omega) zq_e2
      dsimp only [Option.toList, List.cons_append, List.nil_append]
      refine w_icmp_eq (tgt := 403) hX dL_law_398 rfl (by decide) (fun _ => ?_) (fun zq_n => absurd zq_s.1.symm zq_n)
      exact tl _ zq_s.2

set_option maxRecDepth 100000 in
set_option maxHeartbeats 4000000 in
theorem l_law {X : Cx} {Q : State → Prop} {nm : String} (hX : GX X ⟨RL, nm, "([I)Z"⟩ cL_law 4 (some .boolean) 10 600000 7302250) {L : Nat} {xs : Nat → Int} (hs : roX X.2.2.2.2.2.2.2.2.2.2.2.2.2.2.1 2 = (L, xs)) (hL : L ≤ 448) (hend : ∀ ls D, WW X Q 296 8792 410 ls [vI 1] 296 K0 R0 D) : ∀ (m : Nat) (i : Int) (D : Dd), ((L : Int) - i).toNat < m → 0 ≤ i → i ≤ L → Sim D → WW X Q 296 8792 18 [vS 2, vR 0, vR 279, vI i] [] 296 K0 R0 D := by
  intro m
  induction m with
  | zero =>
    intro i D hm
    exact absurd hm (Nat.not_lt_zero _)
  | succ m ih =>
    intro i D hm h0 h1 h
    refine w_iload_n (i := 3) hX dL_law_18 rfl rfl rfl ?_
    refine w_aload_nS (i := 0) hX dL_law_19 rfl rfl rfl ?_
    refine w_slen hX (by decide) dL_law_20 rfl ?_
    rw [hs]
    refine w_bipush hX dL_law_21 rfl (by decide) ?_
    refine w_isub hX dL_law_23 rfl (by omega) ?_
    refine w_icmp_gt (tgt := 409) hX dL_law_24 rfl (by decide) (fun h24 => ?_) (fun h24 => ?_)
    · refine w_iconst hX dL_law_409 rfl (by decide) ?_
      exact hend _ _
    · have hi : 0 ≤ i ∧ i ≤ (L : Int) - 7 := ⟨h0, Int.not_lt.mp h24⟩
      have tl : ∀ D2, Sim D2 → WW X Q 296 8792 403 [vS 2, vR 0, vR 279, vI i] [] 296 K0 R0 D2 := fun D2 h2 => by
        refine w_iinc hX dL_law_403 rfl rfl (by decide) (by omega) ?_
        dsimp only [st1X, st2X, klX_I, klX_L, klX_R, klX_S, klX_N]
        refine w_goto (tgt := 18) hX dL_law_406 (by decide) ?_
        exact ih (i + 7) D2 (by omega) (by omega) (by omega) h2
      refine w_aload_nS (i := 0) hX dL_law_27 rfl rfl rfl ?_
      refine w_iload_n (i := 3) hX dL_law_28 rfl rfl rfl ?_
      refine w_scr hX hs (by omega) (by omega) dL_law_29 rfl ?_
      refine w_bipush hX dL_law_30 rfl (by decide) ?_
      refine w_iand hX dL_law_32 rfl ?_
      refine w_nameI (fun sw hsw => ?_)
      clear hsw
      by_cases g0 : sw = 0
      · refine w_tsw (tgt := 84) hX dL_law_33 rfl (by rw [g0]; decide) ?_
        exact lk_begin hX hs hL i hi D h tl
      by_cases g1 : sw = 1
      · refine w_tsw (tgt := 107) hX dL_law_33 rfl (by rw [g1]; decide) ?_
        exact lk_unit hX hs hL i hi D h tl
      by_cases g2 : sw = 2
      · refine w_tsw (tgt := 140) hX dL_law_33 rfl (by rw [g2]; decide) ?_
        exact lk_add hX hs hL i hi D h tl
      by_cases g3 : sw = 3
      · refine w_tsw (tgt := 193) hX dL_law_33 rfl (by rw [g3]; decide) ?_
        exact lk_change hX hs hL i hi D h tl
      by_cases g4 : sw = 4
      · refine w_tsw (tgt := 268) hX dL_law_33 rfl (by rw [g4]; decide) ?_
        exact lk_prove hX hs hL i hi D h tl
      by_cases g5 : sw = 5
      · refine w_tsw (tgt := 281) hX dL_law_33 rfl (by rw [g5]; decide) ?_
        exact lk_count hX hs hL i hi D h tl
      by_cases g6 : sw = 6
      · refine w_tsw (tgt := 304) hX dL_law_33 rfl (by rw [g6]; decide) ?_
        exact lk_steps hX hs hL i hi D h tl
      by_cases g7 : sw = 7
      · refine w_tsw (tgt := 327) hX dL_law_33 rfl (by rw [g7]; decide) ?_
        exact lk_depth hX hs hL i hi D h tl
      by_cases g8 : sw = 8
      · refine w_tsw (tgt := 350) hX dL_law_33 rfl (by rw [g8]; decide) ?_
        exact lk_walk hX hs hL i hi D h tl
      refine w_tsw (tgt := 403) hX dL_law_33 rfl (by rw [sw_dflt [0, 1, 2, 3, 4, 5, 6, 7, 8] (by decide) (by simp only [List.mem_cons, List.not_mem_nil, or_false]; omega)]; decide) ?_
      exact tl D h
