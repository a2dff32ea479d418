/-! Walker: comesBack, walked; CodeProof.walk -/
noncomputable def cbS (D : Dd) : Dd := wgD (upD D 275 4 (D 275 4 - 1)) (D 277 (D 275 4 - 1).toNat) (D 278 (D 275 4 - 1).toNat)
/-- the units that have ended are left -/
noncomputable def cbW : Nat → Dd → Dd
  | 0, D => D
  | m + 1, D => itP (D 275 6 ≤ D 275 7 ∧ 0 < D 275 4 ∧ D 275 4 ≤ 16) (cbW m (cbS D)) D
theorem keepK.cb1 {D : Dd} : keepK D (cbS D) := ((keepK.rf D).up (by decide)).tr keepK.wg
theorem keepK.cb : ∀ {m : Nat} {D : Dd}, keepK D (cbW m D)
  | 0, D => keepK.rf D
  | m + 1, D => by
    show keepK D (itP (D 275 6 ≤ D 275 7 ∧ 0 < D 275 4 ∧ D 275 4 ≤ 16) (cbW m (cbS D)) D)
    by_cases h : D 275 6 ≤ D 275 7 ∧ 0 < D 275 4 ∧ D 275 4 ≤ 16
    · rw [it_t h]; exact keepK.cb1.tr keepK.cb
    · rw [it_f h]; exact keepK.rf D
noncomputable abbrev cbD (D : Dd) : Dd := cbW (D 275 4).toNat D

set_option maxRecDepth 100000 in
set_option maxHeartbeats 4000000 in
theorem l_comesBack {X : Cx} {Q : State → Prop} {P : Option AV → Dd → Prop} (hX : GX X yX7_comesBack cX7_comesBack 1 (some .boolean) 3 0 0) (hF : FX X Q P) (hyes0 : True) : ∀ (m : Nat) (D : Dd), (D 275 4).toNat < m → InC D → D 275 4 ≤ 16 → P (some (vI (b2 (cbD D 275 7 < cbD D 275 6)))) (cbD D) → W0 X Q 0 [vR 275] [] D := by
  intro m
  induction m with
  | zero =>
    intro D hm hI h16 hP
    exact absurd hm (Nat.not_lt_zero _)
  | succ m ih =>
    intro D hm hI h16 hP
    refine w_aload_n (i := 0) hX dX7_comesBack_0 rfl rfl rfl ?_
    refine w_getI (j := 7) hX cl6 fl_RX7_43_6 rfl (by decide) rfl dX7_comesBack_1 rfl ?_
    try simp +decide only [upD_rd, ↓reduceIte]
    refine w_aload_n (i := 0) hX dX7_comesBack_4 rfl rfl rfl ?_
    refine w_getI (j := 6) hX cl6 fl_RX7_46_6 rfl (by decide) rfl dX7_comesBack_5 rfl ?_
    try simp +decide only [upD_rd, ↓reduceIte]
    refine w_icmp_lt (tgt := 62) hX dX7_comesBack_8 rfl (by decide) (fun h8 => ?_) (fun h8 => ?_)
    · have zq_e : cbD D = D := by
        unfold cbD
        cases (D 275 4).toNat with
        | zero => rfl
        | succ m => exact it_f (by omega)
      refine w_aload_n (i := 0) hX dX7_comesBack_62 rfl rfl rfl ?_
      refine w_getI (j := 7) hX cl6 fl_RX7_43_6 rfl (by decide) rfl dX7_comesBack_63 rfl ?_
      try simp +decide only [upD_rd, ↓reduceIte]
      refine w_aload_n (i := 0) hX dX7_comesBack_66 rfl rfl rfl ?_
      refine w_getI (j := 6) hX cl6 fl_RX7_46_6 rfl (by decide) rfl dX7_comesBack_67 rfl ?_
      try simp +decide only [upD_rd, ↓reduceIte]
      refine w_icmp_ge (tgt := 77) hX dX7_comesBack_70 rfl (by decide) (fun h70 => ?_) (fun h70 => ?_)
      · refine w_iconst hX dX7_comesBack_77 rfl (by decide) ?_
        exact e_z hX hF dX7_comesBack_78 (by decide) (by first | (rw [zq_e, b2_t (by omega)] at hP; exact hP) | (rw [zq_e, b2_f (by omega)] at hP; exact hP))
      · refine w_iconst hX dX7_comesBack_73 rfl (by decide) ?_
        refine w_goto (tgt := 78) hX dX7_comesBack_74 (by decide) ?_
        exact e_z hX hF dX7_comesBack_78 (by decide) (by first | (rw [zq_e, b2_t (by omega)] at hP; exact hP) | (rw [zq_e, b2_f (by omega)] at hP; exact hP))
    · refine w_aload_n (i := 0) hX dX7_comesBack_11 rfl rfl rfl ?_
      refine w_getI (j := 4) hX cl6 fl_RX7_25_6 rfl (by decide) rfl dX7_comesBack_12 rfl ?_
      try simp +decide only [upD_rd, ↓reduceIte]
      refine w_if_le (tgt := 62) hX dX7_comesBack_15 rfl (by decide) (fun h15 => ?_) (fun h15 => ?_)
      · have zq_e : cbD D = D := by
          unfold cbD
          cases (D 275 4).toNat with
          | zero => rfl
          | succ m => exact it_f (by omega)
        refine w_aload_n (i := 0) hX dX7_comesBack_62 rfl rfl rfl ?_
        refine w_getI (j := 7) hX cl6 fl_RX7_43_6 rfl (by decide) rfl dX7_comesBack_63 rfl ?_
        try simp +decide only [upD_rd, ↓reduceIte]
        refine w_aload_n (i := 0) hX dX7_comesBack_66 rfl rfl rfl ?_
        refine w_getI (j := 6) hX cl6 fl_RX7_46_6 rfl (by decide) rfl dX7_comesBack_67 rfl ?_
        try simp +decide only [upD_rd, ↓reduceIte]
        refine w_icmp_ge (tgt := 77) hX dX7_comesBack_70 rfl (by decide) (fun h70 => ?_) (fun h70 => ?_)
        · refine w_iconst hX dX7_comesBack_77 rfl (by decide) ?_
          exact e_z hX hF dX7_comesBack_78 (by decide) (by first | (rw [zq_e, b2_t (by omega)] at hP; exact hP) | (rw [zq_e, b2_f (by omega)] at hP; exact hP))
        · refine w_iconst hX dX7_comesBack_73 rfl (by decide) ?_
          refine w_goto (tgt := 78) hX dX7_comesBack_74 (by decide) ?_
          exact e_z hX hF dX7_comesBack_78 (by decide) (by first | (rw [zq_e, b2_t (by omega)] at hP; exact hP) | (rw [zq_e, b2_f (by omega)] at hP; exact hP))
      · refine w_aload_n (i := 0) hX dX7_comesBack_18 rfl rfl rfl ?_
        refine w_getI (j := 4) hX cl6 fl_RX7_25_6 rfl (by decide) rfl dX7_comesBack_19 rfl ?_
        try simp +decide only [upD_rd, ↓reduceIte]
        refine w_bipush hX dX7_comesBack_22 rfl (by decide) ?_
        refine w_icmp_gt (tgt := 62) hX dX7_comesBack_24 rfl (by decide) (fun h24 => ?_) (fun h24 => ?_)
        · exfalso; omega
        · refine w_aload_n (i := 0) hX dX7_comesBack_27 rfl rfl rfl ?_
          refine w_dup hX dX7_comesBack_28 rfl rfl ?_
          refine w_getI (j := 4) hX cl6 fl_RX7_25_6 rfl (by decide) rfl dX7_comesBack_29 rfl ?_
          try simp +decide only [upD_rd, ↓reduceIte]
          refine w_iconst hX dX7_comesBack_32 rfl (by decide) ?_
          refine w_isub hX dX7_comesBack_33 rfl (by omega) ?_
          refine w_putI (j := 4) hX cl6 fl_RX7_25_6 rfl (by decide) rfl rfl (Or.inl rfl) dX7_comesBack_34 rfl ?_
          refine w_aload_n (i := 0) hX dX7_comesBack_37 rfl rfl rfl ?_
          refine w_aload_n (i := 0) hX dX7_comesBack_38 rfl rfl rfl ?_
          refine w_getR (j := 2) hX cl6 fl_RX7_15_6 rfl (by decide) rfl rfl dX7_comesBack_39 rfl ?_
          try simp +decide only [upD_rd, ↓reduceIte]
          refine w_aload_n (i := 0) hX dX7_comesBack_42 rfl rfl rfl ?_
          refine w_getI (j := 4) hX cl6 fl_RX7_25_6 rfl (by decide) rfl dX7_comesBack_43 rfl ?_
          try simp +decide only [upD_rd, ↓reduceIte]
          refine w_iald hX rfl (by omega) (by omega) dX7_comesBack_46 rfl ?_
          try simp +decide only [upD_rd, ↓reduceIte]
          refine w_aload_n (i := 0) hX dX7_comesBack_47 rfl rfl rfl ?_
          refine w_getR (j := 3) hX cl6 fl_RX7_18_6 rfl (by decide) rfl rfl dX7_comesBack_48 rfl ?_
          try simp +decide only [upD_rd, ↓reduceIte]
          refine w_aload_n (i := 0) hX dX7_comesBack_51 rfl rfl rfl ?_
          refine w_getI (j := 4) hX cl6 fl_RX7_25_6 rfl (by decide) rfl dX7_comesBack_52 rfl ?_
          try simp +decide only [upD_rd, ↓reduceIte]
          refine w_iald hX rfl (by omega) (by omega) dX7_comesBack_55 rfl ?_
          try simp +decide only [upD_rd, ↓reduceIte]
          refine c_V hX ml_RX7_38 cl6 dX7_comesBack_56 rfl (m_goTo _ (in_sm ((smC.rf D).up (by decide)) hI) _ _) rfl rfl rfl (by decide) (Nat.le_of_ble_eq_true rfl) ?_
          rintro _ _ ⟨rfl, rfl⟩ -
          all_goals try dsimp only [Option.toList, List.cons_append, List.nil_append]
          refine w_goto (tgt := 0) hX dX7_comesBack_59 (by decide) ?_
          have zq_n : cbD D = cbD (cbS D) := by
            unfold cbD
            rw [show (D 275 4).toNat = (D 275 4 - 1).toNat + 1 by omega]
            show itP _ _ _ = _
            rw [it_t (by omega)]
            have zq_4 : cbS D 275 4 = D 275 4 - 1 := by unfold cbS wgD; simp +decide only [upD_rd, ↓reduceIte]
            rw [zq_4]
          have zq_4 : cbS D 275 4 = D 275 4 - 1 := by unfold cbS wgD; simp +decide only [upD_rd, ↓reduceIte]
          rw [zq_n] at hP
          exact ih (cbS D) (by omega) (in_sm keepK.cb1.sm hI) (by omega) hP

set_option maxRecDepth 100000 in
set_option maxHeartbeats 4000000 in
theorem m_comesBack (D : Dd) (hI : InC D) (h16 : D 275 4 ≤ 16) : MC 3 yX7_comesBack cX7_comesBack 1 (some .boolean) [vR 275] D (Is (some (vI (b2 (cbD D 275 7 < cbD D 275 6)))) (cbD D)) := by
  refine MC.mk [vR 275] (by decide) (Nat.le_of_ble_eq_true rfl) rfl (fun X Q hX hF hok hol => ?_)
  exact l_comesBack hX hF trivial _ D (Nat.lt_succ_self _) hI h16 ⟨rfl, rfl⟩

/-- the way, from so many steps on -/
noncomputable def wkF (b : Int) : Nat → Int → Dd → Int × Dd
  | 0, _, D => (1000000, D)
  | m + 1, t, D => itP (cbD D 275 7 < cbD D 275 6) (wkF b m (t + 1) (tsD (cbD D) (atF (cbD D) (cbD D 275 5) (cbD D 275 7)) b)) (t, cbD D)
/-- what a walk needs of the code -/
def WC (D : Dd) : Prop := ∀ u i : Int, ((D (atF D u i) 0) = 12 → 0 ≤ (D (atF D u i) 2)) ∧ ((D (atF D u i) 0) = 10 ∨ (D (atF D u i) 0) = 11 ∨ (D (atF D u i) 0) = 14 → 0 ≤ (D (atF D u i) 1) ∧ (D (atF D u i) 1) ≤ 256) ∧ ((D (atF D u i) 0) = 13 → 0 ≤ (D (atF D u i) 2) ∧ (D (atF D u i) 2) ≤ 256)
/-- what a walk keeps: t steps are taken -/
def WI (D : Dd) (t : Int) : Prop := InC D ∧ WC D ∧ (0 ≤ D 275 4 ∧ D 275 4 ≤ 16) ∧ (0 ≤ D 275 6 ∧ D 275 6 ≤ 256) ∧ (0 ≤ D 275 7 ∧ D 275 7 ≤ 256) ∧ (0 ≤ D 275 8 ∧ D 275 8 ≤ t) ∧ (∀ j : Nat, j < 256 → 0 ≤ D 276 j) ∧ (∀ j : Nat, j < 16 → 0 ≤ D 278 j ∧ D 278 j ≤ 256)
theorem WC.sm {D D2 : Dd} (h : WC D) (k : smC D D2) (hI : InC D) : WC D2 := fun u i => by
  simp only [f_sm k hI]
  exact h u i
theorem WI.at {D : Dd} {t : Int} (h : WI D t) {a : Int} (ha : 0 ≤ a ∧ a ≤ 256) : WI (upD D 275 7 a) t := by
  obtain ⟨h1, h2, h3, h4, h5, h6, h7, h8⟩ := h
  have k : smC D (upD D 275 7 a) := (smC.rf D).up (by decide)
  refine ⟨in_sm k h1, h2.sm k h1, ?_, ?_, ?_, ?_, fun j hj => ?_, fun j hj => ?_⟩
  · rw [upD_j (by decide)]; exact h3
  · rw [upD_j (by decide)]; exact h4
  · rw [upD_eq]; exact ha
  · rw [upD_j (by decide)]; exact h6
  · rw [upD_k (by decide)]; exact h7 j hj
  · rw [upD_k (by decide)]; exact h8 j hj
theorem WI.mono {D : Dd} {t t2 : Int} (h : WI D t) (ht : t ≤ t2) : WI D t2 := ⟨h.1, h.2.1, h.2.2.1, h.2.2.2.1, h.2.2.2.2.1, ⟨h.2.2.2.2.2.1.1, Int.le_trans h.2.2.2.2.2.1.2 ht⟩, h.2.2.2.2.2.2.1, h.2.2.2.2.2.2.2⟩
theorem WI.fork {D : Dd} {t : Int} (h : WI D t) : WI (upD D 275 8 (D 275 8 + 1)) (t + 1) := by
  obtain ⟨h1, h2, h3, h4, h5, h6, h7, h8⟩ := h
  have k : smC D (upD D 275 8 (D 275 8 + 1)) := (smC.rf D).up (by decide)
  refine ⟨in_sm k h1, h2.sm k h1, ?_, ?_, ?_, ?_, fun j hj => ?_, fun j hj => ?_⟩
  · rw [upD_j (by decide)]; exact h3
  · rw [upD_j (by decide)]; exact h4
  · rw [upD_j (by decide)]; exact h5
  · rw [upD_eq]; omega
  · rw [upD_k (by decide)]; exact h7 j hj
  · rw [upD_k (by decide)]; exact h8 j hj
theorem WI.cnt {D : Dd} {t : Int} (h : WI D t) (r : Nat) {x : Int} (hx : 0 ≤ x) : WI (upD D 276 r x) t := by
  obtain ⟨h1, h2, h3, h4, h5, h6, h7, h8⟩ := h
  have k : smC D (upD D 276 r x) := (smC.rf D).up (by decide)
  refine ⟨in_sm k h1, h2.sm k h1, ?_, ?_, ?_, ?_, fun j hj => ?_, fun j hj => ?_⟩
  · rw [upD_k (by decide)]; exact h3
  · rw [upD_k (by decide)]; exact h4
  · rw [upD_k (by decide)]; exact h5
  · rw [upD_k (by decide)]; exact h6
  · rw [upD_rd, if_pos rfl]; split
    · exact hx
    · exact h7 j hj
  · rw [upD_k (by decide)]; exact h8 j hj
theorem WI.oc {D : Dd} {t : Int} (h : WI D t) {x : Int} (hx : 0 ≤ x ∧ x ≤ 16) : WI (upD D 275 4 x) t := by
  obtain ⟨h1, h2, h3, h4, h5, h6, h7, h8⟩ := h
  have k : smC D (upD D 275 4 x) := (smC.rf D).up (by decide)
  refine ⟨in_sm k h1, h2.sm k h1, ?_, ?_, ?_, ?_, fun j hj => ?_, fun j hj => ?_⟩
  · rw [upD_eq]; exact hx
  · rw [upD_j (by decide)]; exact h4
  · rw [upD_j (by decide)]; exact h5
  · rw [upD_j (by decide)]; exact h6
  · rw [upD_k (by decide)]; exact h7 j hj
  · rw [upD_k (by decide)]; exact h8 j hj
theorem WI.opU {D : Dd} {t : Int} (h : WI D t) (r : Nat) (x : Int) : WI (upD D 277 r x) t := by
  obtain ⟨h1, h2, h3, h4, h5, h6, h7, h8⟩ := h
  have k : smC D (upD D 277 r x) := (smC.rf D).up (by decide)
  refine ⟨in_sm k h1, h2.sm k h1, ?_, ?_, ?_, ?_, fun j hj => ?_, fun j hj => ?_⟩
  · rw [upD_k (by decide)]; exact h3
  · rw [upD_k (by decide)]; exact h4
  · rw [upD_k (by decide)]; exact h5
  · rw [upD_k (by decide)]; exact h6
  · rw [upD_k (by decide)]; exact h7 j hj
  · rw [upD_k (by decide)]; exact h8 j hj
theorem WI.opA {D : Dd} {t : Int} (h : WI D t) (r : Nat) {x : Int} (hx : 0 ≤ x ∧ x ≤ 256) : WI (upD D 278 r x) t := by
  obtain ⟨h1, h2, h3, h4, h5, h6, h7, h8⟩ := h
  have k : smC D (upD D 278 r x) := (smC.rf D).up (by decide)
  refine ⟨in_sm k h1, h2.sm k h1, ?_, ?_, ?_, ?_, fun j hj => ?_, fun j hj => ?_⟩
  · rw [upD_k (by decide)]; exact h3
  · rw [upD_k (by decide)]; exact h4
  · rw [upD_k (by decide)]; exact h5
  · rw [upD_k (by decide)]; exact h6
  · rw [upD_k (by decide)]; exact h7 j hj
  · rw [upD_rd, if_pos rfl]; split
    · exact hx
    · exact h8 j hj
theorem WI.wg {D : Dd} {t : Int} (h : WI D t) (u : Int) {a : Int} (ha : 0 ≤ a ∧ a ≤ 256) : WI (wgD D u a) t := by
  obtain ⟨h1, h2, h3, h4, h5, h6, h7, h8⟩ := h
  have k : smC D (wgD D u a) := keepK.wg.sm
  have hz := sz_256 h1 u
  have e : ∀ l j, l ≠ 275 → wgD D u a l j = D l j := fun l j hl => by unfold wgD; rw [upD_k hl, upD_k hl, upD_k hl]
  have e4 : wgD D u a 275 4 = D 275 4 := by unfold wgD; simp +decide only [upD_rd, ↓reduceIte]
  have e6 : wgD D u a 275 6 = szF D u := by unfold wgD; simp +decide only [upD_rd, ↓reduceIte]
  have e7 : wgD D u a 275 7 = a := by unfold wgD; simp +decide only [upD_rd, ↓reduceIte]
  have e8 : wgD D u a 275 8 = D 275 8 := by unfold wgD; simp +decide only [upD_rd, ↓reduceIte]
  refine ⟨in_sm k h1, h2.sm k h1, by rw [e4]; exact h3, by rw [e6]; exact hz, by rw [e7]; exact ha, by rw [e8]; exact h6, fun j hj => by rw [e _ _ (by decide)]; exact h7 j hj, fun j hj => by rw [e _ _ (by decide)]; exact h8 j hj⟩
theorem WI.cb1 {D : Dd} {t : Int} (h : WI D t) (h0 : 0 < D 275 4) : WI (cbS D) t :=
  (h.oc (x := D 275 4 - 1) (by have := h.2.2.1; omega)).wg _ (h.2.2.2.2.2.2.2 (D 275 4 - 1).toNat (by have := h.2.2.1; omega))
theorem WI.cb {t : Int} : ∀ {m : Nat} {D : Dd}, WI D t → WI (cbW m D) t
  | 0, _, h => h
  | m + 1, D, h => by
    show WI (itP (D 275 6 ≤ D 275 7 ∧ 0 < D 275 4 ∧ D 275 4 ≤ 16) (cbW m (cbS D)) D) t
    by_cases q : D 275 6 ≤ D 275 7 ∧ 0 < D 275 4 ∧ D 275 4 ≤ 16
    · rw [it_t q]; exact WI.cb (h.cb1 q.2.1)
    · rw [it_f q]; exact h
theorem WI.ts {D : Dd} {t b : Int} (h : WI D t) (ht : 0 ≤ t) (ha : D 275 7 < D 275 6) : WI (tsD D (atF D (D 275 5) (D 275 7)) b) (t + 1) := by
  have hw := h.2.1 (D 275 5) (D 275 7)
  have h6 := h.2.2.2.1
  have h7 := h.2.2.2.2.1
  have hm : WI D (t + 1) := h.mono (by omega)
  unfold tsD
  by_cases q1 : (D (atF D (D 275 5) (D 275 7)) 0) = 10 ∨ (D (atF D (D 275 5) (D 275 7)) 0) = 14
  · rw [it_t q1]; exact hm.at (hw.2.1 (by omega))
  · rw [it_f q1]
    by_cases q2 : (D (atF D (D 275 5) (D 275 7)) 0) = 11
    · rw [it_t q2]
      refine h.fork.at ?_
      by_cases q : chP b (D 275 8)
      · rw [it_t q]; exact hw.2.1 (by omega)
      · rw [it_f q]; omega
    · rw [it_f q2]
      by_cases q3 : (D (atF D (D 275 5) (D 275 7)) 0) = 12
      · rw [it_t q3]
        refine WI.at ?_ (by omega)
        unfold scD
        split
        · exact hm.cnt _ (hw.1 q3)
        · exact hm
      · rw [it_f q3]
        by_cases q4 : (D (atF D (D 275 5) (D 275 7)) 0) = 13
        · rw [it_t q4]
          have hb := hw.2.2 q4
          by_cases q : cdP D (rowF D (D 275 5) (D 275 7 - 1))
          · rw [cdD, it_t q, it_t q]
            have := h.2.2.2.2.2.2.1 (rowF D (D 275 5) (D 275 7 - 1)).toNat (by omega)
            exact (hm.cnt _ (by have := q.2; omega)).at (by omega)
          · rw [cdD, it_f q, it_f q]
            exact hm.at hb
        · rw [it_f q4]
          by_cases q5 : (D (atF D (D 275 5) (D 275 7)) 0) = 15 ∨ (D (atF D (D 275 5) (D 275 7)) 0) = 16
          · rw [it_t q5]
            by_cases q : 0 ≤ D 275 4 ∧ D 275 4 < 16
            · rw [wiD, it_t q]
              exact (((hm.opU _ _).opA _ (by omega)).oc (by omega)).wg _ (by omega)
            · rw [wiD, it_f q]; exact hm
          · rw [it_f q5]
            by_cases q6 : (D (atF D (D 275 5) (D 275 7)) 0) = 18
            · rw [it_t q6]; exact hm.at h6
            · rw [it_f q6]; exact hm.at (by omega)
