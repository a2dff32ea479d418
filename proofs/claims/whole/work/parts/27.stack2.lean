/-! StackPass.open, faultAt -/
def tk (n : Int) : Int := tkX n.toNat
def lf (n : Int) : Int := lfX n.toNat
theorem tk_in (n : Int) : 0 ≤ tk n ∧ tk n ≤ 3 := by
  unfold tk tkX; split <;> omega
theorem lf_in (n : Int) : 0 ≤ lf n ∧ lf n ≤ 1 := by
  unfold lf lfX; split <;> omega
/-- the fault of the stack at an instruction -/
noncomputable def skF (D : Dd) (u i : Int) : Int := itP (D 269 i.toNat = -1) 0 (itP (D 269 i.toNat < tk ((D (atF D u i) 0))) 8 (itP (64 < (D 269 i.toNat - tk ((D (atF D u i) 0)) + lf ((D (atF D u i) 0)))) 9 (itP (¬ cmL ((D 269 i.toNat - tk ((D (atF D u i) 0)) + lf ((D (atF D u i) 0)))) D ((tgF ((D (atF D u i) 0)) i ((D (atF D u i) 1)) ((D (atF D u i) 2)) (D 268 3)))) 10 0)))
/-- the numbers behind it, if there is none -/
noncomputable def skD (D : Dd) (u i : Int) : Dd := itP (D 269 i.toNat = -1) D (itP ((D (atF D u i) 0) = 15 ∨ (D (atF D u i) 0) = 16) (ndF (ndF (cmE ((D 269 i.toNat - tk ((D (atF D u i) 0)) + lf ((D (atF D u i) 0)))) D ((tgF ((D (atF D u i) 0)) i ((D (atF D u i) 1)) ((D (atF D u i) 2)) (D 268 3)))) u ((D 269 i.toNat - tk ((D (atF D u i) 0)) + lf ((D (atF D u i) 0))))) u (D 269 i.toNat + gtF (ndF (cmE ((D 269 i.toNat - tk ((D (atF D u i) 0)) + lf ((D (atF D u i) 0)))) D ((tgF ((D (atF D u i) 0)) i ((D (atF D u i) 1)) ((D (atF D u i) 2)) (D 268 3)))) u ((D 269 i.toNat - tk ((D (atF D u i) 0)) + lf ((D (atF D u i) 0))))) 270 ((D (atF D u i) 1)))) (ndF (cmE ((D 269 i.toNat - tk ((D (atF D u i) 0)) + lf ((D (atF D u i) 0)))) D ((tgF ((D (atF D u i) 0)) i ((D (atF D u i) 1)) ((D (atF D u i) 2)) (D 268 3)))) u ((D 269 i.toNat - tk ((D (atF D u i) 0)) + lf ((D (atF D u i) 0))))))
theorem roX0 (X : Cx) : roX X.2.2.2.2.2.2.2.2.2.2.2.2.2.2.1 0 = (19, tkX) := rfl
theorem roX1 (X : Cx) : roX X.2.2.2.2.2.2.2.2.2.2.2.2.2.2.1 1 = (19, lfX) := rfl
def dpB (D : Dd) (e : Int) : Prop := ∀ v : Nat, (v : Int) ≤ e → 0 ≤ D 270 v ∧ D 270 v ≤ 10000
theorem dpB.nd {D : Dd} {e : Int} (h : dpB D e) {u x : Int} (hx : 0 ≤ x ∧ x ≤ 10000) : dpB (ndF D u x) e := fun v hv => by
  unfold ndF
  split
  · rw [upD_rd, if_pos rfl]
    split
    · exact hx
    · exact h v hv
  · exact h v hv
theorem dpB.cm {D : Dd} {e : Int} (h : dpB D e) {t d : Int} : dpB (cmD D t d) e := fun v hv => by
  unfold cmD
  split
  · rw [upD_k (by decide)]; exact h v hv
  · exact h v hv
theorem dpB.cme {d e : Int} : ∀ {r : List Int} {D : Dd}, dpB D e → dpB (cmE d D r) e
  | [], _, h => h
  | _ :: r, _, h => dpB.cme (r := r) h.cm
theorem gt_in2 {D : Dd} {e : Int} (h : dpB D e) (v : Int) (hv : v ≤ e) : 0 ≤ gtF D 270 v ∧ gtF D 270 v ≤ 10000 := by
  unfold gtF
  split
  · exact h v.toNat (by omega)
  · omega

set_option maxRecDepth 100000 in
set_option maxHeartbeats 4000000 in
theorem m_stackAt (D : Dd) (hI : InC D) (u i : Int) (hs : D 268 3 = szF D u) (hi : 0 ≤ i ∧ i < szF D u) (hn : 0 ≤ (D (atF D u i) 0) ∧ (D (atF D u i) 0) ≤ 18) (hdp : ∀ j : Nat, (j : Int) < szF D u → -1 ≤ D 269 j ∧ D 269 j ≤ 64) (hb : dpB D u) (ha : (D (atF D u i) 0) = 15 ∨ (D (atF D u i) 0) = 16 → 0 ≤ (D (atF D u i) 1) ∧ (D (atF D u i) 1) < u) : MC 4 yX6_faultAt cX6_faultAt 7 (some .int) [vR 268, vI u, vI i] D (fun r D2 => some (vI (skF D u i)) = r ∧ keepS D D2 ∧ (skF D u i = 0 → skD D u i = D2)) := by
  refine MC.mk [vR 268, vI u, vI i, vN, vN, vN, vN] (by decide) (Nat.le_of_ble_eq_true rfl) rfl (fun X Q hX hF hok hol => ?_)
  have hz := sz_256 hI u
  have hs0 := hs
  replace hs : 0 ≤ D 268 3 ∧ D 268 3 ≤ 256 := by omega
  refine w_aload_n (i := 0) hX dX6_faultAt_0 rfl rfl rfl ?_
  refine w_getR (j := 0) hX cl5 fl_RX6_18_5 rfl (by decide) rfl rfl dX6_faultAt_1 rfl ?_
  refine w_iload_n (i := 1) hX dX6_faultAt_4 rfl rfl rfl ?_
  refine w_iload_n (i := 2) hX dX6_faultAt_5 rfl rfl rfl ?_
  refine c_V hX ml_RX6_38 cl0 dX6_faultAt_6 rfl (m_at D hI u i) rfl rfl rfl (by decide) (Nat.le_of_ble_eq_true rfl) ?_
  rintro _ _ ⟨rfl, rfl⟩ -
  all_goals try dsimp only [Option.toList, List.cons_append, List.nil_append]
  refine w_astore_n (i := 3) hX dX6_faultAt_9 rfl rfl (by decide) ?_
  dsimp only [st1X, st2X, klX_I, klX_L, klX_R, klX_S, klX_N]
  refine w_aload_n (i := 3) hX dX6_faultAt_10 rfl rfl rfl ?_
  refine w_getI (j := 0) hX cl2 fl_RX6_42_2 (K0_ins (at_ins hI u i)) (by decide) rfl dX6_faultAt_11 rfl ?_
  refine w_if_lt (tgt := 32) hX dX6_faultAt_14 rfl (by decide) (fun h14 => ?_) (fun h14 => ?_)
  · exfalso; omega
  · refine w_aload_n (i := 3) hX dX6_faultAt_17 rfl rfl rfl ?_
    refine w_getI (j := 0) hX cl2 fl_RX6_42_2 (K0_ins (at_ins hI u i)) (by decide) rfl dX6_faultAt_18 rfl ?_
    refine w_taken hX rfl dX6_faultAt_21 rfl ?_
    refine w_slen hX (by decide) dX6_faultAt_24 rfl ?_
    rw [roX0]
    refine w_icmp_ge (tgt := 32) hX dX6_faultAt_25 rfl (by decide) (fun h25 => ?_) (fun h25 => ?_)
    · exfalso; have h25 : (19 : Int) ≤ D (atF D u i) 0 := h25; omega
    · refine w_iconst hX dX6_faultAt_28 rfl (by decide) ?_
      refine w_goto (tgt := 33) hX dX6_faultAt_29 (by decide) ?_
      refine w_istore hX dX6_faultAt_33 rfl (by decide) ?_
      dsimp only [st1X, st2X, klX_I, klX_L, klX_R, klX_S, klX_N]
      refine w_iload hX dX6_faultAt_35 rfl rfl ?_
      refine w_if_eq (tgt := 62) hX dX6_faultAt_37 rfl (by decide) (fun h37 => absurd h37 (by decide)) (fun _ => ?_)
      refine w_iload_n (i := 2) hX dX6_faultAt_40 rfl rfl rfl ?_
      refine w_if_lt (tgt := 62) hX dX6_faultAt_41 rfl (by decide) (fun h41 => ?_) (fun h41 => ?_)
      · exfalso; omega
      · refine w_iload_n (i := 2) hX dX6_faultAt_44 rfl rfl rfl ?_
        refine w_aload_n (i := 0) hX dX6_faultAt_45 rfl rfl rfl ?_
        refine w_getI (j := 3) hX cl5 fl_RX6_34_5 rfl (by decide) rfl dX6_faultAt_46 rfl ?_
        refine w_icmp_ge (tgt := 62) hX dX6_faultAt_49 rfl (by decide) (fun h49 => ?_) (fun h49 => ?_)
        · exfalso; omega
        · refine w_aload_n (i := 0) hX dX6_faultAt_52 rfl rfl rfl ?_
          refine w_getR (j := 1) hX cl5 fl_RX6_9_5 rfl (by decide) rfl rfl dX6_faultAt_53 rfl ?_
          refine w_iload_n (i := 2) hX dX6_faultAt_56 rfl rfl rfl ?_
          refine w_iald hX rfl (by omega) (by omega) dX6_faultAt_57 rfl ?_
          refine w_iconst hX dX6_faultAt_58 rfl (by decide) ?_
          refine w_icmp_ne (tgt := 64) hX dX6_faultAt_59 rfl (by decide) (fun h59 => ?_) (fun h59 => ?_)
          · have zq_d := hdp i.toNat (by omega)
            have zq_t := tk_in ((D (atF D u i) 0))
            have zq_l := lf_in ((D (atF D u i) 0))
            refine w_aload_n (i := 0) hX dX6_faultAt_64 rfl rfl rfl ?_
            refine w_getR (j := 1) hX cl5 fl_RX6_9_5 rfl (by decide) rfl rfl dX6_faultAt_65 rfl ?_
            refine w_iload_n (i := 2) hX dX6_faultAt_68 rfl rfl rfl ?_
            refine w_iald hX rfl (by omega) (by omega) dX6_faultAt_69 rfl ?_
            refine w_istore hX dX6_faultAt_70 rfl (by decide) ?_
            dsimp only [st1X, st2X, klX_I, klX_L, klX_R, klX_S, klX_N]
            refine w_taken hX rfl dX6_faultAt_72 rfl ?_
            refine w_aload_n (i := 3) hX dX6_faultAt_75 rfl rfl rfl ?_
            refine w_getI (j := 0) hX cl2 fl_RX6_42_2 (K0_ins (at_ins hI u i)) (by decide) rfl dX6_faultAt_76 rfl ?_
            refine w_sald (k := 0) hX (by decide) (by omega) (by rw [roX0]; show _ < ((19 : Nat) : Int); omega) dX6_faultAt_79 rfl ?_
            rw [roX0]
            change W0 _ _ _ _ (vI (tk _) :: _) _
            refine w_iload hX dX6_faultAt_80 rfl rfl ?_
            refine w_icmp_le (tgt := 88) hX dX6_faultAt_82 rfl (by decide) (fun h82 => ?_) (fun h82 => ?_)
            · refine w_iload hX dX6_faultAt_88 rfl rfl ?_
              refine w_taken hX rfl dX6_faultAt_90 rfl ?_
              refine w_aload_n (i := 3) hX dX6_faultAt_93 rfl rfl rfl ?_
              refine w_getI (j := 0) hX cl2 fl_RX6_42_2 (K0_ins (at_ins hI u i)) (by decide) rfl dX6_faultAt_94 rfl ?_
              refine w_sald (k := 0) hX (by decide) (by omega) (by rw [roX0]; show _ < ((19 : Nat) : Int); omega) dX6_faultAt_97 rfl ?_
              rw [roX0]
              change W0 _ _ _ _ (vI (tk _) :: _) _
              refine w_isub hX dX6_faultAt_98 rfl (by omega) ?_
              refine w_left hX rfl dX6_faultAt_99 rfl ?_
              refine w_aload_n (i := 3) hX dX6_faultAt_102 rfl rfl rfl ?_
              refine w_getI (j := 0) hX cl2 fl_RX6_42_2 (K0_ins (at_ins hI u i)) (by decide) rfl dX6_faultAt_103 rfl ?_
              refine w_sald (k := 1) hX (by decide) (by omega) (by rw [roX1]; show _ < ((19 : Nat) : Int); omega) dX6_faultAt_106 rfl ?_
              rw [roX1]
              change W0 _ _ _ _ (vI (lf _) :: _) _
              refine w_iadd hX dX6_faultAt_107 rfl (by omega) ?_
              refine w_istore hX dX6_faultAt_108 rfl (by decide) ?_
              dsimp only [st1X, st2X, klX_I, klX_L, klX_R, klX_S, klX_N]
              refine w_iload hX dX6_faultAt_110 rfl rfl ?_
              refine w_bipush hX dX6_faultAt_112 rfl (by decide) ?_
              refine w_icmp_le (tgt := 120) hX dX6_faultAt_114 rfl (by decide) (fun h114 => ?_) (fun h114 => ?_)
              · refine w_aload_n (i := 0) hX dX6_faultAt_120 rfl rfl rfl ?_
                refine w_iload_n (i := 2) hX dX6_faultAt_121 rfl rfl rfl ?_
                refine w_aload_n (i := 3) hX dX6_faultAt_122 rfl rfl rfl ?_
                refine w_iload hX dX6_faultAt_123 rfl rfl ?_
                refine c_V hX ml_RX6_53 cl5 dX6_faultAt_125 rfl (m_goesOn D hs (atF D u i) (at_ins hI u i) i _ (by omega)) rfl rfl rfl (by decide) (Nat.le_of_ble_eq_true rfl) ?_
                rintro r D2 hr -
                rcases hr with ⟨hr, rfl, rfl⟩ | ⟨hr, rfl, hr2⟩
                all_goals try dsimp only [Option.toList, List.cons_append, List.nil_append]
                · have zq_ke : keepS D (ndF (cmE ((D 269 i.toNat - tk ((D (atF D u i) 0)) + lf ((D (atF D u i) 0)))) D ((tgF ((D (atF D u i) 0)) i ((D (atF D u i) 1)) ((D (atF D u i) 2)) (D 268 3)))) u ((D 269 i.toNat - tk ((D (atF D u i) 0)) + lf ((D (atF D u i) 0))))) := keepS.cme.tr keepS.nd
                  have zq_f : ∀ j, ndF (cmE ((D 269 i.toNat - tk ((D (atF D u i) 0)) + lf ((D (atF D u i) 0)))) D ((tgF ((D (atF D u i) 0)) i ((D (atF D u i) 1)) ((D (atF D u i) 2)) (D 268 3)))) u ((D 269 i.toNat - tk ((D (atF D u i) 0)) + lf ((D (atF D u i) 0)))) (atF D u i) j = D (atF D u i) j := fun j => zq_ke.sm _ _ (at_lt hI u i)
                  refine w_if_ne (tgt := 134) hX dX6_faultAt_128 rfl (by decide) (fun _ => ?_) (fun h128 => absurd (by decide) h128)
                  refine w_aload_n (i := 0) hX dX6_faultAt_134 rfl rfl rfl ?_
                  refine w_iload_n (i := 1) hX dX6_faultAt_135 rfl rfl rfl ?_
                  refine w_iload hX dX6_faultAt_136 rfl rfl ?_
                  refine c_V hX ml_RX6_57 cl5 dX6_faultAt_138 rfl (m_noteDepth _ u _) rfl rfl rfl (by decide) (Nat.le_of_ble_eq_true rfl) ?_
                  rintro _ _ ⟨rfl, rfl⟩ -
                  all_goals try dsimp only [Option.toList, List.cons_append, List.nil_append]
                  refine w_aload_n (i := 3) hX dX6_faultAt_141 rfl rfl rfl ?_
                  refine c_V hX ml_RX6_61 cl2 dX6_faultAt_142 rfl (m_beginsUnit _ (atF D u i) (at_ins hI u i)) rfl (K0_ins (at_ins hI u i)) rfl (by decide) (Nat.le_of_ble_eq_true rfl) ?_
                  rintro _ _ ⟨rfl, rfl⟩ -
                  all_goals try dsimp only [Option.toList, List.cons_append, List.nil_append]
                  refine w_if_eq (tgt := 164) hX dX6_faultAt_145 rfl (by decide) (fun h145 => ?_) (fun h145 => ?_)
                  · rw [b2_0] at h145
                    rw [zq_f 0] at h145
                    refine w_iconst hX dX6_faultAt_164 rfl (by decide) ?_
                    exact e_i hX hF dX6_faultAt_165 ⟨by rw [skF, it_f h59, it_f (by omega), it_f (by omega), it_f (fun q => q hr)], by first | exact zq_ke | exact zq_ke.tr keepS.nd, fun _ => by first | rw [skD, it_f h59, it_f h145] | rw [skD, it_f h59, it_t h145]⟩
                  · rw [b2_n] at h145
                    rw [zq_f 0] at h145
                    refine w_aload_n (i := 0) hX dX6_faultAt_148 rfl rfl rfl ?_
                    refine w_iload_n (i := 1) hX dX6_faultAt_149 rfl rfl rfl ?_
                    refine w_iload hX dX6_faultAt_150 rfl rfl ?_
                    refine w_aload_n (i := 0) hX dX6_faultAt_152 rfl rfl rfl ?_
                    refine w_aload_n (i := 3) hX dX6_faultAt_153 rfl rfl rfl ?_
                    refine w_getI (j := 1) hX cl2 fl_RX6_65_2 (K0_ins (at_ins hI u i)) (by decide) rfl dX6_faultAt_154 rfl ?_
                    rw [zq_f 1]
                    refine c_V hX ml_RX6_68 cl5 dX6_faultAt_157 rfl (m_deepestOf _ _) rfl rfl rfl (by decide) (Nat.le_of_ble_eq_true rfl) ?_
                    rintro _ _ ⟨rfl, rfl⟩ -
                    all_goals try dsimp only [Option.toList, List.cons_append, List.nil_append]
                    have zq_g := gt_in2 (dpB.nd (u := u) (dpB.cme (d := (D 269 i.toNat - tk ((D (atF D u i) 0)) + lf ((D (atF D u i) 0)))) (r := (tgF ((D (atF D u i) 0)) i ((D (atF D u i) 1)) ((D (atF D u i) 2)) (D 268 3))) hb) (show 0 ≤ (D 269 i.toNat - tk ((D (atF D u i) 0)) + lf ((D (atF D u i) 0))) ∧ (D 269 i.toNat - tk ((D (atF D u i) 0)) + lf ((D (atF D u i) 0))) ≤ 10000 by omega)) ((D (atF D u i) 1)) (by have zq_q := ha h145; omega)
                    have zq_64 : D 269 i.toNat ≤ 64 := zq_d.2
                    refine w_iadd hX dX6_faultAt_160 rfl (by omega) ?_
                    refine c_V hX ml_RX6_57 cl5 dX6_faultAt_161 rfl (m_noteDepth _ u _) rfl rfl rfl (by decide) (Nat.le_of_ble_eq_true rfl) ?_
                    rintro _ _ ⟨rfl, rfl⟩ -
                    all_goals try dsimp only [Option.toList, List.cons_append, List.nil_append]
                    refine w_iconst hX dX6_faultAt_164 rfl (by decide) ?_
                    exact e_i hX hF dX6_faultAt_165 ⟨by rw [skF, it_f h59, it_f (by omega), it_f (by omega), it_f (fun q => q hr)], by first | exact zq_ke | exact zq_ke.tr keepS.nd, fun _ => by first | rw [skD, it_f h59, it_f h145] | rw [skD, it_f h59, it_t h145]⟩
                · refine w_if_ne (tgt := 134) hX dX6_faultAt_128 rfl (by decide) (fun h128 => absurd h128 (by decide)) (fun _ => ?_)
                  refine w_bipush hX dX6_faultAt_131 rfl (by decide) ?_
                  exact e_i hX hF dX6_faultAt_133 ⟨by rw [skF, it_f h59, it_f (by omega), it_f (by omega), it_t hr], hr2, fun h => by rw [skF, it_f h59, it_f (by omega), it_f (by omega), it_t hr] at h; omega⟩
              · refine w_bipush hX dX6_faultAt_117 rfl (by decide) ?_
                exact e_i hX hF dX6_faultAt_119 ⟨by rw [skF, it_f h59, it_f (by omega), it_t (by omega)], keepS.rf D, fun h => by rw [skF, it_f h59, it_f (by omega), it_t (by omega)] at h; omega⟩
            · refine w_bipush hX dX6_faultAt_85 rfl (by decide) ?_
              exact e_i hX hF dX6_faultAt_87 ⟨by rw [skF, it_f h59, it_t (Int.not_le.mp h82)], keepS.rf D, fun h => by rw [skF, it_f h59, it_t (Int.not_le.mp h82)] at h; omega⟩
          · refine w_iconst hX dX6_faultAt_62 rfl (by decide) ?_
            exact e_i hX hF dX6_faultAt_63 ⟨by rw [skF, it_t (Classical.not_not.mp h59)], keepS.rf D, fun _ => by rw [skD, it_t (Classical.not_not.mp h59)]⟩
