/-! FormPass: what an instruction says by itself (faults 2 to 6) -/
/-- fault 2 -/
abbrev wfP (n a b c : Int) : Prop := ((n = 3 ∨ n = 4) ∧ c < 1) ∨ (n = 7 ∧ (a < 0 ∨ 24 < a)) ∨ (n = 8 ∧ (a < 0 ∨ 7 < a)) ∨ (n = 12 ∧ (b < 0 ∨ 1000000 < b)) ∨ (n = 17 ∧ (a < 0 ∨ 8 < a)) ∨ n < 0 ∨ 18 < n
/-- fault 3 -/
abbrev wuP (D : Dd) (u n a : Int) : Prop := ((n = 5 ∨ n = 6 ∨ n = 16) ∧ (a < 0 ∨ u ≤ a ∨ plF D a = -1)) ∨ (n = 15 ∧ (a < 0 ∨ u ≤ a ∨ plF D a ≠ -1))
def owF (u n a : Int) : Int := if n = 5 ∨ n = 6 then a else u
def fcF (n a b : Int) : Int := if n = 5 ∨ n = 6 ∨ n = 15 ∨ n = 17 then b else a
def cnF (D : Dd) (n a c : Int) : Int := if n = 1 ∨ n = 2 ∨ n = 5 ∨ n = 6 ∨ n = 12 ∨ n = 13 then 1 else if n = 3 ∨ n = 4 then c else if n = 15 then frF D a else if n = 17 then (if a ≤ 4 then 6 else 3) else -1
/-- fault 4 -/
abbrev coP (D : Dd) (u n a b c : Int) : Prop := cnF D n a c ≠ -1 ∧ (fcF n a b < 0 ∨ (0 < cnF D n a c ∧ frF D (owF u n a) < fcF n a b + cnF D n a c))
/-- fault 5 -/
def ctP (D : Dd) (u n a b c : Int) : Prop := 1 ≤ cnF D n a c ∧ ¬ (n = 12 ∨ n = 13) ∧ ∃ i : Int, 0 ≤ i ∧ i < szF D (owF u n a) ∧ (D (atF D (owF u n a) i) 0 = 12 ∨ D (atF D (owF u n a) i) 0 = 13) ∧ fcF n a b ≤ D (atF D (owF u n a) i) 1 ∧ D (atF D (owF u n a) i) 1 < fcF n a b + cnF D n a c
/-- fault 6 -/
abbrev gwP (D : Dd) (u i n a b : Int) : Prop := ((n = 10 ∨ n = 11) ∧ (a ≤ i ∨ szF D u < a)) ∨ (n = 13 ∧ (b ≤ i ∨ szF D u < b)) ∨ (n = 14 ∧ (a < 0 ∨ i ≤ a))
/-- the fault of an instruction by itself -/
noncomputable def lnF (D : Dd) (u i : Int) : Int :=
  itP (wfP (D (atF D u i) 0) (D (atF D u i) 1) (D (atF D u i) 2) (D (atF D u i) 3)) 2 (itP (wuP D u (D (atF D u i) 0) (D (atF D u i) 1)) 3 (itP (coP D u (D (atF D u i) 0) (D (atF D u i) 1) (D (atF D u i) 2) (D (atF D u i) 3)) 4 (itP (ctP D u (D (atF D u i) 0) (D (atF D u i) 1) (D (atF D u i) 2) (D (atF D u i) 3)) 5 (itP (gwP D u i (D (atF D u i) 0) (D (atF D u i) 1) (D (atF D u i) 2)) 6 0))))
theorem okS.I2 {n : Nat} {ls : List AV} {i : Nat} {x : Int} (h : okS n ls) (hi : ls[i]? = some (vI x)) : inI x := h.at hi

set_option maxRecDepth 100000 in
set_option maxHeartbeats 4000000 in
theorem m_hasWrongForm (D : Dd) (k : Nat) (hk : isIns k) : MC 1 yX1_hasWrongForm cX1_hasWrongForm 2 (some .boolean) [vR 265, vR k] D (Is (some (vI (b2 (wfP (D k 0) (D k 1) (D k 2) (D k 3))))) D) := by
  refine MC.mk [vR 265, vR k] (by decide) (Nat.le_of_ble_eq_true rfl) rfl (fun X Q hX hF hok hol => ?_)
  refine w_aload_n (i := 1) hX dX1_hasWrongForm_0 rfl rfl rfl ?_
  refine w_getI (j := 0) hX cl2 fl_RX1_39_2 (K0_ins (by assumption)) (by decide) rfl dX1_hasWrongForm_1 rfl ?_
  refine w_nameI (fun sw4 hsw4 => ?_)
  by_cases g4_0 : sw4 = 3 ∨ sw4 = 4
  · refine w_tsw (tgt := 80) hX dX1_hasWrongForm_4 rfl (by rcases g4_0 with w | w <;> rw [w] <;> decide) ?_
    refine w_aload_n (i := 1) hX dX1_hasWrongForm_80 rfl rfl rfl ?_
    refine w_getI (j := 3) hX cl2 fl_RX1_45_2 (K0_ins (by assumption)) (by decide) rfl dX1_hasWrongForm_81 rfl ?_
    refine w_iconst hX dX1_hasWrongForm_84 rfl (by decide) ?_
    refine w_icmp_ge (tgt := 92) hX dX1_hasWrongForm_85 rfl (by decide) (fun h85 => ?_) (fun h85 => ?_)
    · refine w_iconst hX dX1_hasWrongForm_92 rfl (by decide) ?_
      exact e_z hX hF dX1_hasWrongForm_93 (by decide) ⟨by first | rw [b2_t (by (try unfold wfP); omega)] | rw [b2_f (by (try unfold wfP); omega)], rfl⟩
    · refine w_iconst hX dX1_hasWrongForm_88 rfl (by decide) ?_
      refine w_goto (tgt := 93) hX dX1_hasWrongForm_89 (by decide) ?_
      exact e_z hX hF dX1_hasWrongForm_93 (by decide) ⟨by first | rw [b2_t (by (try unfold wfP); omega)] | rw [b2_f (by (try unfold wfP); omega)], rfl⟩
  by_cases g4_1 : sw4 = 7
  · refine w_tsw (tgt := 94) hX dX1_hasWrongForm_4 rfl (by rw [g4_1]; decide) ?_
    refine w_aload_n (i := 1) hX dX1_hasWrongForm_94 rfl rfl rfl ?_
    refine w_getI (j := 1) hX cl2 fl_RX1_48_2 (K0_ins (by assumption)) (by decide) rfl dX1_hasWrongForm_95 rfl ?_
    refine w_if_lt (tgt := 110) hX dX1_hasWrongForm_98 rfl (by decide) (fun h98 => ?_) (fun h98 => ?_)
    · refine w_iconst hX dX1_hasWrongForm_110 rfl (by decide) ?_
      refine w_goto (tgt := 115) hX dX1_hasWrongForm_111 (by decide) ?_
      exact e_z hX hF dX1_hasWrongForm_115 (by decide) ⟨by first | rw [b2_t (by (try unfold wfP); omega)] | rw [b2_f (by (try unfold wfP); omega)], rfl⟩
    · refine w_aload_n (i := 1) hX dX1_hasWrongForm_101 rfl rfl rfl ?_
      refine w_getI (j := 1) hX cl2 fl_RX1_48_2 (K0_ins (by assumption)) (by decide) rfl dX1_hasWrongForm_102 rfl ?_
      refine w_bipush hX dX1_hasWrongForm_105 rfl (by decide) ?_
      refine w_icmp_le (tgt := 114) hX dX1_hasWrongForm_107 rfl (by decide) (fun h107 => ?_) (fun h107 => ?_)
      · refine w_iconst hX dX1_hasWrongForm_114 rfl (by decide) ?_
        exact e_z hX hF dX1_hasWrongForm_115 (by decide) ⟨by first | rw [b2_t (by (try unfold wfP); omega)] | rw [b2_f (by (try unfold wfP); omega)], rfl⟩
      · refine w_iconst hX dX1_hasWrongForm_110 rfl (by decide) ?_
        refine w_goto (tgt := 115) hX dX1_hasWrongForm_111 (by decide) ?_
        exact e_z hX hF dX1_hasWrongForm_115 (by decide) ⟨by first | rw [b2_t (by (try unfold wfP); omega)] | rw [b2_f (by (try unfold wfP); omega)], rfl⟩
  by_cases g4_2 : sw4 = 8
  · refine w_tsw (tgt := 116) hX dX1_hasWrongForm_4 rfl (by rw [g4_2]; decide) ?_
    refine w_aload_n (i := 1) hX dX1_hasWrongForm_116 rfl rfl rfl ?_
    refine w_getI (j := 1) hX cl2 fl_RX1_48_2 (K0_ins (by assumption)) (by decide) rfl dX1_hasWrongForm_117 rfl ?_
    refine w_if_lt (tgt := 132) hX dX1_hasWrongForm_120 rfl (by decide) (fun h120 => ?_) (fun h120 => ?_)
    · refine w_iconst hX dX1_hasWrongForm_132 rfl (by decide) ?_
      refine w_goto (tgt := 137) hX dX1_hasWrongForm_133 (by decide) ?_
      exact e_z hX hF dX1_hasWrongForm_137 (by decide) ⟨by first | rw [b2_t (by (try unfold wfP); omega)] | rw [b2_f (by (try unfold wfP); omega)], rfl⟩
    · refine w_aload_n (i := 1) hX dX1_hasWrongForm_123 rfl rfl rfl ?_
      refine w_getI (j := 1) hX cl2 fl_RX1_48_2 (K0_ins (by assumption)) (by decide) rfl dX1_hasWrongForm_124 rfl ?_
      refine w_bipush hX dX1_hasWrongForm_127 rfl (by decide) ?_
      refine w_icmp_le (tgt := 136) hX dX1_hasWrongForm_129 rfl (by decide) (fun h129 => ?_) (fun h129 => ?_)
      · refine w_iconst hX dX1_hasWrongForm_136 rfl (by decide) ?_
        exact e_z hX hF dX1_hasWrongForm_137 (by decide) ⟨by first | rw [b2_t (by (try unfold wfP); omega)] | rw [b2_f (by (try unfold wfP); omega)], rfl⟩
      · refine w_iconst hX dX1_hasWrongForm_132 rfl (by decide) ?_
        refine w_goto (tgt := 137) hX dX1_hasWrongForm_133 (by decide) ?_
        exact e_z hX hF dX1_hasWrongForm_137 (by decide) ⟨by first | rw [b2_t (by (try unfold wfP); omega)] | rw [b2_f (by (try unfold wfP); omega)], rfl⟩
  by_cases g4_3 : sw4 = 12
  · refine w_tsw (tgt := 138) hX dX1_hasWrongForm_4 rfl (by rw [g4_3]; decide) ?_
    refine w_aload_n (i := 1) hX dX1_hasWrongForm_138 rfl rfl rfl ?_
    refine w_getI (j := 2) hX cl2 fl_RX1_51_2 (K0_ins (by assumption)) (by decide) rfl dX1_hasWrongForm_139 rfl ?_
    refine w_if_lt (tgt := 154) hX dX1_hasWrongForm_142 rfl (by decide) (fun h142 => ?_) (fun h142 => ?_)
    · refine w_iconst hX dX1_hasWrongForm_154 rfl (by decide) ?_
      refine w_goto (tgt := 159) hX dX1_hasWrongForm_155 (by decide) ?_
      exact e_z hX hF dX1_hasWrongForm_159 (by decide) ⟨by first | rw [b2_t (by (try unfold wfP); omega)] | rw [b2_f (by (try unfold wfP); omega)], rfl⟩
    · refine w_aload_n (i := 1) hX dX1_hasWrongForm_145 rfl rfl rfl ?_
      refine w_getI (j := 2) hX cl2 fl_RX1_51_2 (K0_ins (by assumption)) (by decide) rfl dX1_hasWrongForm_146 rfl ?_
      refine w_ldc (x := 1000000) hX ki_RX1_54 dX1_hasWrongForm_149 rfl (by decide) (by decide) ?_
      refine w_icmp_le (tgt := 158) hX dX1_hasWrongForm_151 rfl (by decide) (fun h151 => ?_) (fun h151 => ?_)
      · refine w_iconst hX dX1_hasWrongForm_158 rfl (by decide) ?_
        exact e_z hX hF dX1_hasWrongForm_159 (by decide) ⟨by first | rw [b2_t (by (try unfold wfP); omega)] | rw [b2_f (by (try unfold wfP); omega)], rfl⟩
      · refine w_iconst hX dX1_hasWrongForm_154 rfl (by decide) ?_
        refine w_goto (tgt := 159) hX dX1_hasWrongForm_155 (by decide) ?_
        exact e_z hX hF dX1_hasWrongForm_159 (by decide) ⟨by first | rw [b2_t (by (try unfold wfP); omega)] | rw [b2_f (by (try unfold wfP); omega)], rfl⟩
  by_cases g4_4 : sw4 = 17
  · refine w_tsw (tgt := 160) hX dX1_hasWrongForm_4 rfl (by rw [g4_4]; decide) ?_
    refine w_aload_n (i := 1) hX dX1_hasWrongForm_160 rfl rfl rfl ?_
    refine w_getI (j := 1) hX cl2 fl_RX1_48_2 (K0_ins (by assumption)) (by decide) rfl dX1_hasWrongForm_161 rfl ?_
    refine w_if_lt (tgt := 176) hX dX1_hasWrongForm_164 rfl (by decide) (fun h164 => ?_) (fun h164 => ?_)
    · refine w_iconst hX dX1_hasWrongForm_176 rfl (by decide) ?_
      refine w_goto (tgt := 181) hX dX1_hasWrongForm_177 (by decide) ?_
      exact e_z hX hF dX1_hasWrongForm_181 (by decide) ⟨by first | rw [b2_t (by (try unfold wfP); omega)] | rw [b2_f (by (try unfold wfP); omega)], rfl⟩
    · refine w_aload_n (i := 1) hX dX1_hasWrongForm_167 rfl rfl rfl ?_
      refine w_getI (j := 1) hX cl2 fl_RX1_48_2 (K0_ins (by assumption)) (by decide) rfl dX1_hasWrongForm_168 rfl ?_
      refine w_bipush hX dX1_hasWrongForm_171 rfl (by decide) ?_
      refine w_icmp_le (tgt := 180) hX dX1_hasWrongForm_173 rfl (by decide) (fun h173 => ?_) (fun h173 => ?_)
      · refine w_iconst hX dX1_hasWrongForm_180 rfl (by decide) ?_
        exact e_z hX hF dX1_hasWrongForm_181 (by decide) ⟨by first | rw [b2_t (by (try unfold wfP); omega)] | rw [b2_f (by (try unfold wfP); omega)], rfl⟩
      · refine w_iconst hX dX1_hasWrongForm_176 rfl (by decide) ?_
        refine w_goto (tgt := 181) hX dX1_hasWrongForm_177 (by decide) ?_
        exact e_z hX hF dX1_hasWrongForm_181 (by decide) ⟨by first | rw [b2_t (by (try unfold wfP); omega)] | rw [b2_f (by (try unfold wfP); omega)], rfl⟩
  refine w_tsw (tgt := 182) hX dX1_hasWrongForm_4 rfl (by rw [sw_dflt [3, 4, 7, 8, 12, 17] (by decide) (by simp only [List.mem_cons, List.not_mem_nil, or_false]; omega)]; decide) ?_
  refine w_aload_n (i := 1) hX dX1_hasWrongForm_182 rfl rfl rfl ?_
  refine w_getI (j := 0) hX cl2 fl_RX1_39_2 (K0_ins (by assumption)) (by decide) rfl dX1_hasWrongForm_183 rfl ?_
  refine w_if_lt (tgt := 198) hX dX1_hasWrongForm_186 rfl (by decide) (fun h186 => ?_) (fun h186 => ?_)
  · refine w_iconst hX dX1_hasWrongForm_198 rfl (by decide) ?_
    refine w_goto (tgt := 203) hX dX1_hasWrongForm_199 (by decide) ?_
    exact e_z hX hF dX1_hasWrongForm_203 (by decide) ⟨by first | rw [b2_t (by (try unfold wfP); omega)] | rw [b2_f (by (try unfold wfP); omega)], rfl⟩
  · refine w_aload_n (i := 1) hX dX1_hasWrongForm_189 rfl rfl rfl ?_
    refine w_getI (j := 0) hX cl2 fl_RX1_39_2 (K0_ins (by assumption)) (by decide) rfl dX1_hasWrongForm_190 rfl ?_
    refine w_bipush hX dX1_hasWrongForm_193 rfl (by decide) ?_
    refine w_icmp_le (tgt := 202) hX dX1_hasWrongForm_195 rfl (by decide) (fun h195 => ?_) (fun h195 => ?_)
    · refine w_iconst hX dX1_hasWrongForm_202 rfl (by decide) ?_
      exact e_z hX hF dX1_hasWrongForm_203 (by decide) ⟨by first | rw [b2_t (by (try unfold wfP); omega)] | rw [b2_f (by (try unfold wfP); omega)], rfl⟩
    · refine w_iconst hX dX1_hasWrongForm_198 rfl (by decide) ?_
      refine w_goto (tgt := 203) hX dX1_hasWrongForm_199 (by decide) ?_
      exact e_z hX hF dX1_hasWrongForm_203 (by decide) ⟨by first | rw [b2_t (by (try unfold wfP); omega)] | rw [b2_f (by (try unfold wfP); omega)], rfl⟩

set_option maxRecDepth 100000 in
set_option maxHeartbeats 4000000 in
theorem m_namesWrongUnit (D : Dd) (hI : InC D) (k : Nat) (hk : isIns k) (u : Int) : MC 2 yX1_namesWrongUnit cX1_namesWrongUnit 3 (some .boolean) [vR 265, vI u, vR k] D (Is (some (vI (b2 (wuP D u (D k 0) (D k 1))))) D) := by
  refine MC.mk [vR 265, vI u, vR k] (by decide) (Nat.le_of_ble_eq_true rfl) rfl (fun X Q hX hF hok hol => ?_)
  refine w_aload_n (i := 2) hX dX1_namesWrongUnit_0 rfl rfl rfl ?_
  refine w_getI (j := 0) hX cl2 fl_RX1_39_2 (K0_ins (by assumption)) (by decide) rfl dX1_namesWrongUnit_1 rfl ?_
  refine w_nameI (fun sw4 hsw4 => ?_)
  by_cases g4_0 : sw4 = 5 ∨ sw4 = 6 ∨ sw4 = 16
  · refine w_lsw (tgt := 48) (off := 44) hX dX1_namesWrongUnit_4 (by decide) (by rcases g4_0 with w | w | w <;> rw [w] <;> decide) (by decide) ?_
    refine w_aload_n (i := 2) hX dX1_namesWrongUnit_48 rfl rfl rfl ?_
    refine w_getI (j := 1) hX cl2 fl_RX1_48_2 (K0_ins (by assumption)) (by decide) rfl dX1_namesWrongUnit_49 rfl ?_
    refine w_if_lt (tgt := 78) hX dX1_namesWrongUnit_52 rfl (by decide) (fun h52 => ?_) (fun h52 => ?_)
    · refine w_iconst hX dX1_namesWrongUnit_78 rfl (by decide) ?_
      refine w_goto (tgt := 83) hX dX1_namesWrongUnit_79 (by decide) ?_
      exact e_z hX hF dX1_namesWrongUnit_83 (by decide) ⟨by first | rw [b2_t (by (try unfold wuP); omega)] | rw [b2_f (by (try unfold wuP); omega)], rfl⟩
    · refine w_aload_n (i := 2) hX dX1_namesWrongUnit_55 rfl rfl rfl ?_
      refine w_getI (j := 1) hX cl2 fl_RX1_48_2 (K0_ins (by assumption)) (by decide) rfl dX1_namesWrongUnit_56 rfl ?_
      refine w_iload_n (i := 1) hX dX1_namesWrongUnit_59 rfl rfl rfl ?_
      refine w_icmp_ge (tgt := 78) hX dX1_namesWrongUnit_60 rfl (by decide) (fun h60 => ?_) (fun h60 => ?_)
      · refine w_iconst hX dX1_namesWrongUnit_78 rfl (by decide) ?_
        refine w_goto (tgt := 83) hX dX1_namesWrongUnit_79 (by decide) ?_
        exact e_z hX hF dX1_namesWrongUnit_83 (by decide) ⟨by first | rw [b2_t (by (try unfold wuP); omega)] | rw [b2_f (by (try unfold wuP); omega)], rfl⟩
      · refine w_aload_n (i := 0) hX dX1_namesWrongUnit_63 rfl rfl rfl ?_
        refine w_getR (j := 0) hX cl1 fl_RX1_9_1 rfl (by decide) rfl rfl dX1_namesWrongUnit_64 rfl ?_
        refine w_aload_n (i := 2) hX dX1_namesWrongUnit_67 rfl rfl rfl ?_
        refine w_getI (j := 1) hX cl2 fl_RX1_48_2 (K0_ins (by assumption)) (by decide) rfl dX1_namesWrongUnit_68 rfl ?_
        refine c_V hX ml_RX1_55 cl0 dX1_namesWrongUnit_71 rfl (m_placeOf D hI (D k 1)) rfl rfl rfl (by decide) (Nat.le_of_ble_eq_true rfl) ?_
        rintro _ _ ⟨rfl, rfl⟩ -
        all_goals try dsimp only [Option.toList, List.cons_append, List.nil_append]
        refine w_iconst hX dX1_namesWrongUnit_74 rfl (by decide) ?_
        refine w_icmp_ne (tgt := 82) hX dX1_namesWrongUnit_75 rfl (by decide) (fun h75 => ?_) (fun h75 => ?_)
        · refine w_iconst hX dX1_namesWrongUnit_82 rfl (by decide) ?_
          exact e_z hX hF dX1_namesWrongUnit_83 (by decide) ⟨by first | rw [b2_t (by (try unfold wuP); omega)] | rw [b2_f (by (try unfold wuP); omega)], rfl⟩
        · refine w_iconst hX dX1_namesWrongUnit_78 rfl (by decide) ?_
          refine w_goto (tgt := 83) hX dX1_namesWrongUnit_79 (by decide) ?_
          exact e_z hX hF dX1_namesWrongUnit_83 (by decide) ⟨by first | rw [b2_t (by (try unfold wuP); omega)] | rw [b2_f (by (try unfold wuP); omega)], rfl⟩
  by_cases g4_1 : sw4 = 15
  · refine w_lsw (tgt := 84) (off := 80) hX dX1_namesWrongUnit_4 (by decide) (by rw [g4_1]; decide) (by decide) ?_
    refine w_aload_n (i := 2) hX dX1_namesWrongUnit_84 rfl rfl rfl ?_
    refine w_getI (j := 1) hX cl2 fl_RX1_48_2 (K0_ins (by assumption)) (by decide) rfl dX1_namesWrongUnit_85 rfl ?_
    refine w_if_lt (tgt := 114) hX dX1_namesWrongUnit_88 rfl (by decide) (fun h88 => ?_) (fun h88 => ?_)
    · refine w_iconst hX dX1_namesWrongUnit_114 rfl (by decide) ?_
      refine w_goto (tgt := 119) hX dX1_namesWrongUnit_115 (by decide) ?_
      exact e_z hX hF dX1_namesWrongUnit_119 (by decide) ⟨by first | rw [b2_t (by (try unfold wuP); omega)] | rw [b2_f (by (try unfold wuP); omega)], rfl⟩
    · refine w_aload_n (i := 2) hX dX1_namesWrongUnit_91 rfl rfl rfl ?_
      refine w_getI (j := 1) hX cl2 fl_RX1_48_2 (K0_ins (by assumption)) (by decide) rfl dX1_namesWrongUnit_92 rfl ?_
      refine w_iload_n (i := 1) hX dX1_namesWrongUnit_95 rfl rfl rfl ?_
      refine w_icmp_ge (tgt := 114) hX dX1_namesWrongUnit_96 rfl (by decide) (fun h96 => ?_) (fun h96 => ?_)
      · refine w_iconst hX dX1_namesWrongUnit_114 rfl (by decide) ?_
        refine w_goto (tgt := 119) hX dX1_namesWrongUnit_115 (by decide) ?_
        exact e_z hX hF dX1_namesWrongUnit_119 (by decide) ⟨by first | rw [b2_t (by (try unfold wuP); omega)] | rw [b2_f (by (try unfold wuP); omega)], rfl⟩
      · refine w_aload_n (i := 0) hX dX1_namesWrongUnit_99 rfl rfl rfl ?_
        refine w_getR (j := 0) hX cl1 fl_RX1_9_1 rfl (by decide) rfl rfl dX1_namesWrongUnit_100 rfl ?_
        refine w_aload_n (i := 2) hX dX1_namesWrongUnit_103 rfl rfl rfl ?_
        refine w_getI (j := 1) hX cl2 fl_RX1_48_2 (K0_ins (by assumption)) (by decide) rfl dX1_namesWrongUnit_104 rfl ?_
        refine c_V hX ml_RX1_55 cl0 dX1_namesWrongUnit_107 rfl (m_placeOf D hI (D k 1)) rfl rfl rfl (by decide) (Nat.le_of_ble_eq_true rfl) ?_
        rintro _ _ ⟨rfl, rfl⟩ -
        all_goals try dsimp only [Option.toList, List.cons_append, List.nil_append]
        refine w_iconst hX dX1_namesWrongUnit_110 rfl (by decide) ?_
        refine w_icmp_eq (tgt := 118) hX dX1_namesWrongUnit_111 rfl (by decide) (fun h111 => ?_) (fun h111 => ?_)
        · refine w_iconst hX dX1_namesWrongUnit_118 rfl (by decide) ?_
          exact e_z hX hF dX1_namesWrongUnit_119 (by decide) ⟨by first | rw [b2_t (by (try unfold wuP); omega)] | rw [b2_f (by (try unfold wuP); omega)], rfl⟩
        · refine w_iconst hX dX1_namesWrongUnit_114 rfl (by decide) ?_
          refine w_goto (tgt := 119) hX dX1_namesWrongUnit_115 (by decide) ?_
          exact e_z hX hF dX1_namesWrongUnit_119 (by decide) ⟨by first | rw [b2_t (by (try unfold wuP); omega)] | rw [b2_f (by (try unfold wuP); omega)], rfl⟩
  refine w_lsw (tgt := 120) (off := 116) hX dX1_namesWrongUnit_4 (by decide) (by simp only [Op.lookupswitch.offset_cons, Op.lookupswitch.offset_nil]; (repeat rw [if_neg (by omega)])) (by decide) ?_
  refine w_iconst hX dX1_namesWrongUnit_120 rfl (by decide) ?_
  exact e_z hX hF dX1_namesWrongUnit_121 (by decide) ⟨by first | rw [b2_t (by (try unfold wuP); omega)] | rw [b2_f (by (try unfold wuP); omega)], rfl⟩

set_option maxRecDepth 100000 in
set_option maxHeartbeats 4000000 in
theorem m_ownerOfCells (D : Dd) (k : Nat) (hk : isIns k) (u : Int) : MC 1 yX1_ownerOfCells cX1_ownerOfCells 3 (some .int) [vR 265, vI u, vR k] D (Is (some (vI (owF u (D k 0) (D k 1)))) D) := by
  refine MC.mk [vR 265, vI u, vR k] (by decide) (Nat.le_of_ble_eq_true rfl) rfl (fun X Q hX hF hok hol => ?_)
  refine w_aload_n (i := 2) hX dX1_ownerOfCells_0 rfl rfl rfl ?_
  refine w_getI (j := 0) hX cl2 fl_RX1_39_2 (K0_ins (by assumption)) (by decide) rfl dX1_ownerOfCells_1 rfl ?_
  refine w_iconst hX dX1_ownerOfCells_4 rfl (by decide) ?_
  refine w_icmp_eq (tgt := 17) hX dX1_ownerOfCells_5 rfl (by decide) (fun h5 => ?_) (fun h5 => ?_)
  · refine w_aload_n (i := 2) hX dX1_ownerOfCells_17 rfl rfl rfl ?_
    refine w_getI (j := 1) hX cl2 fl_RX1_48_2 (K0_ins (by assumption)) (by decide) rfl dX1_ownerOfCells_18 rfl ?_
    refine w_goto (tgt := 25) hX dX1_ownerOfCells_21 (by decide) ?_
    exact e_i hX hF dX1_ownerOfCells_25 ⟨by simp only [owF]; first | rw [if_pos (by omega)] | rw [if_neg (by omega)], rfl⟩
  · refine w_aload_n (i := 2) hX dX1_ownerOfCells_8 rfl rfl rfl ?_
    refine w_getI (j := 0) hX cl2 fl_RX1_39_2 (K0_ins (by assumption)) (by decide) rfl dX1_ownerOfCells_9 rfl ?_
    refine w_bipush hX dX1_ownerOfCells_12 rfl (by decide) ?_
    refine w_icmp_ne (tgt := 24) hX dX1_ownerOfCells_14 rfl (by decide) (fun h14 => ?_) (fun h14 => ?_)
    · refine w_iload_n (i := 1) hX dX1_ownerOfCells_24 rfl rfl rfl ?_
      exact e_i hX hF dX1_ownerOfCells_25 ⟨by simp only [owF]; first | rw [if_pos (by omega)] | rw [if_neg (by omega)], rfl⟩
    · refine w_aload_n (i := 2) hX dX1_ownerOfCells_17 rfl rfl rfl ?_
      refine w_getI (j := 1) hX cl2 fl_RX1_48_2 (K0_ins (by assumption)) (by decide) rfl dX1_ownerOfCells_18 rfl ?_
      refine w_goto (tgt := 25) hX dX1_ownerOfCells_21 (by decide) ?_
      exact e_i hX hF dX1_ownerOfCells_25 ⟨by simp only [owF]; first | rw [if_pos (by omega)] | rw [if_neg (by omega)], rfl⟩

set_option maxRecDepth 100000 in
set_option maxHeartbeats 4000000 in
theorem m_firstCell (D : Dd) (k : Nat) (hk : isIns k) : MC 1 yX1_firstCell cX1_firstCell 2 (some .int) [vR 265, vR k] D (Is (some (vI (fcF (D k 0) (D k 1) (D k 2)))) D) := by
  refine MC.mk [vR 265, vR k] (by decide) (Nat.le_of_ble_eq_true rfl) rfl (fun X Q hX hF hok hol => ?_)
  refine w_aload_n (i := 1) hX dX1_firstCell_0 rfl rfl rfl ?_
  refine w_getI (j := 0) hX cl2 fl_RX1_39_2 (K0_ins (by assumption)) (by decide) rfl dX1_firstCell_1 rfl ?_
  refine w_nameI (fun sw4 hsw4 => ?_)
  by_cases g4_0 : sw4 = 5 ∨ sw4 = 6 ∨ sw4 = 15 ∨ sw4 = 17
  · refine w_lsw (tgt := 48) (off := 44) hX dX1_firstCell_4 (by decide) (by rcases g4_0 with w | w | w | w <;> rw [w] <;> decide) (by decide) ?_
    refine w_aload_n (i := 1) hX dX1_firstCell_48 rfl rfl rfl ?_
    refine w_getI (j := 2) hX cl2 fl_RX1_51_2 (K0_ins (by assumption)) (by decide) rfl dX1_firstCell_49 rfl ?_
    exact e_i hX hF dX1_firstCell_52 ⟨by simp only [fcF]; first | rw [if_pos (by omega)] | rw [if_neg (by omega)], rfl⟩
  refine w_lsw (tgt := 53) (off := 49) hX dX1_firstCell_4 (by decide) (by simp only [Op.lookupswitch.offset_cons, Op.lookupswitch.offset_nil]; (repeat rw [if_neg (by omega)])) (by decide) ?_
  refine w_aload_n (i := 1) hX dX1_firstCell_53 rfl rfl rfl ?_
  refine w_getI (j := 1) hX cl2 fl_RX1_48_2 (K0_ins (by assumption)) (by decide) rfl dX1_firstCell_54 rfl ?_
  exact e_i hX hF dX1_firstCell_57 ⟨by simp only [fcF]; first | rw [if_pos (by omega)] | rw [if_neg (by omega)], rfl⟩

set_option maxRecDepth 100000 in
set_option maxHeartbeats 4000000 in
theorem m_cellsNamed (D : Dd) (hI : InC D) (k : Nat) (hk : isIns k) : MC 2 yX1_cellsNamed cX1_cellsNamed 2 (some .int) [vR 265, vR k] D (Is (some (vI (cnF D (D k 0) (D k 1) (D k 3)))) D) := by
  refine MC.mk [vR 265, vR k] (by decide) (Nat.le_of_ble_eq_true rfl) rfl (fun X Q hX hF hok hol => ?_)
  refine w_aload_n (i := 1) hX dX1_cellsNamed_0 rfl rfl rfl ?_
  refine w_getI (j := 0) hX cl2 fl_RX1_39_2 (K0_ins (by assumption)) (by decide) rfl dX1_cellsNamed_1 rfl ?_
  refine w_nameI (fun sw4 hsw4 => ?_)
  by_cases g4_0 : sw4 = 1 ∨ sw4 = 2 ∨ sw4 = 5 ∨ sw4 = 6 ∨ sw4 = 12 ∨ sw4 = 13
  · refine w_tsw (tgt := 88) hX dX1_cellsNamed_4 rfl (by rcases g4_0 with w | w | w | w | w | w <;> rw [w] <;> decide) ?_
    refine w_iconst hX dX1_cellsNamed_88 rfl (by decide) ?_
    exact e_i hX hF dX1_cellsNamed_89 ⟨by simp only [cnF]; rw [if_pos (by omega)], rfl⟩
  by_cases g4_1 : sw4 = 3 ∨ sw4 = 4
  · refine w_tsw (tgt := 90) hX dX1_cellsNamed_4 rfl (by rcases g4_1 with w | w <;> rw [w] <;> decide) ?_
    refine w_aload_n (i := 1) hX dX1_cellsNamed_90 rfl rfl rfl ?_
    refine w_getI (j := 3) hX cl2 fl_RX1_45_2 (K0_ins (by assumption)) (by decide) rfl dX1_cellsNamed_91 rfl ?_
    exact e_i hX hF dX1_cellsNamed_94 ⟨by simp only [cnF]; rw [if_neg (by omega), if_pos (by omega)], rfl⟩
  by_cases g4_2 : sw4 = 15
  · refine w_tsw (tgt := 95) hX dX1_cellsNamed_4 rfl (by rw [g4_2]; decide) ?_
    refine w_aload_n (i := 0) hX dX1_cellsNamed_95 rfl rfl rfl ?_
    refine w_getR (j := 0) hX cl1 fl_RX1_9_1 rfl (by decide) rfl rfl dX1_cellsNamed_96 rfl ?_
    refine w_aload_n (i := 1) hX dX1_cellsNamed_99 rfl rfl rfl ?_
    refine w_getI (j := 1) hX cl2 fl_RX1_48_2 (K0_ins (by assumption)) (by decide) rfl dX1_cellsNamed_100 rfl ?_
    refine c_V hX ml_RX1_70 cl0 dX1_cellsNamed_103 rfl (m_frameOf D hI (D k 1)) rfl rfl rfl (by decide) (Nat.le_of_ble_eq_true rfl) ?_
    rintro _ _ ⟨rfl, rfl⟩ -
    all_goals try dsimp only [Option.toList, List.cons_append, List.nil_append]
    exact e_i hX hF dX1_cellsNamed_106 ⟨by simp only [cnF]; rw [if_neg (by omega), if_neg (by omega), if_pos (by omega)], rfl⟩
  by_cases g4_3 : sw4 = 17
  · refine w_tsw (tgt := 107) hX dX1_cellsNamed_4 rfl (by rw [g4_3]; decide) ?_
    refine w_aload_n (i := 1) hX dX1_cellsNamed_107 rfl rfl rfl ?_
    refine w_getI (j := 1) hX cl2 fl_RX1_48_2 (K0_ins (by assumption)) (by decide) rfl dX1_cellsNamed_108 rfl ?_
    refine w_iconst hX dX1_cellsNamed_111 rfl (by decide) ?_
    refine w_icmp_gt (tgt := 120) hX dX1_cellsNamed_112 rfl (by decide) (fun h112 => ?_) (fun h112 => ?_)
    · refine w_iconst hX dX1_cellsNamed_120 rfl (by decide) ?_
      exact e_i hX hF dX1_cellsNamed_121 ⟨by simp only [cnF]; rw [if_neg (by omega), if_neg (by omega), if_neg (by omega), if_pos (by omega)]; first | rw [if_pos (by omega)] | rw [if_neg (by omega)], rfl⟩
    · refine w_bipush hX dX1_cellsNamed_115 rfl (by decide) ?_
      refine w_goto (tgt := 121) hX dX1_cellsNamed_117 (by decide) ?_
      exact e_i hX hF dX1_cellsNamed_121 ⟨by simp only [cnF]; rw [if_neg (by omega), if_neg (by omega), if_neg (by omega), if_pos (by omega)]; first | rw [if_pos (by omega)] | rw [if_neg (by omega)], rfl⟩
  refine w_tsw (tgt := 122) hX dX1_cellsNamed_4 rfl (by rw [sw_dflt [1, 2, 5, 6, 12, 13, 3, 4, 15, 17] (by decide) (by simp only [List.mem_cons, List.not_mem_nil, or_false]; omega)]; decide) ?_
  refine w_iconst hX dX1_cellsNamed_122 rfl (by decide) ?_
  exact e_i hX hF dX1_cellsNamed_123 ⟨by simp only [cnF]; rw [if_neg (by omega), if_neg (by omega), if_neg (by omega), if_neg (by omega)], rfl⟩

set_option maxRecDepth 100000 in
set_option maxHeartbeats 4000000 in
theorem m_namesCellOutside (D : Dd) (hI : InC D) (k : Nat) (hk : isIns k) (u : Int) : MC 3 yX1_namesCellOutside cX1_namesCellOutside 5 (some .boolean) [vR 265, vI u, vR k] D (Is (some (vI (b2 (coP D u (D k 0) (D k 1) (D k 2) (D k 3))))) D) := by
  refine MC.mk [vR 265, vI u, vR k, vN, vN] (by decide) (Nat.le_of_ble_eq_true rfl) rfl (fun X Q hX hF hok hol => ?_)
  refine w_aload_n (i := 0) hX dX1_namesCellOutside_0 rfl rfl rfl ?_
  refine w_aload_n (i := 2) hX dX1_namesCellOutside_1 rfl rfl rfl ?_
  refine c_V hX ml_RX1_59 cl1 dX1_namesCellOutside_2 rfl (m_cellsNamed D hI k hk) rfl rfl rfl (by decide) (Nat.le_of_ble_eq_true rfl) ?_
  rintro _ _ ⟨rfl, rfl⟩ -
  refine w_nameI (fun c hc => ?_)
  all_goals try dsimp only [Option.toList, List.cons_append, List.nil_append]
  refine w_istore_n (i := 3) hX dX1_namesCellOutside_5 rfl rfl (by decide) ?_
  dsimp only [st1X, st2X, klX_I, klX_L, klX_R, klX_S, klX_N]
  refine w_iload_n (i := 3) hX dX1_namesCellOutside_6 rfl rfl rfl ?_
  refine w_iconst hX dX1_namesCellOutside_7 rfl (by decide) ?_
  refine w_icmp_ne (tgt := 13) hX dX1_namesCellOutside_8 rfl (by decide) (fun h8 => ?_) (fun h8 => ?_)
  · refine w_aload_n (i := 0) hX dX1_namesCellOutside_13 rfl rfl rfl ?_
    refine w_aload_n (i := 2) hX dX1_namesCellOutside_14 rfl rfl rfl ?_
    refine c_V hX ml_RX1_63 cl1 dX1_namesCellOutside_15 rfl (m_firstCell D k hk) rfl rfl rfl (by decide) (Nat.le_of_ble_eq_true rfl) ?_
    rintro _ _ ⟨rfl, rfl⟩ -
    refine w_nameI (fun f hf => ?_)
    all_goals try dsimp only [Option.toList, List.cons_append, List.nil_append]
    refine w_istore hX dX1_namesCellOutside_18 rfl (by decide) ?_
    dsimp only [st1X, st2X, klX_I, klX_L, klX_R, klX_S, klX_N]
    refine w_iload hX dX1_namesCellOutside_20 rfl rfl ?_
    refine w_if_lt (tgt := 53) hX dX1_namesCellOutside_22 rfl (by decide) (fun h22 => ?_) (fun h22 => ?_)
    · refine w_iconst hX dX1_namesCellOutside_53 rfl (by decide) ?_
      refine w_goto (tgt := 58) hX dX1_namesCellOutside_54 (by decide) ?_
      exact e_z hX hF dX1_namesCellOutside_58 (by decide) ⟨by first | rw [b2_t (by unfold coP; rw [← hc, ← hf]; first | omega | (rw [← hfr]; omega))] | rw [b2_f (by unfold coP; rw [← hc]; first | omega | (rw [← hf]; first | omega | (rw [← hfr]; omega)))], rfl⟩
    · refine w_iload_n (i := 3) hX dX1_namesCellOutside_25 rfl rfl rfl ?_
      refine w_if_le (tgt := 57) hX dX1_namesCellOutside_26 rfl (by decide) (fun h26 => ?_) (fun h26 => ?_)
      · refine w_iconst hX dX1_namesCellOutside_57 rfl (by decide) ?_
        exact e_z hX hF dX1_namesCellOutside_58 (by decide) ⟨by first | rw [b2_t (by unfold coP; rw [← hc, ← hf]; first | omega | (rw [← hfr]; omega))] | rw [b2_f (by unfold coP; rw [← hc]; first | omega | (rw [← hf]; first | omega | (rw [← hfr]; omega)))], rfl⟩
      · refine w_iload hX dX1_namesCellOutside_29 rfl rfl ?_
        refine w_i2l hX dX1_namesCellOutside_31 rfl ?_
        refine w_iload_n (i := 3) hX dX1_namesCellOutside_32 rfl rfl rfl ?_
        refine w_i2l hX dX1_namesCellOutside_33 rfl ?_
        refine w_ok (fun _ ol os => ?_)
        have oc : inI c := ol.I2 (i := 3) rfl
        have of : inI f := ol.I2 (i := 4) rfl
        refine w_ladd hX dX1_namesCellOutside_34 rfl (by omega) ?_
        refine w_aload_n (i := 0) hX dX1_namesCellOutside_35 rfl rfl rfl ?_
        refine w_getR (j := 0) hX cl1 fl_RX1_9_1 rfl (by decide) rfl rfl dX1_namesCellOutside_36 rfl ?_
        refine w_aload_n (i := 0) hX dX1_namesCellOutside_39 rfl rfl rfl ?_
        refine w_iload_n (i := 1) hX dX1_namesCellOutside_40 rfl rfl rfl ?_
        refine w_aload_n (i := 2) hX dX1_namesCellOutside_41 rfl rfl rfl ?_
        refine c_V hX ml_RX1_66 cl1 dX1_namesCellOutside_42 rfl (m_ownerOfCells D k hk u) rfl rfl rfl (by decide) (Nat.le_of_ble_eq_true rfl) ?_
        rintro _ _ ⟨rfl, rfl⟩ -
        all_goals try dsimp only [Option.toList, List.cons_append, List.nil_append]
        refine c_V hX ml_RX1_70 cl0 dX1_namesCellOutside_45 rfl (m_frameOf D hI (owF u (D k 0) (D k 1))) rfl rfl rfl (by decide) (Nat.le_of_ble_eq_true rfl) ?_
        rintro _ _ ⟨rfl, rfl⟩ -
        refine w_nameI (fun fr hfr => ?_)
        all_goals try dsimp only [Option.toList, List.cons_append, List.nil_append]
        refine w_i2l hX dX1_namesCellOutside_48 rfl ?_
        refine w_lcmp hX dX1_namesCellOutside_49 rfl ?_
        refine w_if_le (tgt := 57) hX dX1_namesCellOutside_50 rfl (by decide) (fun h50 => ?_) (fun h50 => ?_)
        · rw [lc_le] at h50
          refine w_iconst hX dX1_namesCellOutside_57 rfl (by decide) ?_
          exact e_z hX hF dX1_namesCellOutside_58 (by decide) ⟨by first | rw [b2_t (by unfold coP; rw [← hc, ← hf]; first | omega | (rw [← hfr]; omega))] | rw [b2_f (by unfold coP; rw [← hc]; first | omega | (rw [← hf]; first | omega | (rw [← hfr]; omega)))], rfl⟩
        · rw [lc_le] at h50
          refine w_iconst hX dX1_namesCellOutside_53 rfl (by decide) ?_
          refine w_goto (tgt := 58) hX dX1_namesCellOutside_54 (by decide) ?_
          exact e_z hX hF dX1_namesCellOutside_58 (by decide) ⟨by first | rw [b2_t (by unfold coP; rw [← hc, ← hf]; first | omega | (rw [← hfr]; omega))] | rw [b2_f (by unfold coP; rw [← hc]; first | omega | (rw [← hf]; first | omega | (rw [← hfr]; omega)))], rfl⟩
  · refine w_iconst hX dX1_namesCellOutside_11 rfl (by decide) ?_
    exact e_z hX hF dX1_namesCellOutside_12 (by decide) ⟨by first | rw [b2_t (by unfold coP; rw [← hc, ← hf]; first | omega | (rw [← hfr]; omega))] | rw [b2_f (by unfold coP; rw [← hc]; first | omega | (rw [← hf]; first | omega | (rw [← hfr]; omega)))], rfl⟩

set_option maxRecDepth 100000 in
set_option maxHeartbeats 4000000 in
theorem m_goesWrong (D : Dd) (hI : InC D) (k : Nat) (hk : isIns k) (u i : Int) : MC 2 yX1_goesWrong cX1_goesWrong 4 (some .boolean) [vR 265, vI u, vI i, vR k] D (Is (some (vI (b2 (gwP D u i (D k 0) (D k 1) (D k 2))))) D) := by
  refine MC.mk [vR 265, vI u, vI i, vR k] (by decide) (Nat.le_of_ble_eq_true rfl) rfl (fun X Q hX hF hok hol => ?_)
  refine w_aload_n (i := 3) hX dX1_goesWrong_0 rfl rfl rfl ?_
  refine w_getI (j := 0) hX cl2 fl_RX1_39_2 (K0_ins (by assumption)) (by decide) rfl dX1_goesWrong_1 rfl ?_
  refine w_nameI (fun sw4 hsw4 => ?_)
  by_cases g4_0 : sw4 = 10 ∨ sw4 = 11
  · refine w_tsw (tgt := 40) hX dX1_goesWrong_4 rfl (by rcases g4_0 with w | w <;> rw [w] <;> decide) ?_
    refine w_aload_n (i := 3) hX dX1_goesWrong_40 rfl rfl rfl ?_
    refine w_getI (j := 1) hX cl2 fl_RX1_48_2 (K0_ins (by assumption)) (by decide) rfl dX1_goesWrong_41 rfl ?_
    refine w_iload_n (i := 2) hX dX1_goesWrong_44 rfl rfl rfl ?_
    refine w_icmp_le (tgt := 63) hX dX1_goesWrong_45 rfl (by decide) (fun h45 => ?_) (fun h45 => ?_)
    · refine w_iconst hX dX1_goesWrong_63 rfl (by decide) ?_
      refine w_goto (tgt := 68) hX dX1_goesWrong_64 (by decide) ?_
      exact e_z hX hF dX1_goesWrong_68 (by decide) ⟨by first | rw [b2_t (by (try unfold gwP); omega)] | rw [b2_f (by (try unfold gwP); omega)], rfl⟩
    · refine w_aload_n (i := 3) hX dX1_goesWrong_48 rfl rfl rfl ?_
      refine w_getI (j := 1) hX cl2 fl_RX1_48_2 (K0_ins (by assumption)) (by decide) rfl dX1_goesWrong_49 rfl ?_
      refine w_aload_n (i := 0) hX dX1_goesWrong_52 rfl rfl rfl ?_
      refine w_getR (j := 0) hX cl1 fl_RX1_9_1 rfl (by decide) rfl rfl dX1_goesWrong_53 rfl ?_
      refine w_iload_n (i := 1) hX dX1_goesWrong_56 rfl rfl rfl ?_
      refine c_V hX ml_RX1_77 cl0 dX1_goesWrong_57 rfl (m_sizeOf D hI u) rfl rfl rfl (by decide) (Nat.le_of_ble_eq_true rfl) ?_
      rintro _ _ ⟨rfl, rfl⟩ -
      all_goals try dsimp only [Option.toList, List.cons_append, List.nil_append]
      refine w_icmp_le (tgt := 67) hX dX1_goesWrong_60 rfl (by decide) (fun h60 => ?_) (fun h60 => ?_)
      · refine w_iconst hX dX1_goesWrong_67 rfl (by decide) ?_
        exact e_z hX hF dX1_goesWrong_68 (by decide) ⟨by first | rw [b2_t (by (try unfold gwP); omega)] | rw [b2_f (by (try unfold gwP); omega)], rfl⟩
      · refine w_iconst hX dX1_goesWrong_63 rfl (by decide) ?_
        refine w_goto (tgt := 68) hX dX1_goesWrong_64 (by decide) ?_
        exact e_z hX hF dX1_goesWrong_68 (by decide) ⟨by first | rw [b2_t (by (try unfold gwP); omega)] | rw [b2_f (by (try unfold gwP); omega)], rfl⟩
  by_cases g4_1 : sw4 = 13
  · refine w_tsw (tgt := 69) hX dX1_goesWrong_4 rfl (by rw [g4_1]; decide) ?_
    refine w_aload_n (i := 3) hX dX1_goesWrong_69 rfl rfl rfl ?_
    refine w_getI (j := 2) hX cl2 fl_RX1_51_2 (K0_ins (by assumption)) (by decide) rfl dX1_goesWrong_70 rfl ?_
    refine w_iload_n (i := 2) hX dX1_goesWrong_73 rfl rfl rfl ?_
    refine w_icmp_le (tgt := 92) hX dX1_goesWrong_74 rfl (by decide) (fun h74 => ?_) (fun h74 => ?_)
    · refine w_iconst hX dX1_goesWrong_92 rfl (by decide) ?_
      refine w_goto (tgt := 97) hX dX1_goesWrong_93 (by decide) ?_
      exact e_z hX hF dX1_goesWrong_97 (by decide) ⟨by first | rw [b2_t (by (try unfold gwP); omega)] | rw [b2_f (by (try unfold gwP); omega)], rfl⟩
    · refine w_aload_n (i := 3) hX dX1_goesWrong_77 rfl rfl rfl ?_
      refine w_getI (j := 2) hX cl2 fl_RX1_51_2 (K0_ins (by assumption)) (by decide) rfl dX1_goesWrong_78 rfl ?_
      refine w_aload_n (i := 0) hX dX1_goesWrong_81 rfl rfl rfl ?_
      refine w_getR (j := 0) hX cl1 fl_RX1_9_1 rfl (by decide) rfl rfl dX1_goesWrong_82 rfl ?_
      refine w_iload_n (i := 1) hX dX1_goesWrong_85 rfl rfl rfl ?_
      refine c_V hX ml_RX1_77 cl0 dX1_goesWrong_86 rfl (m_sizeOf D hI u) rfl rfl rfl (by decide) (Nat.le_of_ble_eq_true rfl) ?_
      rintro _ _ ⟨rfl, rfl⟩ -
      all_goals try dsimp only [Option.toList, List.cons_append, List.nil_append]
      refine w_icmp_le (tgt := 96) hX dX1_goesWrong_89 rfl (by decide) (fun h89 => ?_) (fun h89 => ?_)
      · refine w_iconst hX dX1_goesWrong_96 rfl (by decide) ?_
        exact e_z hX hF dX1_goesWrong_97 (by decide) ⟨by first | rw [b2_t (by (try unfold gwP); omega)] | rw [b2_f (by (try unfold gwP); omega)], rfl⟩
      · refine w_iconst hX dX1_goesWrong_92 rfl (by decide) ?_
        refine w_goto (tgt := 97) hX dX1_goesWrong_93 (by decide) ?_
        exact e_z hX hF dX1_goesWrong_97 (by decide) ⟨by first | rw [b2_t (by (try unfold gwP); omega)] | rw [b2_f (by (try unfold gwP); omega)], rfl⟩
  by_cases g4_2 : sw4 = 14
  · refine w_tsw (tgt := 98) hX dX1_goesWrong_4 rfl (by rw [g4_2]; decide) ?_
    refine w_aload_n (i := 3) hX dX1_goesWrong_98 rfl rfl rfl ?_
    refine w_getI (j := 1) hX cl2 fl_RX1_48_2 (K0_ins (by assumption)) (by decide) rfl dX1_goesWrong_99 rfl ?_
    refine w_if_lt (tgt := 113) hX dX1_goesWrong_102 rfl (by decide) (fun h102 => ?_) (fun h102 => ?_)
    · refine w_iconst hX dX1_goesWrong_113 rfl (by decide) ?_
      refine w_goto (tgt := 118) hX dX1_goesWrong_114 (by decide) ?_
      exact e_z hX hF dX1_goesWrong_118 (by decide) ⟨by first | rw [b2_t (by (try unfold gwP); omega)] | rw [b2_f (by (try unfold gwP); omega)], rfl⟩
    · refine w_aload_n (i := 3) hX dX1_goesWrong_105 rfl rfl rfl ?_
      refine w_getI (j := 1) hX cl2 fl_RX1_48_2 (K0_ins (by assumption)) (by decide) rfl dX1_goesWrong_106 rfl ?_
      refine w_iload_n (i := 2) hX dX1_goesWrong_109 rfl rfl rfl ?_
      refine w_icmp_lt (tgt := 117) hX dX1_goesWrong_110 rfl (by decide) (fun h110 => ?_) (fun h110 => ?_)
      · refine w_iconst hX dX1_goesWrong_117 rfl (by decide) ?_
        exact e_z hX hF dX1_goesWrong_118 (by decide) ⟨by first | rw [b2_t (by (try unfold gwP); omega)] | rw [b2_f (by (try unfold gwP); omega)], rfl⟩
      · refine w_iconst hX dX1_goesWrong_113 rfl (by decide) ?_
        refine w_goto (tgt := 118) hX dX1_goesWrong_114 (by decide) ?_
        exact e_z hX hF dX1_goesWrong_118 (by decide) ⟨by first | rw [b2_t (by (try unfold gwP); omega)] | rw [b2_f (by (try unfold gwP); omega)], rfl⟩
  refine w_tsw (tgt := 119) hX dX1_goesWrong_4 rfl (by rw [sw_dflt [10, 11, 13, 14] (by decide) (by simp only [List.mem_cons, List.not_mem_nil, or_false]; omega)]; decide) ?_
  refine w_iconst hX dX1_goesWrong_119 rfl (by decide) ?_
  exact e_z hX hF dX1_goesWrong_120 (by decide) ⟨by first | rw [b2_t (by (try unfold gwP); omega)] | rw [b2_f (by (try unfold gwP); omega)], rfl⟩
