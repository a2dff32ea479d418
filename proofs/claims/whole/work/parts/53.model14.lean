/-! The reference: go -/
def wrI (x : Int) : Int := (Int32.ofInt x).toInt
theorem wr_id {x : Int} (h : inI x) : wrI x = x := tI h
theorem wr_in (x : Int) : inI (wrI x) := by
  have h1 := Int32.le_toInt (Int32.ofInt x)
  have h2 := Int32.toInt_lt (Int32.ofInt x)
  unfold wrI inI
  omega
section WADD
variable {X : Cx} {Q : State → Prop} {pc q kc ks : Nat} {ls st : List AV} {n : Nat} {K : Kd} {Rf : Rd} {D : Dd} {y : MethodName} {cc : ByteArray} {nL : Nat} {ret : Option FieldType} {dd rc rs : Nat}
theorem w_iaddW {x z : Int} (hX : GX X y cc nL ret dd rc rs) (hd : decode cc pc = .ok (.iadd, 1)) (hq : pc + 1 = q) (kk : WW X Q kc ks q ls (vI (wrI (x + z)) :: st) n K Rf D) : WW X Q kc ks pc ls (vI z :: vI x :: st) n K Rf D := by
  subst hq
  obtain ⟨p, l, e, R, s, m, args, below, meth, c, dC, dI, cA, ro, scr, A, n0, ad0⟩ := X
  obtain ⟨hx, hb, hml, hown, hts, hlk, hA, hr, hnm, hE, hrm⟩ := hX
  intro ad H locs LS hR hH hls hst hL
  refine lv_iadd hx hb hd ?_
  have k := kk ad H locs LS hR hH hls (okS.cons (v := vI (wrI (x + z))) (wr_in _) hst.tail.tail) hL
  have e1 : val ad ro (vI (wrI (x + z))) = .int (Int32.ofInt x + Int32.ofInt z) := by
    show Value.int (Int32.ofInt (Int32.ofInt (x + z)).toInt) = _
    rw [Int32.ofInt_toInt, adI]
  rw [List.map_cons, e1] at k
  exact k
end WADD
def goM (D : Dd) (i l : Int) : Dd :=
  if D 283 i.toNat = 10 ∨ D 283 i.toNat = 14 then upD D 295 l.toNat (D 284 i.toNat)
  else if D 283 i.toNat = 12 then upD D 292 (D 294 l.toNat + D 284 i.toNat).toNat (D 285 i.toNat)
  else if D 283 i.toNat = 13 then (if D 292 (D 294 l.toNat + D 284 i.toNat).toNat = 0 then upD D 295 l.toNat (D 285 i.toNat) else upD D 292 (D 294 l.toNat + D 284 i.toNat).toNat (D 292 (D 294 l.toNat + D 284 i.toNat).toNat - 1))
  else D

set_option maxRecDepth 100000 in
set_option maxHeartbeats 4000000 in
theorem r_go (D : Dd) (i l : Int) (hi : 0 ≤ i ∧ i < 256) (hl : 0 ≤ l ∧ l < 20) (hc : D 283 i.toNat = 12 ∨ D 283 i.toNat = 13 → 0 ≤ D 294 l.toNat + D 284 i.toNat ∧ D 294 l.toNat + D 284 i.toNat < 4096) (hz : D 283 i.toNat = 13 → 0 ≤ D 292 (D 294 l.toNat + D 284 i.toNat).toNat) : MC 1 yX10_go cX10_go 4 none [vR 279, vI i, vI l] D (Is none (goM D i l)) := by
  refine MC.mk [vR 279, vI i, vI l, vN] (by decide) (Nat.le_of_ble_eq_true rfl) rfl (fun X Q hX hF hok hol => ?_)
  refine w_aload_n (i := 0) hX dX10_go_0 rfl rfl rfl ?_
  refine w_getR (j := 23) hX cl9 fl_RX10_60_9 rfl (by decide) rfl rfl dX10_go_1 rfl ?_
  refine w_iload_n (i := 2) hX dX10_go_4 rfl rfl rfl ?_
  refine w_iald hX rfl (by omega) (by omega) dX10_go_5 rfl ?_
  refine w_aload_n (i := 0) hX dX10_go_6 rfl rfl rfl ?_
  refine w_getR (j := 7) hX cl9 fl_RX10_22_9 rfl (by decide) rfl rfl dX10_go_7 rfl ?_
  refine w_iload_n (i := 1) hX dX10_go_10 rfl rfl rfl ?_
  refine w_iald hX rfl (by omega) (by omega) dX10_go_11 rfl ?_
  refine w_iaddW hX dX10_go_12 rfl ?_
  refine w_istore_n (i := 3) hX dX10_go_13 rfl rfl (by decide) ?_
  dsimp only [st1X, st2X, klX_I, klX_L, klX_R, klX_S, klX_N]
  refine w_aload_n (i := 0) hX dX10_go_14 rfl rfl rfl ?_
  refine w_getR (j := 6) hX cl9 fl_RX10_19_9 rfl (by decide) rfl rfl dX10_go_15 rfl ?_
  refine w_iload_n (i := 1) hX dX10_go_18 rfl rfl rfl ?_
  refine w_iald hX rfl (by omega) (by omega) dX10_go_19 rfl ?_
  refine w_nameI (fun sw20 hsw20 => ?_)
  by_cases g20_0 : sw20 = 10 ∨ sw20 = 14
  · refine w_tsw (tgt := 56) hX dX10_go_20 rfl (by rcases g20_0 with w | w <;> rw [w] <;> decide) ?_
    refine w_aload_n (i := 0) hX dX10_go_56 rfl rfl rfl ?_
    refine w_getR (j := 24) hX cl9 fl_RX10_63_9 rfl (by decide) rfl rfl dX10_go_57 rfl ?_
    refine w_iload_n (i := 2) hX dX10_go_60 rfl rfl rfl ?_
    refine w_aload_n (i := 0) hX dX10_go_61 rfl rfl rfl ?_
    refine w_getR (j := 7) hX cl9 fl_RX10_22_9 rfl (by decide) rfl rfl dX10_go_62 rfl ?_
    refine w_iload_n (i := 1) hX dX10_go_65 rfl rfl rfl ?_
    refine w_iald hX rfl (by omega) (by omega) dX10_go_66 rfl ?_
    refine w_iast hX rfl (by omega) (by omega) dX10_go_67 rfl ?_
    refine w_goto (tgt := 123) hX dX10_go_68 (by decide) ?_
    exact e_v hX hF dX10_go_123 (by first | exact ⟨rfl, by rw [goM, if_pos (by omega)]⟩ | exact ⟨rfl, by rw [goM, if_neg (by omega), if_pos (by omega)]⟩ | exact ⟨rfl, by rw [goM, if_neg (by omega), if_neg (by omega), if_pos (by omega), if_pos (by omega)]⟩ | exact ⟨rfl, by rw [goM, if_neg (by omega), if_neg (by omega), if_pos (by omega), if_neg (by omega)]⟩ | exact ⟨rfl, by rw [goM, if_neg (by omega), if_neg (by omega), if_neg (by omega)]⟩)
  by_cases g20_1 : sw20 = 12
  · refine w_tsw (tgt := 71) hX dX10_go_20 rfl (by rw [g20_1]; decide) ?_
    have zq_h := hc (by omega)
    rw [wr_id (show inI (D 294 l.toNat + D 284 i.toNat) by omega)]
    refine w_aload_n (i := 0) hX dX10_go_71 rfl rfl rfl ?_
    refine w_getR (j := 21) hX cl9 fl_RX10_54_9 rfl (by decide) rfl rfl dX10_go_72 rfl ?_
    refine w_iload_n (i := 3) hX dX10_go_75 rfl rfl rfl ?_
    refine w_aload_n (i := 0) hX dX10_go_76 rfl rfl rfl ?_
    refine w_getR (j := 8) hX cl9 fl_RX10_25_9 rfl (by decide) rfl rfl dX10_go_77 rfl ?_
    refine w_iload_n (i := 1) hX dX10_go_80 rfl rfl rfl ?_
    refine w_iald hX rfl (by omega) (by omega) dX10_go_81 rfl ?_
    refine w_iast hX rfl (by omega) (by omega) dX10_go_82 rfl ?_
    refine w_goto (tgt := 123) hX dX10_go_83 (by decide) ?_
    exact e_v hX hF dX10_go_123 (by first | exact ⟨rfl, by rw [goM, if_pos (by omega)]⟩ | exact ⟨rfl, by rw [goM, if_neg (by omega), if_pos (by omega)]⟩ | exact ⟨rfl, by rw [goM, if_neg (by omega), if_neg (by omega), if_pos (by omega), if_pos (by omega)]⟩ | exact ⟨rfl, by rw [goM, if_neg (by omega), if_neg (by omega), if_pos (by omega), if_neg (by omega)]⟩ | exact ⟨rfl, by rw [goM, if_neg (by omega), if_neg (by omega), if_neg (by omega)]⟩)
  by_cases g20_2 : sw20 = 13
  · refine w_tsw (tgt := 86) hX dX10_go_20 rfl (by rw [g20_2]; decide) ?_
    have zq_h := hc (by omega)
    rw [wr_id (show inI (D 294 l.toNat + D 284 i.toNat) by omega)]
    refine w_aload_n (i := 0) hX dX10_go_86 rfl rfl rfl ?_
    refine w_getR (j := 21) hX cl9 fl_RX10_54_9 rfl (by decide) rfl rfl dX10_go_87 rfl ?_
    refine w_iload_n (i := 3) hX dX10_go_90 rfl rfl rfl ?_
    refine w_iald hX rfl (by omega) (by omega) dX10_go_91 rfl ?_
    refine w_if_ne (tgt := 110) hX dX10_go_92 rfl (by decide) (fun h92 => ?_) (fun h92 => ?_)
    · refine w_aload_n (i := 0) hX dX10_go_110 rfl rfl rfl ?_
      refine w_getR (j := 21) hX cl9 fl_RX10_54_9 rfl (by decide) rfl rfl dX10_go_111 rfl ?_
      refine w_iload_n (i := 3) hX dX10_go_114 rfl rfl rfl ?_
      refine w_dup2 hX dX10_go_115 rfl rfl rfl ?_
      refine w_iald hX rfl (by omega) (by omega) dX10_go_116 rfl ?_
      refine w_iconst hX dX10_go_117 rfl (by decide) ?_
      refine w_isub hX dX10_go_118 rfl (by have zq_z := hz (by omega); have zq_o := (hok 292 (by decide)).1 (by decide) (D 294 l.toNat + D 284 i.toNat).toNat; omega) ?_
      refine w_iast hX rfl (by omega) (by omega) dX10_go_119 rfl ?_
      refine w_goto (tgt := 123) hX dX10_go_120 (by decide) ?_
      exact e_v hX hF dX10_go_123 (by first | exact ⟨rfl, by rw [goM, if_pos (by omega)]⟩ | exact ⟨rfl, by rw [goM, if_neg (by omega), if_pos (by omega)]⟩ | exact ⟨rfl, by rw [goM, if_neg (by omega), if_neg (by omega), if_pos (by omega), if_pos (by omega)]⟩ | exact ⟨rfl, by rw [goM, if_neg (by omega), if_neg (by omega), if_pos (by omega), if_neg (by omega)]⟩ | exact ⟨rfl, by rw [goM, if_neg (by omega), if_neg (by omega), if_neg (by omega)]⟩)
    · refine w_aload_n (i := 0) hX dX10_go_95 rfl rfl rfl ?_
      refine w_getR (j := 24) hX cl9 fl_RX10_63_9 rfl (by decide) rfl rfl dX10_go_96 rfl ?_
      refine w_iload_n (i := 2) hX dX10_go_99 rfl rfl rfl ?_
      refine w_aload_n (i := 0) hX dX10_go_100 rfl rfl rfl ?_
      refine w_getR (j := 8) hX cl9 fl_RX10_25_9 rfl (by decide) rfl rfl dX10_go_101 rfl ?_
      refine w_iload_n (i := 1) hX dX10_go_104 rfl rfl rfl ?_
      refine w_iald hX rfl (by omega) (by omega) dX10_go_105 rfl ?_
      refine w_iast hX rfl (by omega) (by omega) dX10_go_106 rfl ?_
      refine w_goto (tgt := 123) hX dX10_go_107 (by decide) ?_
      exact e_v hX hF dX10_go_123 (by first | exact ⟨rfl, by rw [goM, if_pos (by omega)]⟩ | exact ⟨rfl, by rw [goM, if_neg (by omega), if_pos (by omega)]⟩ | exact ⟨rfl, by rw [goM, if_neg (by omega), if_neg (by omega), if_pos (by omega), if_pos (by omega)]⟩ | exact ⟨rfl, by rw [goM, if_neg (by omega), if_neg (by omega), if_pos (by omega), if_neg (by omega)]⟩ | exact ⟨rfl, by rw [goM, if_neg (by omega), if_neg (by omega), if_neg (by omega)]⟩)
  refine w_tsw (tgt := 123) hX dX10_go_20 rfl (by rw [sw_dflt [10, 14, 12, 13] (by decide) (by simp only [List.mem_cons, List.not_mem_nil, or_false]; omega)]; decide) ?_
  exact e_v hX hF dX10_go_123 (by first | exact ⟨rfl, by rw [goM, if_pos (by omega)]⟩ | exact ⟨rfl, by rw [goM, if_neg (by omega), if_pos (by omega)]⟩ | exact ⟨rfl, by rw [goM, if_neg (by omega), if_neg (by omega), if_pos (by omega), if_pos (by omega)]⟩ | exact ⟨rfl, by rw [goM, if_neg (by omega), if_neg (by omega), if_pos (by omega), if_neg (by omega)]⟩ | exact ⟨rfl, by rw [goM, if_neg (by omega), if_neg (by omega), if_neg (by omega)]⟩)
