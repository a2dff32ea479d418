/-! The walks: the same step -/
theorem bt_1 (v : BitVec 64) (n : Nat) (h : n < 64) : (v >>> n) &&& 1#64 = (v.sshiftRight n) &&& 1#64 := by
  apply BitVec.eq_of_getLsbD_eq
  intro i hi
  rw [BitVec.getLsbD_and, BitVec.getLsbD_and, BitVec.getLsbD_ushiftRight, BitVec.getLsbD_sshiftRight]
  by_cases e : i = 0
  · subst e
    simp
    intro w
    omega
  · have : (1#64).getLsbD i = false := by
      rw [BitVec.getLsbD_one]; simp [e]
    rw [this, Bool.and_false, Bool.and_false]
theorem bt_2 : ∀ n : Fin 62, ((Int32.ofInt (n.val : Int)).toInt64.toUInt64 &&& Int64.toUInt64 63) = UInt64.ofNat n.val ∧ ((Int32.ofInt (n.val : Int)).toInt64 &&& 63) = Int64.ofNat n.val ∧ ((UInt64.ofNat n.val).toBitVec % 64).toNat = n.val ∧ ((Int64.ofNat n.val).toBitVec.smod 64).toNat = n.val := by decide +kernel
theorem ch_eq {b c : Int} (hc : 0 ≤ c) : chP b c ↔ chM b c := by
  have hn : 0 ≤ c % 62 ∧ c % 62 < 62 := by omega
  have e := bt_2 ⟨(c % 62).toNat, by omega⟩
  have en : (((c % 62).toNat : Nat) : Int) = c % 62 := by omega
  dsimp only at e
  rw [en] at e
  obtain ⟨e1, e2, e3, e4⟩ := e
  unfold chP chM
  rw [Int64.ofInt_toInt, Int64.ofInt_toInt, e1, e2]
  have key : ((Int64.ofInt b).toUInt64 >>> UInt64.ofNat (c % 62).toNat).toInt64 &&& Int64.ofInt 1 = (Int64.ofInt b >>> Int64.ofNat (c % 62).toNat) &&& Int64.ofInt 1 := by
    apply Int64.toBitVec_inj.1
    rw [Int64.toBitVec_and, Int64.toBitVec_and, Int64.toBitVec_shiftRight]
    have h1 : ((Int64.ofInt b).toUInt64 >>> UInt64.ofNat (c % 62).toNat).toInt64.toBitVec = (Int64.ofInt b).toBitVec >>> (c % 62).toNat := by
      show ((Int64.ofInt b).toUInt64 >>> UInt64.ofNat (c % 62).toNat).toBitVec = _
      rw [UInt64.toBitVec_shiftRight]
      show (Int64.ofInt b).toBitVec >>> ((UInt64.ofNat (c % 62).toNat).toBitVec % 64).toNat = _
      rw [e3]
    have h2 : (Int64.ofInt b).toBitVec.sshiftRight' ((Int64.ofNat (c % 62).toNat).toBitVec.smod 64) = (Int64.ofInt b).toBitVec.sshiftRight (c % 62).toNat := by
      show (Int64.ofInt b).toBitVec.sshiftRight ((Int64.ofNat (c % 62).toNat).toBitVec.smod 64).toNat = _
      rw [e4]
    rw [h1, h2]
    exact bt_1 _ _ (by omega)
  rw [key]
theorem upD_o {D : Dd} {k j a b : Nat} {x : Int} (h : ¬ (a = k ∧ b = j)) : upD D k j x a b = D a b := by
  rw [upD_rd]
  by_cases e : a = k
  · rw [if_pos e, if_neg (fun w => h ⟨e, w⟩)]
  · rw [if_neg e]
theorem row_sm {D D2 : Dd} (h : smC D D2) (u i : Int) : rowF D2 u i = rowF D u i := by
  unfold rowF
  rw [h 1 7 (by decide), h 5 _ (by decide), h 4 _ (by decide)]
theorem sim_step {D S T : Dd} {lev f : Int} (b : Int) (hW : WKS D) (h : SamW D S lev f T) (hf : 0 ≤ f) (hp : T 295 lev.toNat < szF D (T 293 lev.toNat)) :
    ((D (atF D (T 293 lev.toNat) (T 295 lev.toNat)) 0) ≠ 18 ∧ SamW D (tsD S (atF S (S 275 5) (S 275 7)) b) (mstep b lev f T).1 (mstep b lev f T).2.1 (mstep b lev f T).2.2 ∧ (f ≤ (mstep b lev f T).2.1 ∧ (mstep b lev f T).2.1 ≤ f + 1)) ∨
    ((D (atF D (T 293 lev.toNat) (T 295 lev.toNat)) 0) = 18 ∧ tsD S (atF S (S 275 5) (S 275 7)) b = upD S 275 7 (S 275 6) ∧ mstep b lev f T = (lev - 1, f, upD T 295 lev.toNat (T 295 lev.toNat + 1))) := by
  have h0 := h
  obtain ⟨h1, h2, h3, ⟨a1, a2, a3, a4, a5, a6⟩, h5, h6⟩ := h
  have hu0 := h5.1 lev.toNat (by omega)
  have hp0 := h5.2.2.1 lev.toNat (by omega)
  have hI16 := hW.1.1
  generalize eu : T 293 lev.toNat = u at *
  generalize ep : T 295 lev.toNat = p at *
  have hu : 0 ≤ u ∧ u < D 1 7 := by omega
  have hpp : 0 ≤ p ∧ p < szF D u := ⟨hp0.1, hp⟩
  have hG := hW.G hu
  have hg := ok_go (E := T) (hW.un hu).2.1 hpp.1 hpp.2
  have hc := cd_at hW.1 h2 hu hpp
  have hz := sz_256 hW.1 u
  have k0 : S (atF S (S 275 5) (S 275 7)) 0 = (D (atF D u p) 0) := by rw [a4, a5]; exact f_sm h1 hW.1 u p 0
  have k1 : S (atF S (S 275 5) (S 275 7)) 1 = (D (atF D u p) 1) := by rw [a4, a5]; exact f_sm h1 hW.1 u p 1
  have k2 : S (atF S (S 275 5) (S 275 7)) 2 = (D (atF D u p) 2) := by rw [a4, a5]; exact f_sm h1 hW.1 u p 2
  generalize atF S (S 275 5) (S 275 7) = kk at *
  -- a step that only moves
  have MV : ∀ (S2 T2 : Dd) (f2 x : Int), (0 ≤ x ∧ x ≤ szF D u) → (∀ k j, ¬ (k = 275 ∧ (j = 7 ∨ j = 8)) → S2 k j = S k j) → S2 275 7 = x → S2 275 8 = f2 → (∀ k j, ¬ (k = 295 ∧ j = lev.toNat) → T2 k j = T k j) → T2 295 lev.toNat = x → (∀ k, 0 ≤ k → k < szF D u → (D (atF D u k) 0) = 13 → k ≤ x → x < (D (atF D u k) 2) → k ≤ p ∧ p < (D (atF D u k) 2)) → SamW D S2 lev f2 T2 := by
    intro S2 T2 f2 x hx hs hs7 hs8 ht ht5 hm
    refine sam_stp h0 (by rw [eu]; exact hx) (fun k j _ w => hs k j w) hs7 hs8 (fun k j _ w => ht k j w) ht5 ?_
    exact cnt_mv h3 h6 (fun j => hs _ _ (fun w => absurd w.1 (by decide))) ht ht5 (by rw [eu, ep]; exact hm)
  -- a step that sets a counter
  have ST : ∀ (S2 T2 : Dd) (x q y : Int), (0 ≤ x ∧ x ≤ szF D u) → (0 ≤ q ∧ q < szF D u) → (D (atF D u q) 0) = 13 → 0 ≤ y → (∀ k j, k ≠ 276 → ¬ (k = 275 ∧ j = 7) → S2 k j = S k j) → S2 275 7 = x → (∀ j, S2 276 j = if j = (rowF D u (q - 1)).toNat then y else S 276 j) → (∀ k j, k ≠ 292 → ¬ (k = 295 ∧ j = lev.toNat) → T2 k j = T k j) → T2 295 lev.toNat = x → (∀ j, T2 292 j = if j = (T 294 lev.toNat + (D (atF D u q) 1)).toNat then y else T 292 j) → (∀ k, 0 ≤ k → k < szF D u → (D (atF D u k) 0) = 13 → k ≤ x → x < (D (atF D u k) 2) → k = q ∨ (k ≤ p ∧ p < (D (atF D u k) 2) ∧ (D (atF D u k) 1) ≠ (D (atF D u q) 1))) → SamW D S2 lev f T2 := by
    intro S2 T2 x q y hx hq h13 hy hs hs7 hsc ht ht5 htc hm
    refine sam_stp h0 (by rw [eu]; exact hx) (fun k j w1 w2 => hs k j w1 (by omega)) hs7 (by rw [hs _ _ (by decide) (by omega)]; exact a2) ht ht5 ?_
    exact cnt_st (k0 := q) (x := y) hW h0 (by rw [eu]; exact hq) (by rw [eu]; exact h13) hy (by rw [eu]; exact hsc) ht ht5 (by rw [eu]; exact htc) (by rw [eu, ep]; exact hm)
  have nT : T 283 (T 282 (T 293 lev.toNat).toNat + T 295 lev.toNat).toNat = (D (atF D u p) 0) := by rw [eu, ep]; exact hc.1.symm
  have aT : T 284 (T 282 (T 293 lev.toNat).toNat + T 295 lev.toNat).toNat = (D (atF D u p) 1) := by rw [eu, ep]; exact hc.2.1.symm
  have bT : T 285 (T 282 (T 293 lev.toNat).toNat + T 295 lev.toNat).toNat = (D (atF D u p) 2) := by rw [eu, ep]; exact hc.2.2.1.symm
  by_cases h18 : (D (atF D u p) 0) = 18
  · refine Or.inr ⟨h18, ?_, ?_⟩
    · unfold tsD
      rw [k0, it_f (by omega), it_f (by omega), it_f (by omega), it_f (by omega), it_f (by omega), it_t h18]
    · unfold mstep
      rw [nT, ep, if_neg (by omega), if_pos h18]
  refine Or.inl ⟨h18, ?_⟩
  by_cases h15 : (D (atF D u p) 0) = 15 ∨ (D (atF D u p) 0) = 16
  · have ha := hg.2.2.2.2.2 h15
    have eM : mstep b lev f T = (lev + 1, f, upD (upD (upD (upD T 295 lev.toNat (p + 1)) 293 (lev + 1).toNat ((D (atF D u p) 1))) 294 (lev + 1).toNat (if (D (atF D u p) 0) = 15 then wrI (T 294 lev.toNat + (D (atF D u p) 2)) else T 281 ((D (atF D u p) 1)).toNat)) 295 (lev + 1).toNat 0) := by
      unfold mstep
      rw [nT, aT, bT, ep, if_pos h15]
    have eS : tsD S kk b = wgD (upD (upD (upD S 277 lev.toNat u) 278 lev.toNat (p + 1)) 275 4 (lev + 1)) ((D (atF D u p) 1)) 0 := by
      unfold tsD
      rw [k0, k1, it_f (by omega), it_f (by omega), it_f (by omega), it_f (by omega), it_t h15]
      unfold wiD
      rw [a1, a4, a5, it_t (by omega)]
    rw [eM, eS]
    dsimp only
    refine ⟨?_, by omega⟩
    have hpl := (cd_pl h2 (w := (D (atF D u p) 1)) (by omega)).1
    refine sam_push (u := u) (p := p) (a := (D (atF D u p) 1)) hW h0 eu ep hp h15 rfl ?_ ?_ ?_ ?_ ?_ ?_ ?_ ?_ ?_ ?_ ?_ ?_ ?_
    · intro k j w1 w2
      unfold wgD
      rw [upD_k w1, upD_k w1, upD_k w1, upD_k w1, upD_o (by omega), upD_o (by omega)]
    · unfold wgD
      rw [upD_k (by decide), upD_k (by decide), upD_k (by decide), upD_k (by decide), upD_k (by decide), upD_eq]
    · unfold wgD
      rw [upD_k (by decide), upD_k (by decide), upD_k (by decide), upD_k (by decide), upD_eq]
    · unfold wgD
      rw [upD_j (by decide), upD_j (by decide), upD_j (by decide), upD_eq]
    · unfold wgD
      rw [upD_j (by decide), upD_j (by decide), upD_j (by decide), upD_j (by decide), upD_k (by decide), upD_k (by decide)]; exact a2
    · unfold wgD
      rw [upD_j (by decide), upD_j (by decide), upD_eq]
    · unfold wgD
      rw [upD_j (by decide), upD_eq, sz_sm (((h1.up (by decide)).up (by decide)).up (by decide))]
    · unfold wgD
      rw [upD_eq]
    · intro k j w1 w2
      rw [upD_o (by omega), upD_o (by omega), upD_o (by omega), upD_o (by omega)]
    · rw [upD_o (by omega), upD_o (by omega), upD_o (by omega), upD_eq]
    · rw [upD_o (by omega), upD_o (by omega), upD_eq]
    · rw [upD_o (by omega), upD_eq, hpl]
    · rw [upD_eq]
  by_cases h11 : (D (atF D u p) 0) = 11
  · have hch := ch_eq (b := b) hf
    have ha := hg.1 (Or.inr h11)
    have ei : itP (chM b f) ((D (atF D u p) 1)) (p + 1) = itP (chP b f) ((D (atF D u p) 1)) (p + 1) := it_cg hch.symm (fun _ => rfl)
    have eM : mstep b lev f T = (lev, f + 1, upD (upD T 295 lev.toNat (p + 1)) 295 lev.toNat (itP (chM b f) ((D (atF D u p) 1)) (p + 1))) := by
      unfold mstep
      rw [nT, aT, ep, if_neg h15, if_neg h18, if_pos h11]
    have eS : tsD S kk b = upD (upD S 275 8 (f + 1)) 275 7 (itP (chP b f) ((D (atF D u p) 1)) (p + 1)) := by
      unfold tsD
      rw [k0, k1, it_f (by omega), it_t h11, a2, a5]
    rw [eM, eS, ei]
    dsimp only
    refine ⟨MV _ _ _ (itP (chP b f) ((D (atF D u p) 1)) (p + 1)) ?_ (fun k j w => ?_) ?_ ?_ (fun k j w => ?_) ?_ ?_, by omega⟩
    · by_cases c : chP b f
      · rw [it_t c]; omega
      · rw [it_f c]; omega
    · rw [upD_o (by omega), upD_o (by omega)]
    · rw [upD_eq]
    · rw [upD_j (by decide), upD_eq]
    · rw [upD_o (by omega), upD_o (by omega)]
    · rw [upD_eq]
    · by_cases c : chP b f
      · rw [it_t c]; exact mv_j hG hpp (Or.inr h11)
      · rw [it_f c]; exact mv_1 hG hpp (by omega)
  have eM : mstep b lev f T = (lev, f, goM (upD T 295 lev.toNat (p + 1)) (T 282 (T 293 lev.toNat).toNat + T 295 lev.toNat) lev) := by
    unfold mstep
    rw [nT, if_neg h15, if_neg h18, if_neg h11, ep]
  rw [eM]
  refine ⟨?_, by show f ≤ f ∧ f ≤ f + 1; omega⟩
  show SamW D _ lev f (goM (upD T 295 lev.toNat (p + 1)) (T 282 (T 293 lev.toNat).toNat + T 295 lev.toNat) lev)
  unfold goM
  rw [upD_k (by decide), upD_k (by decide), upD_k (by decide), upD_k (by decide), upD_k (by decide), nT, aT, bT]
  by_cases h10 : (D (atF D u p) 0) = 10 ∨ (D (atF D u p) 0) = 14
  · have ha : 0 ≤ (D (atF D u p) 1) ∧ (D (atF D u p) 1) ≤ szF D u := by
      rcases h10 with q | q
      · have := hg.1 (Or.inl q); omega
      · have := hg.2.2.1 q; omega
    have eS : tsD S kk b = upD S 275 7 ((D (atF D u p) 1)) := by
      unfold tsD
      rw [k0, k1, it_t h10]
    rw [eS, if_pos h10]
    refine MV _ _ _ ((D (atF D u p) 1)) ha (fun k j w => ?_) ?_ ?_ (fun k j w => ?_) ?_ ?_
    · rw [upD_o (by omega)]
    · rw [upD_eq]
    · rw [upD_j (by decide)]; exact a2
    · rw [upD_o (by omega), upD_o (by omega)]
    · rw [upD_eq]
    · rcases h10 with q | q
      · exact mv_j hG hpp (Or.inl q)
      · exact mv_b hG hpp q
  by_cases h12 : (D (atF D u p) 0) = 12
  · have nx := hW.nx hu hpp h12
    have hb := hg.2.2.2.1 h12
    have hq : 0 ≤ p + 1 ∧ p + 1 < szF D u := Classical.byContradiction (fun w => by
      have q := nx.1
      rw [at_out w, hW.2.2.1] at q
      omega)
    have hr := row_in hW.1 hu hpp
    have eS : tsD S kk b = upD (upD S 276 (rowF D u p).toNat ((D (atF D u p) 2))) 275 7 (p + 1) := by
      unfold tsD
      rw [k0, k2, it_f h10, it_f h11, it_t h12, a4, a5, row_sm h1]
      unfold scD
      rw [if_pos hr.2]
    rw [eS, if_neg h10, if_pos h12]
    refine ST _ _ (p + 1) (p + 1) ((D (atF D u p) 2)) (by omega) hq nx.1 hb.1 (fun k j w1 w2 => ?_) ?_ (fun j => ?_) (fun k j w1 w2 => ?_) ?_ (fun j => ?_) ?_
    · rw [upD_o (by omega), upD_o (by omega)]
    · rw [upD_eq]
    · rw [upD_k (by decide), upD_rd, if_pos rfl, show p + 1 - 1 = p by omega]
    · rw [upD_o (by omega), upD_o (by omega)]
    · rw [upD_k (by decide), upD_eq]
    · rw [upD_rd, if_pos rfl, nx.2, upD_k (by decide)]
    · intro k x0 x1 x2 x3 x4
      by_cases e : k = p + 1
      · exact Or.inl e
      · have e2 : k ≠ p := fun e2 => by rw [e2] at x2; omega
        refine Or.inr ⟨by omega, by omega, ?_⟩
        rw [nx.2]
        exact hW.wc hu hpp h12 ⟨x0, x1⟩ x2 (by omega) (by omega)
  by_cases h13 : (D (atF D u p) 0) = 13
  · have hl := hG.lp p hpp.1 hpp.2 h13
    have l1 : 1 ≤ p := hl.1
    have l2 : (D (atF D u (p - 1)) 0) = 12 := hl.2.1
    have l3 : p + 2 ≤ (D (atF D u p) 2) := hl.2.2.2.1
    have l4 : (D (atF D u p) 2) ≤ szF D u := hl.2.2.2.2.1
    have hr := row_in hW.1 hu (i := p - 1) (by omega)
    have hcn := h6 lev.toNat (by omega) p ⟨hpp.1, by rw [eu]; exact hp, by rw [eu]; exact h13, by rw [ep]; omega, by rw [eu, ep]; omega⟩
    rw [eu] at hcn
    rw [if_neg h10, if_neg h12, if_pos h13]
    have eS : tsD S kk b = upD (cdD S (rowF D u (p - 1))) 275 7 (itP (cdP S (rowF D u (p - 1))) (p + 1) ((D (atF D u p) 2))) := by
      unfold tsD
      rw [k0, k2, it_f h10, it_f h11, it_f h12, it_t h13, a4, a5, row_sm h1]
    rw [eS, ← hcn.1]
    unfold cdD
    by_cases c : S 276 (rowF D u (p - 1)).toNat = 0
    · have c2 : ¬ cdP S (rowF D u (p - 1)) := fun w => w.2 c
      rw [it_f c2, it_f c2, if_pos c]
      refine MV _ _ _ ((D (atF D u p) 2)) (by omega) (fun k j w => ?_) ?_ ?_ (fun k j w => ?_) ?_ ?_
      · rw [upD_o (by omega)]
      · rw [upD_eq]
      · rw [upD_j (by decide)]; exact a2
      · rw [upD_o (by omega), upD_o (by omega)]
      · rw [upD_eq]
      · exact mv_e hG hpp h13
    · have c2 : cdP S (rowF D u (p - 1)) := ⟨hr.2, c⟩
      rw [it_t c2, it_t c2, if_neg c]
      refine ST _ _ (p + 1) p (S 276 (rowF D u (p - 1)).toNat - 1) (by omega) hpp h13 (by omega) (fun k j w1 w2 => ?_) ?_ (fun j => ?_) (fun k j w1 w2 => ?_) ?_ (fun j => ?_) ?_
      · rw [upD_o (by omega), upD_o (by omega)]
      · rw [upD_eq]
      · rw [upD_k (by decide), upD_rd, if_pos rfl]
      · rw [upD_o (by omega), upD_o (by omega)]
      · rw [upD_k (by decide), upD_eq]
      · rw [upD_rd, if_pos rfl, upD_k (by decide)]
      · intro k x0 x1 x2 x3 x4
        have q := mv_1 hG hpp (by omega) k x0 x1 x2 x3 x4
        by_cases e : k = p
        · exact Or.inl e
        · have e2 : k ≠ p - 1 := fun e2 => by rw [e2] at x2; omega
          refine Or.inr ⟨q.1, q.2, ?_⟩
          rw [← hW.sa hu hpp h13]
          exact hW.wc hu (p := p - 1) (by omega) l2 ⟨x0, x1⟩ x2 (by omega) (by omega)
  · have eS : tsD S kk b = upD S 275 7 (p + 1) := by
      unfold tsD
      rw [k0, it_f h10, it_f h11, it_f h12, it_f h13, it_f h15, it_f h18, a5]
    rw [eS, if_neg h10, if_neg h12, if_neg h13]
    refine MV _ _ _ (p + 1) (by omega) (fun k j w => ?_) ?_ ?_ (fun k j w => ?_) ?_ ?_
    · rw [upD_o (by omega)]
    · rw [upD_eq]
    · rw [upD_j (by decide)]; exact a2
    · rw [upD_o (by omega)]
    · rw [upD_eq]
    · exact mv_1 hG hpp (by omega)
