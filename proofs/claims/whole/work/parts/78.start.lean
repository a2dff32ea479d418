/-! THE CLAIM OUT OF ONE WALK OF THE LAW'S BODY. Your part is whole_start (and what it stands on); all else here is the same for every law, but numbers. -/
def R_law : String := "CodeProofLaw"
def lw_P (b : Addr) (xs : List Int32) (args : Array Value) (s : State) : Prop := args = #[.ref b] ∧ s.IntsAt b xs ∧ xs.length ≤ 448 ∧ (Jvm.Cond.and given_1 narrow_1).before args s = true
def lw_Q (_ : Array Value) (s : State) (o : Outcome) (t : State) : Prop := o = .returned (some (.int 1)) ∧ Framed s o t [] 600000 7302250
def lw_Z (below : List Frame) (a : Array Value) (s : State) : State → Prop := fun t => ∃ o, t.status = .running ∧ Ended t below o ∧ lw_Q a s o t
/-- the law's own end, with 1 on the stack, nothing written that was there before, its room as the claim has it -/
theorem lw_ret {p : Program} {l : Launch} {e : Env} {s : State} {m : MethodId} {below : List Frame} {meth : Method} {c : Code} {b : Nat} (hx : p.tables.exec = Jvm.exec) (hb : c.code = code) (hr : meth.sig.returnType = ret) (hlocks : meth.locks = false) {pc : Nat} {H : Heap} {ls : Array Slot} (hdg : decode code pc = .ok (.ireturn, 1)) : W p l e room_1 s m #[Value.ref b] below meth c H [] 600000 7302250 (lw_Z below #[Value.ref b] s) (F0 m pc ls [.int 1]) := by
  intro T hT X
  obtain ⟨fs, hret, hrun, hended, hW, hframe⟩ := X.leave (v := some (.int 1)) (hlocks := hlocks) (fun h => by rw [hr] at h; cases h)
  have hmeth' : T.vm.method? m = some meth := X.method'
  refine ⟨T.setFrames fs, ?_, .returned (some (.int 1)), hrun, hended, rfl, ⟨_, rfl⟩, hW, hframe⟩
  jvm_step X.here [X.here.top, hx, hb, hdg, hmeth', hr, ret, narrow_b1]
  (try refine ⟨rfl, ?_⟩); (try refine ⟨rfl, ?_⟩)
  first | (intro acts; rw [hret _ acts rfl rfl rfl]) | rw [hret _ _ rfl rfl rfl]
  exact Steps.refl _
/-- what holds at the law's entry: the machine, the code, the tables' words (any of lw_tbl by 'hts w (by decide +kernel)'), the script of L ints xs at the cell b, what the Statement gives of the start (any of its parts by flat_of_before) -/
def lw_At (p : Program) (s : State) (m : MethodId) (meth : Method) (c : Code) (b L : Nat) (xs : Nat → Int32) : Prop :=
  p.tables.exec = Jvm.exec ∧ c.code = code ∧ meth.sig.returnType = ret ∧ c.maxLocals = 4 ∧ s.vm.findClass R_law = some m.cls ∧ (∀ w ∈ lw_tbl, w.before #[Value.ref b] s = true) ∧ va_X b L xs s s.heap ∧ b < s.heap.size ∧ meth.locks = false ∧ (Jvm.Cond.and given_1 narrow_1).before #[Value.ref b] s = true
/-! The law from its entry -/
theorem en_cls {s : State} {b : Nat} (hts : ∀ w ∈ gtX, w.before #[Value.ref b] s = true) : ∃ (dC : Nat → ClassId) (dI : Nat → Nat → Nat), ∀ (k : Nat) (q : vw_C), vwCl[k]? = some q → u_Kn s q.1 q.2.1 q.2.2 (dC k) (dI k) := by
  have key : ∀ k : Nat, ∃ (cC : ClassId) (iS : Nat → Nat), ∀ q : vw_C, vwCl[k]? = some q → u_Kn s q.1 q.2.1 q.2.2 cC iS := by
    intro k
    match k with
    | 0 =>
      obtain ⟨cC, iS, h⟩ := u_known (C := RX0) (T := TX0) (N := 9) (n := 9) hts cl0.2.1 (hts _ (nw_RX9_7 (.instantiable RX0 9) (List.mem_cons_of_mem _ List.mem_cons_self)))
      exact ⟨cC, iS, fun q hq => by cases hq; exact h⟩
    | 1 =>
      obtain ⟨cC, iS, h⟩ := u_known (C := RX1) (T := TX1) (N := 1) (n := 1) hts cl1.2.1 (hts _ (nw_RX5_22 (.instantiable RX1 1) (List.mem_cons_of_mem _ List.mem_cons_self)))
      exact ⟨cC, iS, fun q hq => by cases hq; exact h⟩
    | 2 =>
      obtain ⟨cC, iS, h⟩ := u_known (C := RX2) (T := TX2) (N := 4) (n := 4) hts cl2.2.1 (hts _ (nw_RX0_9 (.instantiable RX2 4) (List.mem_cons_of_mem _ List.mem_cons_self)))
      exact ⟨cC, iS, fun q hq => by cases hq; exact h⟩
    | 3 =>
      obtain ⟨cC, iS, h⟩ := u_known (C := RX3) (T := TX3) (N := 3) (n := 3) hts cl3.2.1 (hts _ (nw_RX5_31 (.instantiable RX3 3) (List.mem_cons_of_mem _ List.mem_cons_self)))
      exact ⟨cC, iS, fun q hq => by cases hq; exact h⟩
    | 4 =>
      obtain ⟨cC, iS, h⟩ := u_known (C := RX5) (T := TX5) (N := 9) (n := 9) hts cl4.2.1 (hts _ (nw_RX9_16 (.instantiable RX5 9) (List.mem_cons_of_mem _ List.mem_cons_self)))
      exact ⟨cC, iS, fun q hq => by cases hq; exact h⟩
    | 5 =>
      obtain ⟨cC, iS, h⟩ := u_known (C := RX6) (T := TX6) (N := 4) (n := 4) hts cl5.2.1 (hts _ (nw_RX5_38 (.instantiable RX6 4) (List.mem_cons_of_mem _ List.mem_cons_self)))
      exact ⟨cC, iS, fun q hq => by cases hq; exact h⟩
    | 6 =>
      obtain ⟨cC, iS, h⟩ := u_known (C := RX7) (T := TX7) (N := 9) (n := 9) hts cl6.2.1 (hts _ (nw_RX9_25 (.instantiable RX7 9) (List.mem_cons_of_mem _ List.mem_cons_self)))
      exact ⟨cC, iS, fun q hq => by cases hq; exact h⟩
    | 7 =>
      obtain ⟨cC, iS, h⟩ := u_known (C := RX8) (T := TX8) (N := 4) (n := 4) hts cl7.2.1 (hts _ (nw_RX5_45 (.instantiable RX8 4) (List.mem_cons_of_mem _ List.mem_cons_self)))
      exact ⟨cC, iS, fun q hq => by cases hq; exact h⟩
    | 8 =>
      obtain ⟨cC, iS, h⟩ := u_known (C := RX9) (T := TX9) (N := 3) (n := 3) hts cl8.2.1 (hts _ (nw_RL_7 (.instantiable RX9 3) (List.mem_cons_of_mem _ List.mem_cons_self)))
      exact ⟨cC, iS, fun q hq => by cases hq; exact h⟩
    | 9 =>
      obtain ⟨cC, iS, h⟩ := u_known (C := RX10) (T := TX10) (N := 25) (n := 25) hts cl9.2.1 (hts _ (nw_RL_10 (.instantiable RX10 25) (List.mem_cons_of_mem _ List.mem_cons_self)))
      exact ⟨cC, iS, fun q hq => by cases hq; exact h⟩
    | k + 10 => exact ⟨0, fun _ => 0, fun q hq => by simp [vwCl] at hq⟩
  exact ⟨fun k => (key k).choose, fun k => (key k).choose_spec.choose, fun k q hq => (key k).choose_spec.choose_spec q hq⟩
theorem en_nz {s : State} {b : Nat} (hts : ∀ w ∈ lw_tbl, w.before #[Value.ref b] s = true) : ∀ w ∈ nzX, va_Nw w s := by
  intro w hw
  have h1 : w ∈ lw_tbl := by
    have q : nzX.all (fun w => decide (w ∈ lw_tbl)) = true := by decide +kernel
    exact of_decide_eq_true (List.all_eq_true.mp q w hw)
  have h2 : w.onTables = true := by
    have q : nzX.all (fun w => w.onTables) = true := by decide +kernel
    exact List.all_eq_true.mp q w hw
  exact va_Nw.of h2 (hts w h1)
set_option maxRecDepth 100000 in
theorem en_TAKEN {s : State} {b : Nat} (hgv : (Jvm.Cond.and given_1 narrow_1).before #[Value.ref b] s = true) : ∃ t : Nat, (Term.static "CodeProof" "TAKEN" "[I").eval #[Value.ref b] s none [] s = some (.ref t) ∧ va_T .int t 19 (fun j => .int (Int32.ofInt (tkX j))) (fun q => s.heap.size ≤ q) s s.heap := by
  have hs := flat_of_before _ hgv
  refine va_Tof (N := 19) (by decide) (hs (Cond.arrayOf (.static "CodeProof" "TAKEN" "[I") .int) (by decide +kernel)) (va_eqt (hs (Cond.eq (.length (.static "CodeProof" "TAKEN" "[I")) (.int 19)) (by decide +kernel))) (fun j hj => ?_) (fun a h1 h2 => absurd h2 (Nat.not_le.mpr h1))
  have hj2 : j = 0 ∨ j = 1 ∨ j = 2 ∨ j = 3 ∨ j = 4 ∨ j = 5 ∨ j = 6 ∨ j = 7 ∨ j = 8 ∨ j = 9 ∨ j = 10 ∨ j = 11 ∨ j = 12 ∨ j = 13 ∨ j = 14 ∨ j = 15 ∨ j = 16 ∨ j = 17 ∨ j = 18 := by omega
  rcases hj2 with rfl | rfl | rfl | rfl | rfl | rfl | rfl | rfl | rfl | rfl | rfl | rfl | rfl | rfl | rfl | rfl | rfl | rfl | rfl
  · exact va_eqt (hs (Cond.eq (.elem (.static "CodeProof" "TAKEN" "[I") (.int 0)) (.int 0)) (by decide +kernel))
  · exact va_eqt (hs (Cond.eq (.elem (.static "CodeProof" "TAKEN" "[I") (.int 1)) (.int 0)) (by decide +kernel))
  · exact va_eqt (hs (Cond.eq (.elem (.static "CodeProof" "TAKEN" "[I") (.int 2)) (.int 1)) (by decide +kernel))
  · exact va_eqt (hs (Cond.eq (.elem (.static "CodeProof" "TAKEN" "[I") (.int 3)) (.int 1)) (by decide +kernel))
  · exact va_eqt (hs (Cond.eq (.elem (.static "CodeProof" "TAKEN" "[I") (.int 4)) (.int 2)) (by decide +kernel))
  · exact va_eqt (hs (Cond.eq (.elem (.static "CodeProof" "TAKEN" "[I") (.int 5)) (.int 0)) (by decide +kernel))
  · exact va_eqt (hs (Cond.eq (.elem (.static "CodeProof" "TAKEN" "[I") (.int 6)) (.int 1)) (by decide +kernel))
  · exact va_eqt (hs (Cond.eq (.elem (.static "CodeProof" "TAKEN" "[I") (.int 7)) (.int 2)) (by decide +kernel))
  · exact va_eqt (hs (Cond.eq (.elem (.static "CodeProof" "TAKEN" "[I") (.int 8)) (.int 1)) (by decide +kernel))
  · exact va_eqt (hs (Cond.eq (.elem (.static "CodeProof" "TAKEN" "[I") (.int 9)) (.int 3)) (by decide +kernel))
  · exact va_eqt (hs (Cond.eq (.elem (.static "CodeProof" "TAKEN" "[I") (.int 10)) (.int 0)) (by decide +kernel))
  · exact va_eqt (hs (Cond.eq (.elem (.static "CodeProof" "TAKEN" "[I") (.int 11)) (.int 1)) (by decide +kernel))
  · exact va_eqt (hs (Cond.eq (.elem (.static "CodeProof" "TAKEN" "[I") (.int 12)) (.int 0)) (by decide +kernel))
  · exact va_eqt (hs (Cond.eq (.elem (.static "CodeProof" "TAKEN" "[I") (.int 13)) (.int 0)) (by decide +kernel))
  · exact va_eqt (hs (Cond.eq (.elem (.static "CodeProof" "TAKEN" "[I") (.int 14)) (.int 0)) (by decide +kernel))
  · exact va_eqt (hs (Cond.eq (.elem (.static "CodeProof" "TAKEN" "[I") (.int 15)) (.int 0)) (by decide +kernel))
  · exact va_eqt (hs (Cond.eq (.elem (.static "CodeProof" "TAKEN" "[I") (.int 16)) (.int 0)) (by decide +kernel))
  · exact va_eqt (hs (Cond.eq (.elem (.static "CodeProof" "TAKEN" "[I") (.int 17)) (.int 0)) (by decide +kernel))
  · exact va_eqt (hs (Cond.eq (.elem (.static "CodeProof" "TAKEN" "[I") (.int 18)) (.int 0)) (by decide +kernel))
set_option maxRecDepth 100000 in
theorem en_LEFT {s : State} {b : Nat} (hgv : (Jvm.Cond.and given_1 narrow_1).before #[Value.ref b] s = true) : ∃ t : Nat, (Term.static "CodeProof" "LEFT" "[I").eval #[Value.ref b] s none [] s = some (.ref t) ∧ va_T .int t 19 (fun j => .int (Int32.ofInt (lfX j))) (fun q => s.heap.size ≤ q) s s.heap := by
  have hs := flat_of_before _ hgv
  refine va_Tof (N := 19) (by decide) (hs (Cond.arrayOf (.static "CodeProof" "LEFT" "[I") .int) (by decide +kernel)) (va_eqt (hs (Cond.eq (.length (.static "CodeProof" "LEFT" "[I")) (.int 19)) (by decide +kernel))) (fun j hj => ?_) (fun a h1 h2 => absurd h2 (Nat.not_le.mpr h1))
  have hj2 : j = 0 ∨ j = 1 ∨ j = 2 ∨ j = 3 ∨ j = 4 ∨ j = 5 ∨ j = 6 ∨ j = 7 ∨ j = 8 ∨ j = 9 ∨ j = 10 ∨ j = 11 ∨ j = 12 ∨ j = 13 ∨ j = 14 ∨ j = 15 ∨ j = 16 ∨ j = 17 ∨ j = 18 := by omega
  rcases hj2 with rfl | rfl | rfl | rfl | rfl | rfl | rfl | rfl | rfl | rfl | rfl | rfl | rfl | rfl | rfl | rfl | rfl | rfl | rfl
  · exact va_eqt (hs (Cond.eq (.elem (.static "CodeProof" "LEFT" "[I") (.int 0)) (.int 1)) (by decide +kernel))
  · exact va_eqt (hs (Cond.eq (.elem (.static "CodeProof" "LEFT" "[I") (.int 1)) (.int 1)) (by decide +kernel))
  · exact va_eqt (hs (Cond.eq (.elem (.static "CodeProof" "LEFT" "[I") (.int 2)) (.int 0)) (by decide +kernel))
  · exact va_eqt (hs (Cond.eq (.elem (.static "CodeProof" "LEFT" "[I") (.int 3)) (.int 1)) (by decide +kernel))
  · exact va_eqt (hs (Cond.eq (.elem (.static "CodeProof" "LEFT" "[I") (.int 4)) (.int 0)) (by decide +kernel))
  · exact va_eqt (hs (Cond.eq (.elem (.static "CodeProof" "LEFT" "[I") (.int 5)) (.int 1)) (by decide +kernel))
  · exact va_eqt (hs (Cond.eq (.elem (.static "CodeProof" "LEFT" "[I") (.int 6)) (.int 0)) (by decide +kernel))
  · exact va_eqt (hs (Cond.eq (.elem (.static "CodeProof" "LEFT" "[I") (.int 7)) (.int 1)) (by decide +kernel))
  · exact va_eqt (hs (Cond.eq (.elem (.static "CodeProof" "LEFT" "[I") (.int 8)) (.int 1)) (by decide +kernel))
  · exact va_eqt (hs (Cond.eq (.elem (.static "CodeProof" "LEFT" "[I") (.int 9)) (.int 1)) (by decide +kernel))
  · exact va_eqt (hs (Cond.eq (.elem (.static "CodeProof" "LEFT" "[I") (.int 10)) (.int 0)) (by decide +kernel))
  · exact va_eqt (hs (Cond.eq (.elem (.static "CodeProof" "LEFT" "[I") (.int 11)) (.int 0)) (by decide +kernel))
  · exact va_eqt (hs (Cond.eq (.elem (.static "CodeProof" "LEFT" "[I") (.int 12)) (.int 0)) (by decide +kernel))
  · exact va_eqt (hs (Cond.eq (.elem (.static "CodeProof" "LEFT" "[I") (.int 13)) (.int 0)) (by decide +kernel))
  · exact va_eqt (hs (Cond.eq (.elem (.static "CodeProof" "LEFT" "[I") (.int 14)) (.int 0)) (by decide +kernel))
  · exact va_eqt (hs (Cond.eq (.elem (.static "CodeProof" "LEFT" "[I") (.int 15)) (.int 0)) (by decide +kernel))
  · exact va_eqt (hs (Cond.eq (.elem (.static "CodeProof" "LEFT" "[I") (.int 16)) (.int 0)) (by decide +kernel))
  · exact va_eqt (hs (Cond.eq (.elem (.static "CodeProof" "LEFT" "[I") (.int 17)) (.int 0)) (by decide +kernel))
  · exact va_eqt (hs (Cond.eq (.elem (.static "CodeProof" "LEFT" "[I") (.int 18)) (.int 0)) (by decide +kernel))
theorem tk_I (j : Nat) : inI (tkX j) := by unfold tkX inI; split <;> omega
theorem lf_I (j : Nat) : inI (lfX j) := by unfold lfX inI; split <;> omega
theorem en_all {p : Program} {s : State} {m : MethodId} {meth : Method} {c : Code} {b L : Nat} {xs : Nat → Int32} (hL : L ≤ 448) (C0 : lw_At p s m meth c b L xs) : ∃ (dC : Nat → ClassId) (dI : Nat → Nat → Nat) (cA : Nat → ClassId) (ro : Nat → Nat), ENX dC dI cA ro (L, fun j => (xs j).toInt) (fun q => s.heap.size ≤ q) s s.heap ∧ ro 2 = b := by
  obtain ⟨hx, hb, hr, hml, hown, hts, hX, hbl, hlocks, hgv⟩ := C0
  have htg : ∀ w ∈ gtX, w.before #[Value.ref b] s = true := fun w hw => hts w (List.mem_filter.mp hw).1
  obtain ⟨dC, dI, hK⟩ := en_cls htg
  obtain ⟨c0, k0, p0, a1, a2, a3⟩ := Cond.arrayClass_spec (htg _ aw_int)
  obtain ⟨c1, k1, p1, b1, b2, b3⟩ := Cond.arrayClass_spec (htg _ aw_long)
  have hao : (Cond.arrayOver (.object RX2)).before #[Value.ref b] s = true := hts _ (by decide +kernel)
  obtain ⟨p2, c2, k2, d1, d2, d3, d4, d5⟩ := Cond.arrayOver_spec hao
  obtain ⟨t0, e0, z0⟩ := en_TAKEN hgv
  obtain ⟨t1, e1, z1⟩ := en_LEFT hgv
  have hA : ∀ a : Nat, a < s.heap.size → ¬ (fun q : Nat => s.heap.size ≤ q) a := fun a h1 h2 => absurd h2 (Nat.not_le.mpr h1)
  refine ⟨dC, dI, fun k => if k = 0 then c0 else if k = 1 then c1 else c2, fun k => if k = 0 then t0 else if k = 1 then t1 else b, ⟨⟨hK, fun k q hq => ?_⟩, en_nz hts, va_AO.of hao, ?_, ?_, fun k hk => ?_, fun k hk => ?_⟩, rfl⟩
  · match k, hq with
    | 0, hq => cases hq; exact ⟨fun n z => ⟨fun k h => (by cases h), k0, a2, p0, a3⟩, a1⟩
    | 1, hq => cases hq; exact ⟨fun n z => ⟨fun k h => (by cases h), k1, b2, p1, b3⟩, b1⟩
    | 2, hq => cases hq; exact ⟨fun n z => ⟨fun k h => (by cases h), k2, d3, p2, d4⟩, k2, p2, d3, d4, d1, d5⟩
    | k + 3, hq => simp at hq
  · exact va_Zref (hts _ (by decide +kernel)) (hts _ (by decide +kernel)) e0 hA
  · exact va_Zref (hts _ (by decide +kernel)) (hts _ (by decide +kernel)) e1 hA
  · have hk2 : k = 0 ∨ k = 1 ∨ k = 2 := by omega
    rcases hk2 with rfl | rfl | rfl
    · exact z0
    · exact z1
    · obtain ⟨scr, h1, h2, h3, h4, h5⟩ := hX
      refine ⟨scr, h1, h2, h3, ?_, ?_, fun j hj => ?_, Nat.not_le.mpr hbl⟩
      · show L ≤ _
        omega
      · rw [h4]; rfl
      · rw [h5 j hj]
        show some (Value.int (xs j)) = some (Value.int (Int32.ofInt (xs j).toInt))
        rw [Int32.ofInt_toInt]
  · have hk2 : k = 0 ∨ k = 1 ∨ k = 2 := by omega
    rcases hk2 with rfl | rfl | rfl
    · exact ⟨by show (19 : Nat) < 2147483648; decide, tk_I⟩
    · exact ⟨by show (19 : Nat) < 2147483648; decide, lf_I⟩
    · refine ⟨by show L < _; omega, fun j => ?_⟩
      show inI (xs j).toInt
      have h1 := Int32.le_toInt (xs j)
      have h2 := Int32.toInt_lt (xs j)
      unfold inI
      omega
theorem sim_0 {D1 D2 : Dd} (h1 : CPD D1) (h2 : MDP (nwD D1 279) D2) : Sim D2 := by
  obtain ⟨a1, a2, a3, a4, a5, a6, a7, a8, a9, a10, a11, a12, a13⟩ := h1
  obtain ⟨b1, b2, b3, b4, b5, b6, b7, b8, b9⟩ := h2
  have q : ∀ a b, a < 279 → D2 a b = D1 a b := fun a b ha => by rw [b1 a b ha, nwD_a (by omega)]
  refine ⟨⟨by rw [q _ _ (by decide), a1, b2], by rw [q _ _ (by decide), a2, b3], fun u hu => ?_, fun r hr => ?_⟩, ⟨⟨?_, ?_, fun u hu => ?_⟩, fun u hu => ?_, ?_, ⟨fun j hj => ?_, fun j hj => ?_, fun j hj => ?_⟩⟩, ⟨⟨⟨?_, ?_, fun u hu => ?_⟩, fun u hu => ?_⟩, ⟨fun j hj => ?_, fun j hj => ?_, fun j hj => ?_⟩⟩, ⟨fun j hj => ?_, fun j hj => ?_⟩, ?_, ?_, fun hu => ?_, ⟨?_, ?_, ?_⟩, ?_, Or.inl ?_⟩
  · rw [q _ _ (by decide), a2] at hu; omega
  · rw [q _ _ (by decide), a3] at hr; omega
  · rw [q _ _ (by decide), a2]; omega
  · rw [q _ _ (by decide), a3]; omega
  · rw [q _ _ (by decide), a2] at hu; omega
  · rw [q _ _ (by decide), a2] at hu; omega
  · rw [q _ _ (by decide)]; exact a4
  · rw [q _ _ (by decide), a9]; omega
  · rw [q _ _ (by decide), a10]; omega
  · rw [q _ _ (by decide), a11]; omega
  · rw [b3]; omega
  · rw [b4]; omega
  · rw [b3] at hu; omega
  · rw [b9 _ _ (by decide) (by decide), b9 _ _ (by decide) (by decide)]; omega
  · rw [b9 _ _ (by decide) (by decide)]; omega
  · rw [b9 _ _ (by decide) (by decide)]; omega
  · rw [b9 _ _ (by decide) (by decide)]; omega
  · rw [q _ _ (by decide), a12]; omega
  · rw [q _ _ (by decide), a13]; omega
  · rw [q _ _ (by decide), a1]; omega
  · rw [q _ _ (by decide), a3, b4]
  · rw [q _ _ (by decide), a2] at hu; omega
  · rw [q _ _ (by decide), a6, b5]
  · rw [q _ _ (by decide), a7, b6]
  · rw [q _ _ (by decide), a8, b7]
  · rw [q _ _ (by decide), a5, b8]
  · rw [q _ _ (by decide)]; exact a5
set_option maxHeartbeats 4000000 in
set_option maxRecDepth 100000 in
/-- THE LAW, from its entry -/
theorem whole_start {p : Program} {e : Env} {s : State} {m : MethodId} {below : List Frame} {meth : Method} {c : Code} (l : Launch) {b L : Nat} {xs : Nat → Int32} (hL : L ≤ 448) (C0 : lw_At p s m meth c b L xs) : W p l e room_1 s m #[Value.ref b] below meth c s.heap [] 0 0 (lw_Z below #[Value.ref b] s) (entryFrame m ([Value.ref b] : List Value).toArray 4) := by
  obtain ⟨dC, dI, cA, ro, hE, hro⟩ := en_all hL C0
  obtain ⟨hx, hb, hr, hml, hown, hts, hXs, hbl, hlocks, hgv⟩ := C0
  have htg : ∀ w ∈ gtX, w.before #[Value.ref b] s = true := fun w hw => hts w (List.mem_filter.mp hw).1
  let X : Cx := (p, l, e, room_1, s, m, #[Value.ref b], below, meth, c, dC, dI, cA, ro, (L, fun j => (xs j).toInt), (fun q => s.heap.size ≤ q), 0, fun _ => 0)
  have hX : GX X ⟨RL, meth.name, "([I)Z"⟩ cL_law 4 (some .boolean) 10 600000 7302250 := ⟨hx, hb, hml, hown, htg, hlocks, fun q h => h, hr, rfl, hE, ⟨rfl, by decide, rfl, rfl⟩⟩
  have hend : ∀ ls D, WW X (lw_Z below #[Value.ref b] s) 296 8792 410 ls [vI 1] 296 K0 R0 D := by
    intro ls D ad H locs LS hR hH hls hst hLH
    refine va_forget (fun q hq => hR.2.2.2.2.2 q hq) ?_
    refine W.widen (k := 600000) (n := 7302250) (by decide) (by decide) ?_
    exact lw_ret hx hb hr hlocks dL_law_410
  have key : WW X (lw_Z below #[Value.ref b] s) 0 0 0 [vS 2, vN, vN, vN] [] 0 K0 (fun _ _ => none) (fun _ _ => 0) := by
    refine v_new (n1 := 1) (kc1 := 1) (ks1 := 3) hX cl8 dv8 nw_RL_7 ⟨by decide, by decide⟩ dL_law_0 rfl rfl rfl rfl rfl ?_
    refine w_dup hX dL_law_3 rfl rfl ?_
    refine w_callI hX (mi_cp (nwR (fun _ _ => none) 0) (nwD (fun _ _ => 0) 0) (fun b => nwR_s)) ml_RL_9 rfl (by decide) (Nat.le_of_ble_eq_true rfl) ⟨by decide, by decide⟩ dL_law_4 rfl rfl ?_
    rintro _ _ _ R1 D1 ⟨rfl, rfl, rfl, c1, c2⟩ -
    dsimp only [Option.toList, List.nil_append]
    refine w_astore_n (i := 1) hX dL_law_7 rfl rfl (by decide) ?_
    dsimp only [st1X, st2X, klX_I, klX_L, klX_R, klX_S, klX_N]
    refine v_new (n1 := 280) (kc1 := 280) (ks1 := 2761) hX cl9 dv9 nw_RL_10 ⟨by decide, by decide⟩ dL_law_8 rfl rfl rfl rfl rfl ?_
    refine w_dup hX dL_law_11 rfl rfl ?_
    refine w_callI hX (mi_model (nwR R1 279) (nwD D1 279) (fun a b ha => by rw [nwR_a (by omega)]; exact c1 a b ha) (fun b => nwR_s)) ml_RL_12 rfl (by decide) (Nat.le_of_ble_eq_true rfl) ⟨by decide, by decide⟩ dL_law_12 rfl rfl ?_
    rintro _ _ _ _ D2 ⟨rfl, rfl, rfl, rfl, c3⟩ -
    dsimp only [Option.toList, List.nil_append]
    refine w_astore_n (i := 2) hX dL_law_15 rfl rfl (by decide) ?_
    dsimp only [st1X, st2X, klX_I, klX_L, klX_R, klX_S, klX_N]
    refine w_iconst hX dL_law_16 rfl (by decide) ?_
    refine w_istore_n (i := 3) hX dL_law_17 rfl rfl (by decide) ?_
    dsimp only [st1X, st2X, klX_I, klX_L, klX_R, klX_S, klX_N]
    exact l_law hX (L := L) (xs := fun j => (xs j).toInt) rfl hL hend (L + 1) 0 D2 (by omega) (by decide) (by omega) (sim_0 c2 c3)
  have hl := lv_entry ([.ref b]) (n := 4) (Nat.le_of_ble_eq_true rfl)
  rw [lg_entry_eq]
  refine key (fun _ => 0) s.heap [] _ ⟨⟨Nat.le_refl _, fun _ _ => rfl⟩, fun k q h => by simp [wlX] at h, ⟨fun i j p q h => by simp [wlX] at h, fun k q h => by simp [wlX] at h⟩, va_S.rf⟩ (fun k hk => absurd hk (Nat.not_lt_zero _)) ?_ (fun v hv => by cases hv) ?_
  · intro v hv
    simp only [List.mem_cons, List.not_mem_nil, or_false] at hv
    rcases hv with rfl | rfl | rfl | rfl <;> exact trivial
  · rw [hml]
    refine ⟨hl.1, hl.2.1, fun i v hi hn => ?_⟩
    match i, hi with
    | 0, hi =>
      injection hi with hi
      subst hi
      show _ = some (Slot.val (.ref (ro 2)))
      rw [hro]
      exact hl.2.2 _ List.mem_cons_self
    | 1, hi => injection hi with hi; exact absurd hi.symm hn
    | 2, hi => injection hi with hi; exact absurd hi.symm hn
    | 3, hi => injection hi with hi; exact absurd hi.symm hn
    | i + 4, hi => simp at hi
