/-! What prove keeps, class and reference; the reference's prove -/
def kC (D D2 : Dd) : Prop := ∀ k j, k < 264 ∨ 274 < k → D2 k j = D k j
theorem kC.rf (D : Dd) : kC D D := fun _ _ _ => rfl
theorem kC.tr {D D' D2 : Dd} (h : kC D D') (h2 : kC D' D2) : kC D D2 := fun k j a => (h2 k j a).trans (h k j a)
theorem kC.up {D D' : Dd} (h : kC D D') {k j : Nat} {x : Int} (hk : 264 ≤ k ∧ k ≤ 274) : kC D (upD D' k j x) := fun a b ha => by rw [upD_k (by omega)]; exact h a b ha
theorem kC.fd {D D' : Dd} (h : kC D D') {f u i : Int} : kC D (fdD D' f u i) := by
  unfold fdD
  exact ((h.up (by decide)).up (by decide)).up (by decide)
theorem kC.sm {D D2 : Dd} (h : kC D D2) : smC D D2 := fun k j hk => h k j (by omega)
theorem keepL.C {D D2 : Dd} (h : keepL D D2) : kC D D2 := fun k j hk => h k j (by omega) (by omega)
theorem keepS.C {D D2 : Dd} (h : keepS D D2) : kC D D2 := fun k j hk => h k j (by omega) (by omega)
theorem keepW.C {D D2 : Dd} (h : keepW D D2) : kC D D2 := fun k j hk => h k j (by omega) (by omega) (by omega)
theorem keepB.C {D D2 : Dd} (h : keepB D D2) : kC D D2 := h.W.C
theorem kC.so (D : Dd) (u : Int) : kC D (soD D u) := fun k j hk => so_keep D u k j (by omega) (by omega) (by omega)
theorem kC.s3 (D : Dd) (u : Int) : kC D (s3 D u) := (kC.so D u).tr keepS.st.C
theorem kC.lg (D : Dd) (u : Int) : kC D (lgU D u) := keepW.rd.C.tr keepB.lg.C
theorem RFo.C {D D2 : Dd} {u : Int} {r : Option AV} (h : RFo D u r D2) : kC D D2 := by
  rcases h with ⟨_, _, h⟩ | ⟨_, ⟨i, _, _, _, _, _, h⟩ | ⟨_, D1, hk, ⟨i, _, _, _, _, _, h⟩ | ⟨_, ⟨i, _, _, _, _, D', hs, h⟩ | ⟨_, ⟨_, _, h⟩ | ⟨_, _, h⟩⟩⟩⟩⟩
  · rw [← h]; exact (kC.rf D).fd
  · rw [← h]; exact (kC.rf D).fd
  · rw [← h]; exact hk.C.fd
  · rw [← h]; exact ((hk.C.tr (kC.so D1 u)).tr hs.C).fd
  · rw [← h]; exact ((hk.C.tr (kC.s3 D1 u)).tr (kC.lg _ u)).fd
  · rw [← h]; exact ((hk.C.tr (kC.s3 D1 u)).tr (kC.lg _ u)).up (by decide)
theorem wyB.lg3 {D D1 : Dd} {u : Int} (h : SI D) (hk : keepL D D1) (hln : okLn D u) (hlp : okLp D u) : wyB (lgU (s3 D1 u) u) := by
  obtain ⟨hI, hf, h0, hw⟩ := h
  have hz := sz_256 hI u
  have e1 : smC D (s3 D1 u) := hk.sm.tr (s3_sm D1 u)
  have hI3 := in_sm e1 hI
  have hz1 : szF (s3 D1 u) u = szF D u := sz_sm e1 u
  have hw3 : wyB (s3 D1 u) := hw.kp (fun k j a b => (s3_keep D1 u k j (by omega) (by omega) (by omega)).trans (hk k j (by omega) (by omega)))
  have hv3 : VLP (s3 D1 u) u := VLP.of (by rw [e1 _ _ (by decide)]; exact h0) (okLn.sm hln e1 hI) (okLp.sm hlp e1 hI)
  have hw4 := wyB.rd (u := u) (m := (szF (s3 D1 u) u).toNat) hI3 hw3 hv3 (by omega)
  have k4 : keepW (s3 D1 u) (rdW u (szF (s3 D1 u) u).toNat (s3 D1 u)) := keepW.rd
  have hI4 := in_sm k4.sm hI3
  have hb5 : bfB (lgU (s3 D1 u) u) := bfB.lg hI4 hw4.1 hw4.2.1 hw4.2.2 (hv3.1.sm k4.sm hI3) (by omega) (by omega)
  exact ⟨hb5, hw4.2.1.kp keepB.lg, hw4.2.2.kp keepB.lg⟩
theorem wyB.fd {D : Dd} {f u i : Int} (h : wyB D) : wyB (fdD D f u i) := h.kp (fun k j a b => by unfold fdD; rw [upD_k (by omega), upD_k (by omega), upD_k (by omega)])
theorem RFo.si {D D2 : Dd} {u : Int} {r : Option AV} (h : SI D) (hr : RFo D u r D2) (hx : r = some (vI 1)) : SI D2 := by
  have hs : smC D D2 := hr.C.sm
  refine ⟨in_sm hs h.1, h.2.1.sm hs, by rw [hs _ _ (by decide)]; exact h.2.2.1, ?_⟩
  have hw := h.2.2.2
  rcases hr with ⟨_, _, q⟩ | ⟨_, ⟨i, _, _, _, _, _, q⟩ | ⟨hn, D1, hk, ⟨i, _, _, _, _, _, q⟩ | ⟨hp, ⟨i, _, _, _, _, D', hs, q⟩ | ⟨_, ⟨_, _, q⟩ | ⟨_, q, _⟩⟩⟩⟩⟩
  · rw [← q]; exact hw.fd
  · rw [← q]; exact hw.fd
  · rw [← q]; exact (hw.kp (fun k j a b => hk k j (by omega) (by omega))).fd
  · rw [← q]; exact (hw.kp (fun k j a b => ((hs k j (by omega) (by omega)).trans (so_keep D1 u k j (by omega) (by omega) (by omega))).trans (hk k j (by omega) (by omega)))).fd
  · rw [← q]; exact (wyB.lg3 h hk hn hp).fd
  · exact absurd (Option.some.inj (q.trans hx)) (by intro z; injection z with z; exact absurd z (by decide))
/-! the reference -/
def kM (D D2 : Dd) : Prop := (∀ k j, k < 279 ∨ (279 < k ∧ k < 287) ∨ 291 < k → D2 k j = D k j) ∧ (∀ j, j ≠ 10 → j ≠ 11 → j ≠ 18 → j ≠ 19 → D2 279 j = D 279 j)
theorem kM.rf (D : Dd) : kM D D := ⟨fun _ _ _ => rfl, fun _ _ _ _ _ => rfl⟩
theorem kM.tr {D D' D2 : Dd} (h : kM D D') (h2 : kM D' D2) : kM D D2 := ⟨fun k j a => (h2.1 k j a).trans (h.1 k j a), fun j a b c d => (h2.2 j a b c d).trans (h.2 j a b c d)⟩
theorem kM.up {D D' : Dd} (h : kM D D') {k j : Nat} {x : Int} (hk : 287 ≤ k ∧ k ≤ 291) : kM D (upD D' k j x) := ⟨fun a b ha => by rw [upD_k (by omega)]; exact h.1 a b ha, fun b h1 h2 h3 h4 => by rw [upD_k (by omega)]; exact h.2 b h1 h2 h3 h4⟩
theorem kM.wa {D D' : Dd} (h : kM D D') {u i : Int} : kM D (waD D' u i) := by
  unfold waD
  exact ⟨fun a b ha => by rw [upD_k (by omega), upD_k (by omega)]; exact h.1 a b ha, fun b h1 h2 h3 h4 => by rw [upD_j h4, upD_j h3]; exact h.2 b h1 h2 h3 h4⟩
theorem keepR.M {D D2 : Dd} (h : keepR D D2) : kM D D2 := ⟨fun k j a => h k j (by omega) (by omega), fun j _ _ _ _ => h _ _ (by decide) (by decide)⟩
theorem keepY.M {D D2 : Dd} (h : keepY D D2) : kM D D2 := ⟨fun k j a => h k j (by omega) (by omega), fun j _ _ _ _ => h _ _ (by decide) (by decide)⟩
theorem kM.fr (D : Dd) (u : Int) : kM D (frD D u) := ⟨fun k j a => fr_k (by omega), fun j h1 h2 _ _ => fr_j h1 h2⟩
theorem keepY.sy (D : Dd) : keepY D (syD D) := (keepY.dn keepY.rd2).tr (keepY.dn (keepY.st (-1)))
theorem UFo.M {D D2 : Dd} {u : Int} {r : Option AV} (h : UFo D u r D2) : kM D D2 := by
  rcases h with ⟨_, _, h⟩ | ⟨_, ⟨i, _, _, _, _, _, h⟩ | ⟨_, ⟨i, _, _, _, _, _, h⟩ | ⟨_, ⟨i, _, _, _, _, D', hs, h⟩ | ⟨_, ⟨_, _, h⟩ | ⟨_, _, h⟩⟩⟩⟩⟩
  · rw [← h]; exact (kM.rf D).wa
  · rw [← h]; exact (kM.fr D u).wa
  · rw [← h]; exact (kM.fr D u).wa
  · rw [← h]; exact ((kM.fr D u).tr hs.M).wa
  · rw [← h]; exact (((kM.fr D u).tr (keepR.m3 _ u).M).tr (keepY.sy _).M).up (by decide) |>.wa
  · rw [← h]; exact (((kM.fr D u).tr (keepR.m3 _ u).M).tr (keepY.sy _).M).up (by decide)
theorem WS.dnY {l : Int} : ∀ {m : Nat} {j : Int} {D : Dd}, WS D → (m = 0 ∨ (m : Int) ≤ j + 1) → WS (dn (stWy l) m j D)
  | 0, _, _, h, _ => h
  | m + 1, j, D, h, hm => WS.dnY (m := m) (h.st l (by omega)) (by omega)
theorem WS.rd2 {D : Dd} (h : WS D) {k : Int} (hk : 0 ≤ k) : WS (rdM2 k D) := by
  unfold rdM2
  by_cases e : (D 283 (D 279 10 + k).toNat) = 13
  · rw [it_t e]
    unfold rdM
    refine (WS.dnY h (by omega)).rd hk (bh_in _ _)
  · rw [it_f e]; exact h
theorem WS.dnR : ∀ {m : Nat} {j : Int} {D : Dd}, WS D → (m : Int) ≤ j + 1 → WS (dn rdM2 m j D)
  | 0, _, _, h, _ => h
  | m + 1, j, D, h, hm => WS.dnR (m := m) (h.rd2 (by omega)) (by omega)
theorem WS.sy {D : Dd} (h : WS D) : WS (syD D) := by
  have h1 := h.1
  unfold FM at h1
  exact WS.dnY (WS.dnR h (by omega)) (by omega)
theorem sy_in {D : Dd} (h : WS D) : -1 ≤ syF D ∧ syF D ≤ 2000000000 := by
  unfold syF
  split
  · omega
  · exact h.sy.2.1.1 0 (by decide)
def MI (D : Dd) : Prop := MF D ∧ wyR D
theorem MF.kp {D D2 : Dd} (h : MF D) (k : kM D D2) : MF D2 := by
  unfold MF InM
  rw [k.2 1 (by decide) (by decide) (by decide) (by decide), k.2 5 (by decide) (by decide) (by decide) (by decide)]
  simp only [k.1 282 _ (by decide), k.1 281 _ (by decide), k.1 280 _ (by decide)]
  exact h
theorem wyR.k3 {D D2 : Dd} (h : wyR D) (k : ∀ a b, 288 ≤ a → a ≤ 290 → D2 a b = D a b) : wyR D2 := by
  unfold wyR
  simp only [k 288 _ (by decide) (by decide), k 289 _ (by decide) (by decide), k 290 _ (by decide) (by decide)]
  exact h
theorem wyR.wa {D : Dd} {u i : Int} (h : wyR D) : wyR (waD D u i) := h.k3 (fun a b h1 h2 => by unfold waD; rw [upD_k (by omega), upD_k (by omega)])
theorem wyR.up {D : Dd} (h : wyR D) {u : Nat} {x : Int} (hx : -1 ≤ x ∧ x ≤ 2000000000) : wyR (upD D 290 u x) := by
  refine ⟨fun j hj => by rw [upD_k (by decide)]; exact h.1 j hj, fun j hj => by rw [upD_k (by decide)]; exact h.2.1 j hj, fun j hj => ?_⟩
  rw [upD_rd, if_pos rfl]
  split
  · exact hx
  · exact h.2.2 j hj
theorem wyR.fr {D : Dd} (h : wyR D) (u : Int) : wyR (frD D u) := h.k3 (fun a b h1 h2 => fr_k (by omega))
theorem WS.m3 {D : Dd} {u : Int} (hI : MI D) (hu : 0 ≤ u ∧ u < D 279 1) (hn : mkLn (frD D u) u) (hp : mkLp (frD D u)) : WS (m3 (frD D u) u) := by
  have hk := keepR.m3 (frD D u) u
  have h16 := hI.1.1.1
  exact ⟨(FM.fr hI.1.1 hu).kp hk, (hI.2.fr u).kp hk, (WV.of (by omega) hn hp).kp hk⟩
theorem UFo.mi {D D2 : Dd} {u : Int} {r : Option AV} (hI : MI D) (hu : 0 ≤ u ∧ u < D 279 1) (h : UFo D u r D2) : MI D2 := by
  refine ⟨hI.1.kp h.M, ?_⟩
  rcases h with ⟨_, _, q⟩ | ⟨_, ⟨i, _, _, _, _, _, q⟩ | ⟨hn, ⟨i, _, _, _, _, _, q⟩ | ⟨hp, ⟨i, _, _, _, _, D', hs, q⟩ | ⟨_, ⟨_, _, q⟩ | ⟨_, _, q⟩⟩⟩⟩⟩
  · rw [← q]; exact hI.2.wa
  · rw [← q]; exact (hI.2.fr u).wa
  · rw [← q]; exact (hI.2.fr u).wa
  · rw [← q]; exact ((hI.2.fr u).kp hs).wa
  · have hw := WS.m3 hI hu hn hp
    rw [← q]; exact (hw.sy.2.1.up (sy_in hw)).wa
  · have hw := WS.m3 hI hu hn hp
    rw [← q]; exact hw.sy.2.1.up (sy_in hw)
theorem dqM.fr {D : Dd} {u : Int} (h : dqM D u) : dqM (frD D u) u := fun v hv => by rw [fr_k (by decide)]; exact h v hv
theorem UFo.dq {D D2 : Dd} {u : Int} (hI : MI D) (hu : 0 ≤ u ∧ u < D 279 1) (hd : dqM D u) (h : UFo D u (some (vI 0)) D2) : dqM D2 (u + 1) := by
  have h16 := hI.1.1.1
  have hF := FM.fr hI.1.1 hu
  rcases h with ⟨_, q, _⟩ | ⟨_, ⟨i, _, _, z, _, q, _⟩ | ⟨hn, ⟨i, _, _, _, _, q, _⟩ | ⟨hp, ⟨i, _, z, _, q, _⟩ | ⟨h0, ⟨_, q, _⟩ | ⟨_, _, q⟩⟩⟩⟩⟩
  · cases q
  · injection q with q; injection q with q; omega
  · cases q
  · injection q with q; injection q with q; omega
  · cases q
  · intro v hv
    have hb := (stM_B (D := frD D u) (u := u) (by omega) (fun k a b => hn.L hF a b) hd.fr (frD D u 279 11).toNat (by unfold FM at hF; omega) (fun j hj => h0 j (by omega))).2
    rw [← q, upD_k (by decide), keepY.sy _ _ _ (by decide) (by decide)]
    exact hb v (by omega)
theorem UFo.r {D D2 : Dd} {u : Int} {r : Option AV} (h : UFo D u r D2) : ∃ x, r = some (vI x) := by
  rcases h with ⟨_, q, _⟩ | ⟨_, ⟨i, _, _, z, _, q, _⟩ | ⟨hn, ⟨i, _, _, _, _, q, _⟩ | ⟨hp, ⟨i, _, z, _, q, _⟩ | ⟨h0, ⟨_, q, _⟩ | ⟨_, q, _⟩⟩⟩⟩⟩
  · exact ⟨_, q.symm⟩
  · exact ⟨_, q.symm⟩
  · exact ⟨_, q.symm⟩
  · exact ⟨_, q.symm⟩
  · exact ⟨_, q.symm⟩
  · exact ⟨_, q.symm⟩
/-- the first m units are accepted -/
def UR (D0 : Dd) : Nat → Dd → Prop
  | 0, D => D = D0
  | m + 1, D => ∃ D' D1, UR D0 m D' ∧ UFo D' m (some (vI 0)) D1 ∧ D = upD D1 279 17 0
theorem MI.u17 {D : Dd} (h : MI D) {j : Nat} {x : Int} (hj : j ≠ 1 ∧ j ≠ 5) : MI (upD D 279 j x) := by
  refine ⟨?_, h.2.k3 (fun a b h1 h2 => upD_k (by omega))⟩
  unfold MF InM
  rw [upD_j (by omega), upD_j (by omega)]
  simp only [upD_k (show 282 ≠ 279 by decide), upD_k (show 281 ≠ 279 by decide), upD_k (show 280 ≠ 279 by decide)]
  exact h.1
/-- all but what prove may change -/
def kP (D D2 : Dd) : Prop := (∀ k j, k < 279 ∨ (279 < k ∧ k < 287) ∨ 291 < k → D2 k j = D k j) ∧ (∀ j, j < 10 → D2 279 j = D 279 j)
theorem kM.P {D D2 : Dd} (h : kM D D2) : kP D D2 := ⟨h.1, fun j hj => h.2 j (by omega) (by omega) (by omega) (by omega)⟩
theorem kP.rf (D : Dd) : kP D D := ⟨fun _ _ _ => rfl, fun _ _ => rfl⟩
theorem kP.tr {D D' D2 : Dd} (h : kP D D') (h2 : kP D' D2) : kP D D2 := ⟨fun k j a => (h2.1 k j a).trans (h.1 k j a), fun j a => (h2.2 j a).trans (h.2 j a)⟩
theorem kP.up {D D' : Dd} (h : kP D D') {j : Nat} {x : Int} (hj : 10 ≤ j) : kP D (upD D' 279 j x) := ⟨fun a b ha => by rw [upD_k (by omega)]; exact h.1 a b ha, fun b hb => by rw [upD_j (by omega)]; exact h.2 b hb⟩
theorem UR.keep {D0 : Dd} (h : MI D0) (h17 : D0 279 17 = 0) : ∀ {m : Nat} {D : Dd}, (m : Int) ≤ D0 279 1 → UR D0 m D → kP D0 D ∧ MI D ∧ dqM D m ∧ D 279 17 = 0
  | 0, D, _, hr => by have hr : D = D0 := hr; subst hr; exact ⟨kP.rf D, h, fun v hv => by omega, h17⟩
  | m + 1, D, hm, hr => by
    obtain ⟨D', D1, h1, h2, h3⟩ := hr
    have ih := UR.keep h h17 (m := m) (by omega) h1
    have hu : 0 ≤ (m : Int) ∧ (m : Int) < D' 279 1 := ⟨by omega, by rw [ih.1.2 1 (by decide)]; omega⟩
    subst h3
    refine ⟨(ih.1.tr h2.M.P).up (by decide), (UFo.mi ih.2.1 hu h2).u17 (by decide), fun v hv => ?_, upD_eq _ _ _ _⟩
    rw [upD_k (by decide)]
    exact UFo.dq ih.2.1 hu ih.2.2.1 h2 v (by omega)
/-- what prove answers -/
def UPo (D0 : Dd) (r : Option AV) (D2 : Dd) : Prop :=
  (∃ (m : Nat) (D' D1 : Dd) (x : Int), (m : Int) < D0 279 1 ∧ UR D0 m D' ∧ UFo D' m (some (vI x)) D1 ∧ x ≠ 0 ∧ D2 = upD (upD D1 279 17 x) 279 20 0 ∧ r = some (vI x)) ∨
  (∃ D', UR D0 (D0 279 1).toNat D' ∧ D2 = upD D' 279 20 1 ∧ r = some (vI 0))
theorem MI.mf {D : Dd} (h : MI D) : MI (mfD D) := by
  unfold mfD
  exact (((h.u17 (by decide)).u17 (by decide)).u17 (by decide)).u17 (by decide)
theorem mf_17 (D : Dd) : mfD D 279 17 = 0 := by
  unfold mfD
  rw [upD_j (by decide), upD_j (by decide), upD_eq]

set_option maxRecDepth 100000 in
set_option maxHeartbeats 4000000 in
theorem t_prB {X : Cx} {Q : State → Prop} {P : Option AV → Dd → Prop} (hX : GX X yX10_prove cX10_prove 2 (some .int) 7 0 0) (hF : FX X Q P) (D : Dd) (i x : Int) (h : D 279 17 = x) (hne : x ≠ 0) (hyes : P (some (vI x)) (upD D 279 20 0)) : W0 X Q 6 [vR 279, vI i] [] D := by
  refine w_iload_n (i := 1) hX dX10_prove_6 rfl rfl rfl ?_
  refine w_aload_n (i := 0) hX dX10_prove_7 rfl rfl rfl ?_
  refine w_getI (j := 1) hX cl9 fl_RX10_83_9 rfl (by decide) rfl dX10_prove_8 rfl ?_
  refine w_icmp_ge (tgt := 36) hX dX10_prove_11 rfl (by decide) (fun h11 => ?_) (fun h11 => ?_)
  · refine w_aload_n (i := 0) hX dX10_prove_36 rfl rfl rfl ?_
    refine w_aload_n (i := 0) hX dX10_prove_37 rfl rfl rfl ?_
    refine w_getI (j := 17) hX cl9 fl_RX10_74_9 rfl (by decide) rfl dX10_prove_38 rfl ?_
    rw [h]
    refine w_if_ne (tgt := 48) hX dX10_prove_41 rfl (by decide) (fun h41 => ?_) (fun h41 => ?_)
    · refine w_iconst hX dX10_prove_48 rfl (by decide) ?_
      refine w_putI (j := 20) hX cl9 fl_RX10_70_9 rfl (by decide) rfl rfl (Or.inr ⟨rfl, (by decide)⟩) dX10_prove_49 rfl ?_
      refine w_aload_n (i := 0) hX dX10_prove_52 rfl rfl rfl ?_
      refine w_getI (j := 17) hX cl9 fl_RX10_74_9 rfl (by decide) rfl dX10_prove_53 rfl ?_
      rw [upD_j (by decide), h]
      exact e_i hX hF dX10_prove_56 hyes
    · exact absurd hne h41
  · refine w_aload_n (i := 0) hX dX10_prove_14 rfl rfl rfl ?_
    refine w_getI (j := 17) hX cl9 fl_RX10_74_9 rfl (by decide) rfl dX10_prove_15 rfl ?_
    rw [h]
    refine w_if_ne (tgt := 36) hX dX10_prove_18 rfl (by decide) (fun h18 => ?_) (fun h18 => ?_)
    · refine w_aload_n (i := 0) hX dX10_prove_36 rfl rfl rfl ?_
      refine w_aload_n (i := 0) hX dX10_prove_37 rfl rfl rfl ?_
      refine w_getI (j := 17) hX cl9 fl_RX10_74_9 rfl (by decide) rfl dX10_prove_38 rfl ?_
      rw [h]
      refine w_if_ne (tgt := 48) hX dX10_prove_41 rfl (by decide) (fun h41 => ?_) (fun h41 => ?_)
      · refine w_iconst hX dX10_prove_48 rfl (by decide) ?_
        refine w_putI (j := 20) hX cl9 fl_RX10_70_9 rfl (by decide) rfl rfl (Or.inr ⟨rfl, (by decide)⟩) dX10_prove_49 rfl ?_
        refine w_aload_n (i := 0) hX dX10_prove_52 rfl rfl rfl ?_
        refine w_getI (j := 17) hX cl9 fl_RX10_74_9 rfl (by decide) rfl dX10_prove_53 rfl ?_
        rw [upD_j (by decide), h]
        exact e_i hX hF dX10_prove_56 hyes
      · exact absurd hne h41
    · exact absurd hne h18

set_option maxRecDepth 100000 in
set_option maxHeartbeats 4000000 in
theorem t_prA {X : Cx} {Q : State → Prop} {P : Option AV → Dd → Prop} (hX : GX X yX10_prove cX10_prove 2 (some .int) 7 0 0) (hF : FX X Q P) (D : Dd) (i : Int) (h : D 279 17 = 0) (hyes : P (some (vI 0)) (upD D 279 20 1)) : W0 X Q 36 [vR 279, vI i] [] D := by
  refine w_aload_n (i := 0) hX dX10_prove_36 rfl rfl rfl ?_
  refine w_aload_n (i := 0) hX dX10_prove_37 rfl rfl rfl ?_
  refine w_getI (j := 17) hX cl9 fl_RX10_74_9 rfl (by decide) rfl dX10_prove_38 rfl ?_
  rw [h]
  refine w_if_ne (tgt := 48) hX dX10_prove_41 rfl (by decide) (fun h41 => ?_) (fun h41 => ?_)
  · exact absurd rfl h41
  · refine w_iconst hX dX10_prove_44 rfl (by decide) ?_
    refine w_goto (tgt := 49) hX dX10_prove_45 (by decide) ?_
    refine w_putI (j := 20) hX cl9 fl_RX10_70_9 rfl (by decide) rfl rfl (Or.inr ⟨rfl, (by decide)⟩) dX10_prove_49 rfl ?_
    refine w_aload_n (i := 0) hX dX10_prove_52 rfl rfl rfl ?_
    refine w_getI (j := 17) hX cl9 fl_RX10_74_9 rfl (by decide) rfl dX10_prove_53 rfl ?_
    rw [upD_j (by decide), h]
    exact e_i hX hF dX10_prove_56 hyes

set_option maxRecDepth 100000 in
set_option maxHeartbeats 4000000 in
theorem l_prove {X : Cx} {Q : State → Prop} {P : Option AV → Dd → Prop} (hX : GX X yX10_prove cX10_prove 2 (some .int) 7 0 0) (hF : FX X Q P) (D0 : Dd) (hS : MI D0) (h17 : D0 279 17 = 0) (hyes : ∀ r D2, UPo D0 r D2 → P r D2) : ∀ (m : Nat) (i : Nat) (D : Dd), (D0 279 1 - i).toNat < m → (i : Int) ≤ D0 279 1 → UR D0 i D → W0 X Q 6 [vR 279, vI i] [] D := by
  intro m
  induction m with
  | zero =>
    intro i D hm h0 hr
    exact absurd hm (Nat.not_lt_zero _)
  | succ m ih =>
    intro i D hm h0 hr
    have zq_k := UR.keep hS h17 h0 hr
    have zq_7 := hS.1.1.1
    have zq_u : D 279 1 = D0 279 1 := zq_k.1.2 1 (by decide)
    have zq_f := zq_k.2.2.2
    refine w_iload_n (i := 1) hX dX10_prove_6 rfl rfl rfl ?_
    refine w_aload_n (i := 0) hX dX10_prove_7 rfl rfl rfl ?_
    refine w_getI (j := 1) hX cl9 fl_RX10_83_9 rfl (by decide) rfl dX10_prove_8 rfl ?_
    rw [zq_u]
    refine w_icmp_ge (tgt := 36) hX dX10_prove_11 rfl (by decide) (fun h11 => ?_) (fun h11 => ?_)
    · exact t_prA hX hF D i zq_f (hyes _ _ (Or.inr ⟨D, by rw [show (D0 279 1).toNat = i by omega]; exact hr, rfl, rfl⟩))
    · refine w_aload_n (i := 0) hX dX10_prove_14 rfl rfl rfl ?_
      refine w_getI (j := 17) hX cl9 fl_RX10_74_9 rfl (by decide) rfl dX10_prove_15 rfl ?_
      rw [zq_f]
      refine w_if_ne (tgt := 36) hX dX10_prove_18 rfl (by decide) (fun h18 => ?_) (fun h18 => ?_)
      · exact absurd rfl h18
      · refine w_aload_n (i := 0) hX dX10_prove_21 rfl rfl rfl ?_
        refine w_aload_n (i := 0) hX dX10_prove_22 rfl rfl rfl ?_
        refine w_iload_n (i := 1) hX dX10_prove_23 rfl rfl rfl ?_
        refine c_V hX ml_RX10_218 cl9 dX10_prove_24 rfl (r_unitFault D zq_k.2.1.1 i (by omega) zq_k.2.2.1 zq_k.2.1.2) rfl rfl rfl (by decide) (Nat.le_of_ble_eq_true rfl) ?_
        rintro r D1 zq_r -
        obtain ⟨x, rfl⟩ := zq_r.r
        all_goals try dsimp only [Option.toList, List.cons_append, List.nil_append]
        by_cases zq_x : x = 0
        · subst zq_x
          refine w_putI (j := 17) hX cl9 fl_RX10_74_9 rfl (by decide) rfl rfl (Or.inl rfl) dX10_prove_27 rfl ?_
          refine w_iinc hX dX10_prove_30 rfl rfl (by decide) (by omega) ?_
          dsimp only [st1X, st2X, klX_I, klX_L, klX_R, klX_S, klX_N]
          refine w_goto (tgt := 6) hX dX10_prove_33 (by decide) ?_
          first
            | exact ih (i + 1) _ (by omega) (by omega) ⟨D, D1, hr, zq_r, rfl⟩
            | exact t_prB hX hF _ _ x (upD_eq _ _ _ _) zq_x (hyes _ _ (Or.inl ⟨i, D, D1, x, by omega, hr, zq_r, zq_x, rfl, rfl⟩))
        · refine w_putI (j := 17) hX cl9 fl_RX10_74_9 rfl (by decide) rfl rfl (Or.inl rfl) dX10_prove_27 rfl ?_
          refine w_iinc hX dX10_prove_30 rfl rfl (by decide) (by omega) ?_
          dsimp only [st1X, st2X, klX_I, klX_L, klX_R, klX_S, klX_N]
          refine w_goto (tgt := 6) hX dX10_prove_33 (by decide) ?_
          first
            | exact ih (i + 1) _ (by omega) (by omega) ⟨D, D1, hr, zq_r, rfl⟩
            | exact t_prB hX hF _ _ x (upD_eq _ _ _ _) zq_x (hyes _ _ (Or.inl ⟨i, D, D1, x, by omega, hr, zq_r, zq_x, rfl, rfl⟩))

set_option maxRecDepth 100000 in
set_option maxHeartbeats 4000000 in
theorem r_prove (D : Dd) (hS : MI D) : MC 7 yX10_prove cX10_prove 2 (some .int) [vR 279] D (fun r D2 => UPo (mfD D) r D2) := by
  refine MC.mk [vR 279, vN] (by decide) (Nat.le_of_ble_eq_true rfl) rfl (fun X Q hX hF hok hol => ?_)
  have zq_7 := hS.mf.1.1.1
  refine w_aload_n (i := 0) hX dX10_prove_0 rfl rfl rfl ?_
  refine c_V hX ml_RX10_77 cl9 dX10_prove_1 rfl (r_forget D) rfl rfl rfl (by decide) (Nat.le_of_ble_eq_true rfl) ?_
  rintro _ _ ⟨rfl, rfl⟩ -
  all_goals try dsimp only [Option.toList, List.cons_append, List.nil_append]
  refine w_iconst hX dX10_prove_4 rfl (by decide) ?_
  refine w_istore_n (i := 1) hX dX10_prove_5 rfl rfl (by decide) ?_
  dsimp only [st1X, st2X, klX_I, klX_L, klX_R, klX_S, klX_N]
  exact l_prove hX hF (mfD D) hS.mf (mf_17 D) (fun r D2 zq_h => zq_h) _ 0 _ (Nat.lt_succ_self _) (by omega) rfl
