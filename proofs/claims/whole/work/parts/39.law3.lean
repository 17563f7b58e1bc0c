/-! THE LAW: its twelve cases -/
theorem mi_sz_12 : ∀ (h : mi_H), (∀ c ∈ h, mi_szc c ≤ 12) → mi_sz h ≤ 12 * h.length
  | [], _ => Nat.le_refl _
  | c :: h, hc => by
    have h1 := hc c (List.mem_cons_self ..)
    have h2 := mi_sz_12 h (fun x hx => hc x (List.mem_cons_of_mem _ hx))
    show mi_szc c + mi_sz h ≤ 12 * (h.length + 1)
    omega
theorem mi_sz_le (B : Nat) : ∀ (h : mi_H), (∀ c ∈ h, mi_szc c ≤ B) → mi_sz h ≤ B * h.length
  | [], _ => Nat.le_refl _
  | c :: h, hc => by
    have h1 := hc c (List.mem_cons_self ..)
    have h2 := mi_sz_le B h (fun x hx => hc x (List.mem_cons_of_mem _ hx))
    show mi_szc c + mi_sz h ≤ B * (h.length + 1)
    rw [Nat.mul_add]
    omega
set_option maxRecDepth 100000 in
theorem cR_sz {Pm : Nat} {S : sT} {h : mi_H} (hI : sI S) (q : cR Pm S h) : h.length ≤ 706 ∧ mi_sz h ≤ 20000 ∧ ∃ fs, h[0]? = some (.inl (3, fs)) := by
  obtain ⟨N, M, stt, q, kO, vO, cO, tO, fm, to⟩ := S
  obtain ⟨hN, hMm, hq, hq2, lk, lv, lc, lt, lf, lo, hki, hli, hz⟩ := hI
  obtain ⟨pu, tc, dv, tk, dyn, A, B, px, an, hpu, ldv, ltk, ldyn, hszd, hdv, hd, rfl⟩ := q
  have h12 := mi_sz_12 dyn hszd
  have hsel : mi_sel.length ≤ 1000 := by decide +kernel
  refine ⟨?_, ?_, _, rfl⟩
  · show dyn.length + 1 + 1 + 1 + 1 + 1 + 1 ≤ 706
    omega
  · show 8 + (3 + (q.1.length + (mi_sel.length + (dv.length + (tk.length + mi_sz dyn))))) ≤ 20000
    omega
set_option maxRecDepth 100000 in
theorem mR_sz {S : sT} {h : mi_H} (hI : sI S) (q : mR S h) : h.length ≤ 23 ∧ mi_sz h ≤ 20000 ∧ ∃ fs, h[0]? = some (.inl (4, fs)) := by
  obtain ⟨N, M, stt, q, kO, vO, cO, tO, fm, to⟩ := S
  obtain ⟨hN, hMm, hq, hq2, lk, lv, lc, lt, lf, lo, hki, hli, hz⟩ := hI
  obtain ⟨fr, pl, rw, aw, zi, fB, fA, fX, pi, lrw, law, lzi, lfB, lfA, lfX, lpi, rfl⟩ := q
  have key : ∀ c ∈ mh (nI N) (nI M) stt fr pl q kO vO cO tO fm to rw aw zi fB fA fX pi, mi_szc c ≤ 800 := by
    unfold mh
    refine List.forall_mem_cons.mpr ⟨Nat.le_of_ble_eq_true rfl, ?_⟩
    refine List.forall_mem_cons.mpr ⟨(show mi_cd.length ≤ 800 from by decide +kernel), ?_⟩
    refine List.forall_mem_cons.mpr ⟨(show mi_sta.length ≤ 800 from by decide +kernel), ?_⟩
    refine List.forall_mem_cons.mpr ⟨(show mi_par.length ≤ 800 from by decide +kernel), ?_⟩
    refine List.forall_mem_cons.mpr ⟨(show mi_bea.length ≤ 800 from by decide +kernel), ?_⟩
    refine List.forall_mem_cons.mpr ⟨(show mi_has.length ≤ 800 from by decide +kernel), ?_⟩
    refine List.forall_mem_cons.mpr ⟨(show mi_ch.length ≤ 800 from by decide +kernel), ?_⟩
    refine List.forall_mem_cons.mpr ⟨(show mi_aw.length ≤ 800 from by decide +kernel), ?_⟩
    refine List.forall_mem_cons.mpr ⟨(show mi_ak.length ≤ 800 from by decide +kernel), ?_⟩
    refine List.forall_mem_cons.mpr ⟨(show kO.length ≤ 800 from by rw [lk]; decide), ?_⟩
    refine List.forall_mem_cons.mpr ⟨(show vO.length ≤ 800 from by rw [lv]; decide), ?_⟩
    refine List.forall_mem_cons.mpr ⟨(show cO.length ≤ 800 from by rw [lc]; decide), ?_⟩
    refine List.forall_mem_cons.mpr ⟨(show tO.length ≤ 800 from by rw [lt]; decide), ?_⟩
    refine List.forall_mem_cons.mpr ⟨(show fm.length ≤ 800 from by rw [lf]; decide), ?_⟩
    refine List.forall_mem_cons.mpr ⟨(show to.length ≤ 800 from by rw [lo]; decide), ?_⟩
    refine List.forall_mem_cons.mpr ⟨(show rw.length ≤ 800 from by rw [lrw]; decide), ?_⟩
    refine List.forall_mem_cons.mpr ⟨(show aw.length ≤ 800 from by rw [law]; decide), ?_⟩
    refine List.forall_mem_cons.mpr ⟨(show zi.length ≤ 800 from by rw [lzi]; decide), ?_⟩
    refine List.forall_mem_cons.mpr ⟨(show q.1.length ≤ 800 from by rw [hq]; decide), ?_⟩
    refine List.forall_mem_cons.mpr ⟨(show fB.length ≤ 800 from by rw [lfB]; decide), ?_⟩
    refine List.forall_mem_cons.mpr ⟨(show fA.length ≤ 800 from by rw [lfA]; decide), ?_⟩
    refine List.forall_mem_cons.mpr ⟨(show fX.length ≤ 800 from by rw [lfX]; decide), ?_⟩
    refine List.forall_mem_cons.mpr ⟨(show pi.length ≤ 800 from by rw [lpi]; decide), ?_⟩
    exact fun _ h => absurd h List.not_mem_nil
  exact ⟨Nat.le_of_ble_eq_true rfl, Nat.le_trans (mi_sz_le 800 _ key) (Nat.le_of_ble_eq_true rfl), _, rfl⟩
theorem lw_room {Pm : Nat} {S : sT} {h1 h2 : mi_H} (hI : sI S) (hC : cR Pm S h1) (h2l : h2.length ≤ 23) (h2s : mi_sz h2 ≤ 20000) : h1.length + h2.length ≤ 600000 ∧ mi_sz h1 + mi_sz h2 ≤ 7302250 := by
  obtain ⟨a, b, -⟩ := cR_sz hI hC
  exact ⟨by omega, by omega⟩
theorem lw_ints {n : Nat} : ∀ (zs : List Int32), ∀ v ∈ zs.map Value.int, mi_ok n v := fun zs v hv => by
  obtain ⟨z, -, rfl⟩ := List.mem_map.mp hv
  trivial
set_option maxHeartbeats 4000000 in
set_option maxRecDepth 100000 in
theorem lw_c0 {p : Program} {l : Launch} {e : Env} {s : State} {m : MethodId} {below : List Frame} {meth : Method} {c : Code} {b L : Nat} {xs : Nat → Int32} {D : va_G} {cA : Nat → ClassId} {cs : Nat → Nat} (hL : L ≤ 2560) (hfix : CallFix p m c code 4 s #[Value.ref b] lw_tbl R_law) (hX : va_X b L xs s s.heap) (hbl : b < s.heap.size) (hK : va_K D vwCl (mi_ty cA) s) (hKs : mi_K cs (lw_A s) s) {i : Nat} (hi : i + 5 ≤ L) {Pm : Nat} {S : sT} {hx hm : mi_H} (hPm : Pm < 2 ^ 20) (hI : sI S) (hC : cR Pm S hx) (hM : mR S hm) (okx : mi_okh hx.length hx) (okm : mi_okh hm.length hm) {σ1 σ2 : Nat → Nat} {H : Heap} {locs : List Loc} (J : lj D cA cs (lw_A s) σ1 σ2 hx hm H) (hS : va_S (lw_A s) s.heap H locs) {cells slots : Nat} (hcells : cells = hx.length + hm.length) (hslots : slots = mi_sz hx + mi_sz hm) {ls : Array Slot} (hl : lv_has ls 4 [(0, .ref b), (1, .ref (σ1 0)), (2, .ref (σ2 0)), (3, .int (nI i))]) {Z : State → Prop} (kk : ∀ (S2 : sT) (hx2 hm2 : mi_H) (τ1 τ2 : Nat → Nat) (H2 : Heap) (locs2 : List Loc) (cells2 slots2 : Nat), sI S2 → cR (Pm + 1) S2 hx2 → mR S2 hm2 → mi_okh hx2.length hx2 → mi_okh hm2.length hm2 → τ1 0 = σ1 0 → τ2 0 = σ2 0 → lj D cA cs (lw_A s) τ1 τ2 hx2 hm2 H2 → va_S (lw_A s) s.heap H2 locs2 → cells2 = hx2.length + hm2.length → slots2 = mi_sz hx2 + mi_sz hm2 → W p l e room_1 s m #[Value.ref b] below meth c H2 locs2 cells2 slots2 Z (F0 m 462 ls [])) : W p l e room_1 s m #[Value.ref b] below meth c H locs cells slots Z (F0 m 96 ls []) := by
  obtain ⟨hx0, hb, hml, hown, hts⟩ := id hfix
  have hA0 : ∀ q, s.heap.size ≤ q → lw_A s q := fun _ h => h
  have hbA : ¬ lw_A s b := Nat.not_le.mpr hbl
  obtain ⟨r, S2, hS2, wx, wm⟩ := op_device (xs (nI (i + 1)).toNatClampNeg) (xs (nI (i + 2)).toNatClampNeg) Pm S hx hm hPm hI hC hM
  obtain ⟨x1, x2, fx, x3⟩ := cR_sz hI hC
  obtain ⟨m1, m2, fm, m3⟩ := mR_sz hI hM
  refine lv_aload_n hx0 hb dL_law_96 rfl (lv_at hl 1 rfl) ?_
  refine lv_aload_n hx0 hb dL_law_97 rfl (lv_at hl 0 rfl) ?_
  refine lv_iload_n hx0 hb dL_law_98 rfl (lv_at hl 3 rfl) ?_
  refine lv_iconst (v := nI 1) hx0 hb dL_law_99 (by decide) ?_
  refine lv_iadd hx0 hb dL_law_100 ?_
  rw [nI_add]
  refine va_sld hx0 hb hX hbl hbA hS (vp_in_nI (n := i + 1) (by omega) (by omega)) dL_law_101 ?_
  refine lv_aload_n hx0 hb dL_law_102 rfl (lv_at hl 0 rfl) ?_
  refine lv_iload_n hx0 hb dL_law_103 rfl (lv_at hl 3 rfl) ?_
  refine lv_iconst (v := nI 2) hx0 hb dL_law_104 (by decide) ?_
  refine lv_iadd hx0 hb dL_law_105 ?_
  rw [nI_add]
  refine va_sld hx0 hb hX hbl hbA hS (vp_in_nI (n := i + 2) (by omega) (by omega)) dL_law_106 ?_
  show W p l e room_1 s m #[Value.ref b] below meth c H locs cells slots Z (F0 m 107 ls ((List.map (mi_v σ1 cs) ([.int (xs (nI (i + 1)).toNatClampNeg), .int (xs (nI (i + 2)).toNatClampNeg)] : List Value)).reverse ++ .ref (σ1 0) :: []))
  refine lw_inv hfix hA0 hK hKs (k := 37) (Y := mi_m37) rfl rfl (idx := 13) (lw_in 93 (by decide +kernel)) x3 rfl rfl rfl (lw_ints [(xs (nI (i + 1)).toNatClampNeg), (xs (nI (i + 2)).toNatClampNeg)]) okx wx (fun r2 h2 hq => lw_room hS2 hq.2 m1 m2) J hS hcells hslots hl.1 (Nat.zero_le _) dL_law_107 (fun r2 hx2 τ1 H1 locs1 cells1 slots1 hQ okx2 hsx hlx J1 hS1 hc1 hs1 => ?_)
  obtain ⟨rfl, hC2⟩ := hQ
  have ex0 : τ1 0 = σ1 0 := hsx 0 (List.getElem?_eq_some_iff.mp x3).1
  show W p l e room_1 s m #[Value.ref b] below meth c H1 locs1 cells1 slots1 Z (F0 m 110 ls [.int r])
  refine lv_aload_n hx0 hb dL_law_110 rfl (lv_at hl 2 rfl) ?_
  refine lv_aload_n hx0 hb dL_law_111 rfl (lv_at hl 0 rfl) ?_
  refine lv_iload_n hx0 hb dL_law_112 rfl (lv_at hl 3 rfl) ?_
  refine lv_iconst (v := nI 1) hx0 hb dL_law_113 (by decide) ?_
  refine lv_iadd hx0 hb dL_law_114 ?_
  rw [nI_add]
  refine va_sld hx0 hb hX hbl hbA hS1 (vp_in_nI (n := i + 1) (by omega) (by omega)) dL_law_115 ?_
  refine lv_aload_n hx0 hb dL_law_116 rfl (lv_at hl 0 rfl) ?_
  refine lv_iload_n hx0 hb dL_law_117 rfl (lv_at hl 3 rfl) ?_
  refine lv_iconst (v := nI 2) hx0 hb dL_law_118 (by decide) ?_
  refine lv_iadd hx0 hb dL_law_119 ?_
  rw [nI_add]
  refine va_sld hx0 hb hX hbl hbA hS1 (vp_in_nI (n := i + 2) (by omega) (by omega)) dL_law_120 ?_
  show W p l e room_1 s m #[Value.ref b] below meth c H1 locs1 cells1 slots1 Z (F0 m 121 ls ((List.map (mi_v σ2 cs) ([.int (xs (nI (i + 1)).toNatClampNeg), .int (xs (nI (i + 2)).toNatClampNeg)] : List Value)).reverse ++ .ref (σ2 0) :: [.int r]))
  refine lw_inv hfix hA0 hK hKs (k := 76) (Y := mi_m76) rfl rfl (idx := 17) (lw_in 444 (by decide +kernel)) m3 rfl rfl rfl (lw_ints [(xs (nI (i + 1)).toNatClampNeg), (xs (nI (i + 2)).toNatClampNeg)]) okm wm (fun r2 h2 hq => ?_) (lj_sym J1) hS1 (by omega) (by omega) hl.1 (Nat.le_of_ble_eq_true rfl) dL_law_121 (fun r2 hm2 τ2 H2 locs2 cells2 slots2 hQ okm2 hsm hlm J2 hS2v hc2 hs2 => ?_)
  · obtain ⟨a1, a2, -⟩ := mR_sz hS2 hq.2
    obtain ⟨b1, b2, -⟩ := cR_sz hS2 hC2
    exact ⟨by omega, by omega⟩
  obtain ⟨rfl, hM2⟩ := hQ
  show W p l e room_1 s m #[Value.ref b] below meth c H2 locs2 cells2 slots2 Z (F0 m 124 ls [.int r, .int r])
  refine lv_icmp_eq (tgt := 462) hx0 hb dL_law_124 (by decide) (fun _ => ?_) (fun z => absurd rfl z)
  exact kk S2 hx2 hm2 τ1 τ2 H2 locs2 cells2 slots2 hS2 hC2 hM2 okx2 okm2 ex0 (hsm 0 (List.getElem?_eq_some_iff.mp m3).1) (lj_sym J2) hS2v (by omega) (by omega)
set_option maxHeartbeats 4000000 in
set_option maxRecDepth 100000 in
theorem lw_c1 {p : Program} {l : Launch} {e : Env} {s : State} {m : MethodId} {below : List Frame} {meth : Method} {c : Code} {b L : Nat} {xs : Nat → Int32} {D : va_G} {cA : Nat → ClassId} {cs : Nat → Nat} (hL : L ≤ 2560) (hfix : CallFix p m c code 4 s #[Value.ref b] lw_tbl R_law) (hX : va_X b L xs s s.heap) (hbl : b < s.heap.size) (hK : va_K D vwCl (mi_ty cA) s) (hKs : mi_K cs (lw_A s) s) {i : Nat} (hi : i + 5 ≤ L) {Pm : Nat} {S : sT} {hx hm : mi_H} (hPm : Pm < 2 ^ 20) (hI : sI S) (hC : cR Pm S hx) (hM : mR S hm) (okx : mi_okh hx.length hx) (okm : mi_okh hm.length hm) {σ1 σ2 : Nat → Nat} {H : Heap} {locs : List Loc} (J : lj D cA cs (lw_A s) σ1 σ2 hx hm H) (hS : va_S (lw_A s) s.heap H locs) {cells slots : Nat} (hcells : cells = hx.length + hm.length) (hslots : slots = mi_sz hx + mi_sz hm) {ls : Array Slot} (hl : lv_has ls 4 [(0, .ref b), (1, .ref (σ1 0)), (2, .ref (σ2 0)), (3, .int (nI i))]) {Z : State → Prop} (kk : ∀ (S2 : sT) (hx2 hm2 : mi_H) (τ1 τ2 : Nat → Nat) (H2 : Heap) (locs2 : List Loc) (cells2 slots2 : Nat), sI S2 → cR (Pm + 1) S2 hx2 → mR S2 hm2 → mi_okh hx2.length hx2 → mi_okh hm2.length hm2 → τ1 0 = σ1 0 → τ2 0 = σ2 0 → lj D cA cs (lw_A s) τ1 τ2 hx2 hm2 H2 → va_S (lw_A s) s.heap H2 locs2 → cells2 = hx2.length + hm2.length → slots2 = mi_sz hx2 + mi_sz hm2 → W p l e room_1 s m #[Value.ref b] below meth c H2 locs2 cells2 slots2 Z (F0 m 462 ls [])) : W p l e room_1 s m #[Value.ref b] below meth c H locs cells slots Z (F0 m 129 ls []) := by
  obtain ⟨hx0, hb, hml, hown, hts⟩ := id hfix
  have hA0 : ∀ q, s.heap.size ≤ q → lw_A s q := fun _ h => h
  have hbA : ¬ lw_A s b := Nat.not_le.mpr hbl
  obtain ⟨r, S2, hS2, wx, wm⟩ := op_call (xs (nI (i + 1)).toNatClampNeg) (xs (nI (i + 2)).toNatClampNeg) (xs (nI (i + 3)).toNatClampNeg) (xs (nI (i + 4)).toNatClampNeg) Pm S hx hm hPm hI hC hM
  obtain ⟨x1, x2, fx, x3⟩ := cR_sz hI hC
  obtain ⟨m1, m2, fm, m3⟩ := mR_sz hI hM
  refine lv_aload_n hx0 hb dL_law_129 rfl (lv_at hl 1 rfl) ?_
  refine lv_aload_n hx0 hb dL_law_130 rfl (lv_at hl 0 rfl) ?_
  refine lv_iload_n hx0 hb dL_law_131 rfl (lv_at hl 3 rfl) ?_
  refine lv_iconst (v := nI 1) hx0 hb dL_law_132 (by decide) ?_
  refine lv_iadd hx0 hb dL_law_133 ?_
  rw [nI_add]
  refine va_sld hx0 hb hX hbl hbA hS (vp_in_nI (n := i + 1) (by omega) (by omega)) dL_law_134 ?_
  refine lv_aload_n hx0 hb dL_law_135 rfl (lv_at hl 0 rfl) ?_
  refine lv_iload_n hx0 hb dL_law_136 rfl (lv_at hl 3 rfl) ?_
  refine lv_iconst (v := nI 2) hx0 hb dL_law_137 (by decide) ?_
  refine lv_iadd hx0 hb dL_law_138 ?_
  rw [nI_add]
  refine va_sld hx0 hb hX hbl hbA hS (vp_in_nI (n := i + 2) (by omega) (by omega)) dL_law_139 ?_
  refine lv_aload_n hx0 hb dL_law_140 rfl (lv_at hl 0 rfl) ?_
  refine lv_iload_n hx0 hb dL_law_141 rfl (lv_at hl 3 rfl) ?_
  refine lv_iconst (v := nI 3) hx0 hb dL_law_142 (by decide) ?_
  refine lv_iadd hx0 hb dL_law_143 ?_
  rw [nI_add]
  refine va_sld hx0 hb hX hbl hbA hS (vp_in_nI (n := i + 3) (by omega) (by omega)) dL_law_144 ?_
  refine lv_aload_n hx0 hb dL_law_145 rfl (lv_at hl 0 rfl) ?_
  refine lv_iload_n hx0 hb dL_law_146 rfl (lv_at hl 3 rfl) ?_
  refine lv_iconst (v := nI 4) hx0 hb dL_law_147 (by decide) ?_
  refine lv_iadd hx0 hb dL_law_148 ?_
  rw [nI_add]
  refine va_sld hx0 hb hX hbl hbA hS (vp_in_nI (n := i + 4) (by omega) (by omega)) dL_law_149 ?_
  show W p l e room_1 s m #[Value.ref b] below meth c H locs cells slots Z (F0 m 150 ls ((List.map (mi_v σ1 cs) ([.int (xs (nI (i + 1)).toNatClampNeg), .int (xs (nI (i + 2)).toNatClampNeg), .int (xs (nI (i + 3)).toNatClampNeg), .int (xs (nI (i + 4)).toNatClampNeg)] : List Value)).reverse ++ .ref (σ1 0) :: []))
  refine lw_inv hfix hA0 hK hKs (k := 38) (Y := mi_m38) rfl rfl (idx := 18) (lw_in 161 (by decide +kernel)) x3 rfl rfl rfl (lw_ints [(xs (nI (i + 1)).toNatClampNeg), (xs (nI (i + 2)).toNatClampNeg), (xs (nI (i + 3)).toNatClampNeg), (xs (nI (i + 4)).toNatClampNeg)]) okx wx (fun r2 h2 hq => lw_room hS2 hq.2 m1 m2) J hS hcells hslots hl.1 (Nat.zero_le _) dL_law_150 (fun r2 hx2 τ1 H1 locs1 cells1 slots1 hQ okx2 hsx hlx J1 hS1 hc1 hs1 => ?_)
  obtain ⟨rfl, hC2⟩ := hQ
  have ex0 : τ1 0 = σ1 0 := hsx 0 (List.getElem?_eq_some_iff.mp x3).1
  show W p l e room_1 s m #[Value.ref b] below meth c H1 locs1 cells1 slots1 Z (F0 m 153 ls [.int r])
  refine lv_aload_n hx0 hb dL_law_153 rfl (lv_at hl 2 rfl) ?_
  refine lv_aload_n hx0 hb dL_law_154 rfl (lv_at hl 0 rfl) ?_
  refine lv_iload_n hx0 hb dL_law_155 rfl (lv_at hl 3 rfl) ?_
  refine lv_iconst (v := nI 1) hx0 hb dL_law_156 (by decide) ?_
  refine lv_iadd hx0 hb dL_law_157 ?_
  rw [nI_add]
  refine va_sld hx0 hb hX hbl hbA hS1 (vp_in_nI (n := i + 1) (by omega) (by omega)) dL_law_158 ?_
  refine lv_aload_n hx0 hb dL_law_159 rfl (lv_at hl 0 rfl) ?_
  refine lv_iload_n hx0 hb dL_law_160 rfl (lv_at hl 3 rfl) ?_
  refine lv_iconst (v := nI 2) hx0 hb dL_law_161 (by decide) ?_
  refine lv_iadd hx0 hb dL_law_162 ?_
  rw [nI_add]
  refine va_sld hx0 hb hX hbl hbA hS1 (vp_in_nI (n := i + 2) (by omega) (by omega)) dL_law_163 ?_
  refine lv_aload_n hx0 hb dL_law_164 rfl (lv_at hl 0 rfl) ?_
  refine lv_iload_n hx0 hb dL_law_165 rfl (lv_at hl 3 rfl) ?_
  refine lv_iconst (v := nI 3) hx0 hb dL_law_166 (by decide) ?_
  refine lv_iadd hx0 hb dL_law_167 ?_
  rw [nI_add]
  refine va_sld hx0 hb hX hbl hbA hS1 (vp_in_nI (n := i + 3) (by omega) (by omega)) dL_law_168 ?_
  refine lv_aload_n hx0 hb dL_law_169 rfl (lv_at hl 0 rfl) ?_
  refine lv_iload_n hx0 hb dL_law_170 rfl (lv_at hl 3 rfl) ?_
  refine lv_iconst (v := nI 4) hx0 hb dL_law_171 (by decide) ?_
  refine lv_iadd hx0 hb dL_law_172 ?_
  rw [nI_add]
  refine va_sld hx0 hb hX hbl hbA hS1 (vp_in_nI (n := i + 4) (by omega) (by omega)) dL_law_173 ?_
  show W p l e room_1 s m #[Value.ref b] below meth c H1 locs1 cells1 slots1 Z (F0 m 174 ls ((List.map (mi_v σ2 cs) ([.int (xs (nI (i + 1)).toNatClampNeg), .int (xs (nI (i + 2)).toNatClampNeg), .int (xs (nI (i + 3)).toNatClampNeg), .int (xs (nI (i + 4)).toNatClampNeg)] : List Value)).reverse ++ .ref (σ2 0) :: [.int r]))
  refine lw_inv hfix hA0 hK hKs (k := 77) (Y := mi_m77) rfl rfl (idx := 22) (lw_in 448 (by decide +kernel)) m3 rfl rfl rfl (lw_ints [(xs (nI (i + 1)).toNatClampNeg), (xs (nI (i + 2)).toNatClampNeg), (xs (nI (i + 3)).toNatClampNeg), (xs (nI (i + 4)).toNatClampNeg)]) okm wm (fun r2 h2 hq => ?_) (lj_sym J1) hS1 (by omega) (by omega) hl.1 (Nat.le_of_ble_eq_true rfl) dL_law_174 (fun r2 hm2 τ2 H2 locs2 cells2 slots2 hQ okm2 hsm hlm J2 hS2v hc2 hs2 => ?_)
  · obtain ⟨a1, a2, -⟩ := mR_sz hS2 hq.2
    obtain ⟨b1, b2, -⟩ := cR_sz hS2 hC2
    exact ⟨by omega, by omega⟩
  obtain ⟨rfl, hM2⟩ := hQ
  show W p l e room_1 s m #[Value.ref b] below meth c H2 locs2 cells2 slots2 Z (F0 m 177 ls [.int r, .int r])
  refine lv_icmp_eq (tgt := 462) hx0 hb dL_law_177 (by decide) (fun _ => ?_) (fun z => absurd rfl z)
  exact kk S2 hx2 hm2 τ1 τ2 H2 locs2 cells2 slots2 hS2 hC2 hM2 okx2 okm2 ex0 (hsm 0 (List.getElem?_eq_some_iff.mp m3).1) (lj_sym J2) hS2v (by omega) (by omega)
set_option maxHeartbeats 4000000 in
set_option maxRecDepth 100000 in
theorem lw_c2 {p : Program} {l : Launch} {e : Env} {s : State} {m : MethodId} {below : List Frame} {meth : Method} {c : Code} {b L : Nat} {xs : Nat → Int32} {D : va_G} {cA : Nat → ClassId} {cs : Nat → Nat} (hL : L ≤ 2560) (hfix : CallFix p m c code 4 s #[Value.ref b] lw_tbl R_law) (hX : va_X b L xs s s.heap) (hbl : b < s.heap.size) (hK : va_K D vwCl (mi_ty cA) s) (hKs : mi_K cs (lw_A s) s) {i : Nat} (hi : i + 5 ≤ L) {Pm : Nat} {S : sT} {hx hm : mi_H} (hPm : Pm < 2 ^ 20) (hI : sI S) (hC : cR Pm S hx) (hM : mR S hm) (okx : mi_okh hx.length hx) (okm : mi_okh hm.length hm) {σ1 σ2 : Nat → Nat} {H : Heap} {locs : List Loc} (J : lj D cA cs (lw_A s) σ1 σ2 hx hm H) (hS : va_S (lw_A s) s.heap H locs) {cells slots : Nat} (hcells : cells = hx.length + hm.length) (hslots : slots = mi_sz hx + mi_sz hm) {ls : Array Slot} (hl : lv_has ls 4 [(0, .ref b), (1, .ref (σ1 0)), (2, .ref (σ2 0)), (3, .int (nI i))]) {Z : State → Prop} (kk : ∀ (S2 : sT) (hx2 hm2 : mi_H) (τ1 τ2 : Nat → Nat) (H2 : Heap) (locs2 : List Loc) (cells2 slots2 : Nat), sI S2 → cR (Pm + 1) S2 hx2 → mR S2 hm2 → mi_okh hx2.length hx2 → mi_okh hm2.length hm2 → τ1 0 = σ1 0 → τ2 0 = σ2 0 → lj D cA cs (lw_A s) τ1 τ2 hx2 hm2 H2 → va_S (lw_A s) s.heap H2 locs2 → cells2 = hx2.length + hm2.length → slots2 = mi_sz hx2 + mi_sz hm2 → W p l e room_1 s m #[Value.ref b] below meth c H2 locs2 cells2 slots2 Z (F0 m 462 ls [])) : W p l e room_1 s m #[Value.ref b] below meth c H locs cells slots Z (F0 m 182 ls []) := by
  obtain ⟨hx0, hb, hml, hown, hts⟩ := id hfix
  have hA0 : ∀ q, s.heap.size ≤ q → lw_A s q := fun _ h => h
  have hbA : ¬ lw_A s b := Nat.not_le.mpr hbl
  obtain ⟨r, S2, hS2, wx, wm⟩ := op_every (xs (nI (i + 1)).toNatClampNeg) (xs (nI (i + 2)).toNatClampNeg) (xs (nI (i + 3)).toNatClampNeg) Pm S hx hm hPm hI hC hM
  obtain ⟨x1, x2, fx, x3⟩ := cR_sz hI hC
  obtain ⟨m1, m2, fm, m3⟩ := mR_sz hI hM
  refine lv_aload_n hx0 hb dL_law_182 rfl (lv_at hl 1 rfl) ?_
  refine lv_aload_n hx0 hb dL_law_183 rfl (lv_at hl 0 rfl) ?_
  refine lv_iload_n hx0 hb dL_law_184 rfl (lv_at hl 3 rfl) ?_
  refine lv_iconst (v := nI 1) hx0 hb dL_law_185 (by decide) ?_
  refine lv_iadd hx0 hb dL_law_186 ?_
  rw [nI_add]
  refine va_sld hx0 hb hX hbl hbA hS (vp_in_nI (n := i + 1) (by omega) (by omega)) dL_law_187 ?_
  refine lv_aload_n hx0 hb dL_law_188 rfl (lv_at hl 0 rfl) ?_
  refine lv_iload_n hx0 hb dL_law_189 rfl (lv_at hl 3 rfl) ?_
  refine lv_iconst (v := nI 2) hx0 hb dL_law_190 (by decide) ?_
  refine lv_iadd hx0 hb dL_law_191 ?_
  rw [nI_add]
  refine va_sld hx0 hb hX hbl hbA hS (vp_in_nI (n := i + 2) (by omega) (by omega)) dL_law_192 ?_
  refine lv_aload_n hx0 hb dL_law_193 rfl (lv_at hl 0 rfl) ?_
  refine lv_iload_n hx0 hb dL_law_194 rfl (lv_at hl 3 rfl) ?_
  refine lv_iconst (v := nI 3) hx0 hb dL_law_195 (by decide) ?_
  refine lv_iadd hx0 hb dL_law_196 ?_
  rw [nI_add]
  refine va_sld hx0 hb hX hbl hbA hS (vp_in_nI (n := i + 3) (by omega) (by omega)) dL_law_197 ?_
  show W p l e room_1 s m #[Value.ref b] below meth c H locs cells slots Z (F0 m 198 ls ((List.map (mi_v σ1 cs) ([.int (xs (nI (i + 1)).toNatClampNeg), .int (xs (nI (i + 2)).toNatClampNeg), .int (xs (nI (i + 3)).toNatClampNeg)] : List Value)).reverse ++ .ref (σ1 0) :: []))
  refine lw_inv hfix hA0 hK hKs (k := 39) (Y := mi_m39) rfl rfl (idx := 23) (lw_in 234 (by decide +kernel)) x3 rfl rfl rfl (lw_ints [(xs (nI (i + 1)).toNatClampNeg), (xs (nI (i + 2)).toNatClampNeg), (xs (nI (i + 3)).toNatClampNeg)]) okx wx (fun r2 h2 hq => lw_room hS2 hq.2 m1 m2) J hS hcells hslots hl.1 (Nat.zero_le _) dL_law_198 (fun r2 hx2 τ1 H1 locs1 cells1 slots1 hQ okx2 hsx hlx J1 hS1 hc1 hs1 => ?_)
  obtain ⟨rfl, hC2⟩ := hQ
  have ex0 : τ1 0 = σ1 0 := hsx 0 (List.getElem?_eq_some_iff.mp x3).1
  show W p l e room_1 s m #[Value.ref b] below meth c H1 locs1 cells1 slots1 Z (F0 m 201 ls [.int r])
  refine lv_aload_n hx0 hb dL_law_201 rfl (lv_at hl 2 rfl) ?_
  refine lv_aload_n hx0 hb dL_law_202 rfl (lv_at hl 0 rfl) ?_
  refine lv_iload_n hx0 hb dL_law_203 rfl (lv_at hl 3 rfl) ?_
  refine lv_iconst (v := nI 1) hx0 hb dL_law_204 (by decide) ?_
  refine lv_iadd hx0 hb dL_law_205 ?_
  rw [nI_add]
  refine va_sld hx0 hb hX hbl hbA hS1 (vp_in_nI (n := i + 1) (by omega) (by omega)) dL_law_206 ?_
  refine lv_aload_n hx0 hb dL_law_207 rfl (lv_at hl 0 rfl) ?_
  refine lv_iload_n hx0 hb dL_law_208 rfl (lv_at hl 3 rfl) ?_
  refine lv_iconst (v := nI 2) hx0 hb dL_law_209 (by decide) ?_
  refine lv_iadd hx0 hb dL_law_210 ?_
  rw [nI_add]
  refine va_sld hx0 hb hX hbl hbA hS1 (vp_in_nI (n := i + 2) (by omega) (by omega)) dL_law_211 ?_
  refine lv_aload_n hx0 hb dL_law_212 rfl (lv_at hl 0 rfl) ?_
  refine lv_iload_n hx0 hb dL_law_213 rfl (lv_at hl 3 rfl) ?_
  refine lv_iconst (v := nI 3) hx0 hb dL_law_214 (by decide) ?_
  refine lv_iadd hx0 hb dL_law_215 ?_
  rw [nI_add]
  refine va_sld hx0 hb hX hbl hbA hS1 (vp_in_nI (n := i + 3) (by omega) (by omega)) dL_law_216 ?_
  show W p l e room_1 s m #[Value.ref b] below meth c H1 locs1 cells1 slots1 Z (F0 m 217 ls ((List.map (mi_v σ2 cs) ([.int (xs (nI (i + 1)).toNatClampNeg), .int (xs (nI (i + 2)).toNatClampNeg), .int (xs (nI (i + 3)).toNatClampNeg)] : List Value)).reverse ++ .ref (σ2 0) :: [.int r]))
  refine lw_inv hfix hA0 hK hKs (k := 78) (Y := mi_m78) rfl rfl (idx := 27) (lw_in 502 (by decide +kernel)) m3 rfl rfl rfl (lw_ints [(xs (nI (i + 1)).toNatClampNeg), (xs (nI (i + 2)).toNatClampNeg), (xs (nI (i + 3)).toNatClampNeg)]) okm wm (fun r2 h2 hq => ?_) (lj_sym J1) hS1 (by omega) (by omega) hl.1 (Nat.le_of_ble_eq_true rfl) dL_law_217 (fun r2 hm2 τ2 H2 locs2 cells2 slots2 hQ okm2 hsm hlm J2 hS2v hc2 hs2 => ?_)
  · obtain ⟨a1, a2, -⟩ := mR_sz hS2 hq.2
    obtain ⟨b1, b2, -⟩ := cR_sz hS2 hC2
    exact ⟨by omega, by omega⟩
  obtain ⟨rfl, hM2⟩ := hQ
  show W p l e room_1 s m #[Value.ref b] below meth c H2 locs2 cells2 slots2 Z (F0 m 220 ls [.int r, .int r])
  refine lv_icmp_eq (tgt := 462) hx0 hb dL_law_220 (by decide) (fun _ => ?_) (fun z => absurd rfl z)
  exact kk S2 hx2 hm2 τ1 τ2 H2 locs2 cells2 slots2 hS2 hC2 hM2 okx2 okm2 ex0 (hsm 0 (List.getElem?_eq_some_iff.mp m3).1) (lj_sym J2) hS2v (by omega) (by omega)
set_option maxHeartbeats 4000000 in
set_option maxRecDepth 100000 in
theorem lw_c3 {p : Program} {l : Launch} {e : Env} {s : State} {m : MethodId} {below : List Frame} {meth : Method} {c : Code} {b L : Nat} {xs : Nat → Int32} {D : va_G} {cA : Nat → ClassId} {cs : Nat → Nat} (hL : L ≤ 2560) (hfix : CallFix p m c code 4 s #[Value.ref b] lw_tbl R_law) (hX : va_X b L xs s s.heap) (hbl : b < s.heap.size) (hK : va_K D vwCl (mi_ty cA) s) (hKs : mi_K cs (lw_A s) s) {i : Nat} (hi : i + 5 ≤ L) {Pm : Nat} {S : sT} {hx hm : mi_H} (hPm : Pm < 2 ^ 20) (hI : sI S) (hC : cR Pm S hx) (hM : mR S hm) (okx : mi_okh hx.length hx) (okm : mi_okh hm.length hm) {σ1 σ2 : Nat → Nat} {H : Heap} {locs : List Loc} (J : lj D cA cs (lw_A s) σ1 σ2 hx hm H) (hS : va_S (lw_A s) s.heap H locs) {cells slots : Nat} (hcells : cells = hx.length + hm.length) (hslots : slots = mi_sz hx + mi_sz hm) {ls : Array Slot} (hl : lv_has ls 4 [(0, .ref b), (1, .ref (σ1 0)), (2, .ref (σ2 0)), (3, .int (nI i))]) {Z : State → Prop} (kk : ∀ (S2 : sT) (hx2 hm2 : mi_H) (τ1 τ2 : Nat → Nat) (H2 : Heap) (locs2 : List Loc) (cells2 slots2 : Nat), sI S2 → cR (Pm + 1) S2 hx2 → mR S2 hm2 → mi_okh hx2.length hx2 → mi_okh hm2.length hm2 → τ1 0 = σ1 0 → τ2 0 = σ2 0 → lj D cA cs (lw_A s) τ1 τ2 hx2 hm2 H2 → va_S (lw_A s) s.heap H2 locs2 → cells2 = hx2.length + hm2.length → slots2 = mi_sz hx2 + mi_sz hm2 → W p l e room_1 s m #[Value.ref b] below meth c H2 locs2 cells2 slots2 Z (F0 m 462 ls [])) : W p l e room_1 s m #[Value.ref b] below meth c H locs cells slots Z (F0 m 225 ls []) := by
  obtain ⟨hx0, hb, hml, hown, hts⟩ := id hfix
  have hA0 : ∀ q, s.heap.size ≤ q → lw_A s q := fun _ h => h
  have hbA : ¬ lw_A s b := Nat.not_le.mpr hbl
  obtain ⟨r, S2, hS2, wx, wm⟩ := op_feed (xs (nI (i + 1)).toNatClampNeg) (xs (nI (i + 2)).toNatClampNeg) Pm S hx hm hPm hI hC hM
  obtain ⟨x1, x2, fx, x3⟩ := cR_sz hI hC
  obtain ⟨m1, m2, fm, m3⟩ := mR_sz hI hM
  refine lv_aload_n hx0 hb dL_law_225 rfl (lv_at hl 1 rfl) ?_
  refine lv_aload_n hx0 hb dL_law_226 rfl (lv_at hl 0 rfl) ?_
  refine lv_iload_n hx0 hb dL_law_227 rfl (lv_at hl 3 rfl) ?_
  refine lv_iconst (v := nI 1) hx0 hb dL_law_228 (by decide) ?_
  refine lv_iadd hx0 hb dL_law_229 ?_
  rw [nI_add]
  refine va_sld hx0 hb hX hbl hbA hS (vp_in_nI (n := i + 1) (by omega) (by omega)) dL_law_230 ?_
  refine lv_aload_n hx0 hb dL_law_231 rfl (lv_at hl 0 rfl) ?_
  refine lv_iload_n hx0 hb dL_law_232 rfl (lv_at hl 3 rfl) ?_
  refine lv_iconst (v := nI 2) hx0 hb dL_law_233 (by decide) ?_
  refine lv_iadd hx0 hb dL_law_234 ?_
  rw [nI_add]
  refine va_sld hx0 hb hX hbl hbA hS (vp_in_nI (n := i + 2) (by omega) (by omega)) dL_law_235 ?_
  show W p l e room_1 s m #[Value.ref b] below meth c H locs cells slots Z (F0 m 236 ls ((List.map (mi_v σ1 cs) ([.int (xs (nI (i + 1)).toNatClampNeg), .int (xs (nI (i + 2)).toNatClampNeg)] : List Value)).reverse ++ .ref (σ1 0) :: []))
  refine lw_inv hfix hA0 hK hKs (k := 40) (Y := mi_m40) rfl rfl (idx := 28) (lw_in 243 (by decide +kernel)) x3 rfl rfl rfl (lw_ints [(xs (nI (i + 1)).toNatClampNeg), (xs (nI (i + 2)).toNatClampNeg)]) okx wx (fun r2 h2 hq => lw_room hS2 hq.2 m1 m2) J hS hcells hslots hl.1 (Nat.zero_le _) dL_law_236 (fun r2 hx2 τ1 H1 locs1 cells1 slots1 hQ okx2 hsx hlx J1 hS1 hc1 hs1 => ?_)
  obtain ⟨rfl, hC2⟩ := hQ
  have ex0 : τ1 0 = σ1 0 := hsx 0 (List.getElem?_eq_some_iff.mp x3).1
  show W p l e room_1 s m #[Value.ref b] below meth c H1 locs1 cells1 slots1 Z (F0 m 239 ls [.int r])
  refine lv_aload_n hx0 hb dL_law_239 rfl (lv_at hl 2 rfl) ?_
  refine lv_aload_n hx0 hb dL_law_240 rfl (lv_at hl 0 rfl) ?_
  refine lv_iload_n hx0 hb dL_law_241 rfl (lv_at hl 3 rfl) ?_
  refine lv_iconst (v := nI 1) hx0 hb dL_law_242 (by decide) ?_
  refine lv_iadd hx0 hb dL_law_243 ?_
  rw [nI_add]
  refine va_sld hx0 hb hX hbl hbA hS1 (vp_in_nI (n := i + 1) (by omega) (by omega)) dL_law_244 ?_
  refine lv_aload_n hx0 hb dL_law_245 rfl (lv_at hl 0 rfl) ?_
  refine lv_iload_n hx0 hb dL_law_246 rfl (lv_at hl 3 rfl) ?_
  refine lv_iconst (v := nI 2) hx0 hb dL_law_247 (by decide) ?_
  refine lv_iadd hx0 hb dL_law_248 ?_
  rw [nI_add]
  refine va_sld hx0 hb hX hbl hbA hS1 (vp_in_nI (n := i + 2) (by omega) (by omega)) dL_law_249 ?_
  show W p l e room_1 s m #[Value.ref b] below meth c H1 locs1 cells1 slots1 Z (F0 m 250 ls ((List.map (mi_v σ2 cs) ([.int (xs (nI (i + 1)).toNatClampNeg), .int (xs (nI (i + 2)).toNatClampNeg)] : List Value)).reverse ++ .ref (σ2 0) :: [.int r]))
  refine lw_inv hfix hA0 hK hKs (k := 79) (Y := mi_m79) rfl rfl (idx := 31) (lw_in 506 (by decide +kernel)) m3 rfl rfl rfl (lw_ints [(xs (nI (i + 1)).toNatClampNeg), (xs (nI (i + 2)).toNatClampNeg)]) okm wm (fun r2 h2 hq => ?_) (lj_sym J1) hS1 (by omega) (by omega) hl.1 (Nat.le_of_ble_eq_true rfl) dL_law_250 (fun r2 hm2 τ2 H2 locs2 cells2 slots2 hQ okm2 hsm hlm J2 hS2v hc2 hs2 => ?_)
  · obtain ⟨a1, a2, -⟩ := mR_sz hS2 hq.2
    obtain ⟨b1, b2, -⟩ := cR_sz hS2 hC2
    exact ⟨by omega, by omega⟩
  obtain ⟨rfl, hM2⟩ := hQ
  show W p l e room_1 s m #[Value.ref b] below meth c H2 locs2 cells2 slots2 Z (F0 m 253 ls [.int r, .int r])
  refine lv_icmp_eq (tgt := 462) hx0 hb dL_law_253 (by decide) (fun _ => ?_) (fun z => absurd rfl z)
  exact kk S2 hx2 hm2 τ1 τ2 H2 locs2 cells2 slots2 hS2 hC2 hM2 okx2 okm2 ex0 (hsm 0 (List.getElem?_eq_some_iff.mp m3).1) (lj_sym J2) hS2v (by omega) (by omega)
set_option maxHeartbeats 4000000 in
set_option maxRecDepth 100000 in
theorem lw_c4 {p : Program} {l : Launch} {e : Env} {s : State} {m : MethodId} {below : List Frame} {meth : Method} {c : Code} {b L : Nat} {xs : Nat → Int32} {D : va_G} {cA : Nat → ClassId} {cs : Nat → Nat} (hL : L ≤ 2560) (hfix : CallFix p m c code 4 s #[Value.ref b] lw_tbl R_law) (hX : va_X b L xs s s.heap) (hbl : b < s.heap.size) (hK : va_K D vwCl (mi_ty cA) s) (hKs : mi_K cs (lw_A s) s) {i : Nat} (hi : i + 5 ≤ L) {Pm : Nat} {S : sT} {hx hm : mi_H} (hPm : Pm < 2 ^ 20) (hI : sI S) (hC : cR Pm S hx) (hM : mR S hm) (okx : mi_okh hx.length hx) (okm : mi_okh hm.length hm) {σ1 σ2 : Nat → Nat} {H : Heap} {locs : List Loc} (J : lj D cA cs (lw_A s) σ1 σ2 hx hm H) (hS : va_S (lw_A s) s.heap H locs) {cells slots : Nat} (hcells : cells = hx.length + hm.length) (hslots : slots = mi_sz hx + mi_sz hm) {ls : Array Slot} (hl : lv_has ls 4 [(0, .ref b), (1, .ref (σ1 0)), (2, .ref (σ2 0)), (3, .int (nI i))]) {Z : State → Prop} (kk : ∀ (S2 : sT) (hx2 hm2 : mi_H) (τ1 τ2 : Nat → Nat) (H2 : Heap) (locs2 : List Loc) (cells2 slots2 : Nat), sI S2 → cR (Pm + 1) S2 hx2 → mR S2 hm2 → mi_okh hx2.length hx2 → mi_okh hm2.length hm2 → τ1 0 = σ1 0 → τ2 0 = σ2 0 → lj D cA cs (lw_A s) τ1 τ2 hx2 hm2 H2 → va_S (lw_A s) s.heap H2 locs2 → cells2 = hx2.length + hm2.length → slots2 = mi_sz hx2 + mi_sz hm2 → W p l e room_1 s m #[Value.ref b] below meth c H2 locs2 cells2 slots2 Z (F0 m 462 ls [])) : W p l e room_1 s m #[Value.ref b] below meth c H locs cells slots Z (F0 m 258 ls []) := by
  obtain ⟨hx0, hb, hml, hown, hts⟩ := id hfix
  have hA0 : ∀ q, s.heap.size ≤ q → lw_A s q := fun _ h => h
  have hbA : ¬ lw_A s b := Nat.not_le.mpr hbl
  obtain ⟨r, S2, hS2, wx, wm⟩ := op_link (xs (nI (i + 1)).toNatClampNeg) (xs (nI (i + 2)).toNatClampNeg) Pm S hx hm hPm hI hC hM
  obtain ⟨x1, x2, fx, x3⟩ := cR_sz hI hC
  obtain ⟨m1, m2, fm, m3⟩ := mR_sz hI hM
  refine lv_aload_n hx0 hb dL_law_258 rfl (lv_at hl 1 rfl) ?_
  refine lv_aload_n hx0 hb dL_law_259 rfl (lv_at hl 0 rfl) ?_
  refine lv_iload_n hx0 hb dL_law_260 rfl (lv_at hl 3 rfl) ?_
  refine lv_iconst (v := nI 1) hx0 hb dL_law_261 (by decide) ?_
  refine lv_iadd hx0 hb dL_law_262 ?_
  rw [nI_add]
  refine va_sld hx0 hb hX hbl hbA hS (vp_in_nI (n := i + 1) (by omega) (by omega)) dL_law_263 ?_
  refine lv_aload_n hx0 hb dL_law_264 rfl (lv_at hl 0 rfl) ?_
  refine lv_iload_n hx0 hb dL_law_265 rfl (lv_at hl 3 rfl) ?_
  refine lv_iconst (v := nI 2) hx0 hb dL_law_266 (by decide) ?_
  refine lv_iadd hx0 hb dL_law_267 ?_
  rw [nI_add]
  refine va_sld hx0 hb hX hbl hbA hS (vp_in_nI (n := i + 2) (by omega) (by omega)) dL_law_268 ?_
  show W p l e room_1 s m #[Value.ref b] below meth c H locs cells slots Z (F0 m 269 ls ((List.map (mi_v σ1 cs) ([.int (xs (nI (i + 1)).toNatClampNeg), .int (xs (nI (i + 2)).toNatClampNeg)] : List Value)).reverse ++ .ref (σ1 0) :: []))
  refine lw_inv hfix hA0 hK hKs (k := 41) (Y := mi_m41) rfl rfl (idx := 32) (lw_in 251 (by decide +kernel)) x3 rfl rfl rfl (lw_ints [(xs (nI (i + 1)).toNatClampNeg), (xs (nI (i + 2)).toNatClampNeg)]) okx wx (fun r2 h2 hq => lw_room hS2 hq.2 m1 m2) J hS hcells hslots hl.1 (Nat.zero_le _) dL_law_269 (fun r2 hx2 τ1 H1 locs1 cells1 slots1 hQ okx2 hsx hlx J1 hS1 hc1 hs1 => ?_)
  obtain ⟨rfl, hC2⟩ := hQ
  have ex0 : τ1 0 = σ1 0 := hsx 0 (List.getElem?_eq_some_iff.mp x3).1
  show W p l e room_1 s m #[Value.ref b] below meth c H1 locs1 cells1 slots1 Z (F0 m 272 ls [.int r])
  refine lv_aload_n hx0 hb dL_law_272 rfl (lv_at hl 2 rfl) ?_
  refine lv_aload_n hx0 hb dL_law_273 rfl (lv_at hl 0 rfl) ?_
  refine lv_iload_n hx0 hb dL_law_274 rfl (lv_at hl 3 rfl) ?_
  refine lv_iconst (v := nI 1) hx0 hb dL_law_275 (by decide) ?_
  refine lv_iadd hx0 hb dL_law_276 ?_
  rw [nI_add]
  refine va_sld hx0 hb hX hbl hbA hS1 (vp_in_nI (n := i + 1) (by omega) (by omega)) dL_law_277 ?_
  refine lv_aload_n hx0 hb dL_law_278 rfl (lv_at hl 0 rfl) ?_
  refine lv_iload_n hx0 hb dL_law_279 rfl (lv_at hl 3 rfl) ?_
  refine lv_iconst (v := nI 2) hx0 hb dL_law_280 (by decide) ?_
  refine lv_iadd hx0 hb dL_law_281 ?_
  rw [nI_add]
  refine va_sld hx0 hb hX hbl hbA hS1 (vp_in_nI (n := i + 2) (by omega) (by omega)) dL_law_282 ?_
  show W p l e room_1 s m #[Value.ref b] below meth c H1 locs1 cells1 slots1 Z (F0 m 283 ls ((List.map (mi_v σ2 cs) ([.int (xs (nI (i + 1)).toNatClampNeg), .int (xs (nI (i + 2)).toNatClampNeg)] : List Value)).reverse ++ .ref (σ2 0) :: [.int r]))
  refine lw_inv hfix hA0 hK hKs (k := 80) (Y := mi_m80) rfl rfl (idx := 35) (lw_in 510 (by decide +kernel)) m3 rfl rfl rfl (lw_ints [(xs (nI (i + 1)).toNatClampNeg), (xs (nI (i + 2)).toNatClampNeg)]) okm wm (fun r2 h2 hq => ?_) (lj_sym J1) hS1 (by omega) (by omega) hl.1 (Nat.le_of_ble_eq_true rfl) dL_law_283 (fun r2 hm2 τ2 H2 locs2 cells2 slots2 hQ okm2 hsm hlm J2 hS2v hc2 hs2 => ?_)
  · obtain ⟨a1, a2, -⟩ := mR_sz hS2 hq.2
    obtain ⟨b1, b2, -⟩ := cR_sz hS2 hC2
    exact ⟨by omega, by omega⟩
  obtain ⟨rfl, hM2⟩ := hQ
  show W p l e room_1 s m #[Value.ref b] below meth c H2 locs2 cells2 slots2 Z (F0 m 286 ls [.int r, .int r])
  refine lv_icmp_eq (tgt := 462) hx0 hb dL_law_286 (by decide) (fun _ => ?_) (fun z => absurd rfl z)
  exact kk S2 hx2 hm2 τ1 τ2 H2 locs2 cells2 slots2 hS2 hC2 hM2 okx2 okm2 ex0 (hsm 0 (List.getElem?_eq_some_iff.mp m3).1) (lj_sym J2) hS2v (by omega) (by omega)
set_option maxHeartbeats 4000000 in
set_option maxRecDepth 100000 in
theorem lw_c5 {p : Program} {l : Launch} {e : Env} {s : State} {m : MethodId} {below : List Frame} {meth : Method} {c : Code} {b L : Nat} {xs : Nat → Int32} {D : va_G} {cA : Nat → ClassId} {cs : Nat → Nat} (hL : L ≤ 2560) (hfix : CallFix p m c code 4 s #[Value.ref b] lw_tbl R_law) (hX : va_X b L xs s s.heap) (hbl : b < s.heap.size) (hK : va_K D vwCl (mi_ty cA) s) (hKs : mi_K cs (lw_A s) s) {i : Nat} (hi : i + 5 ≤ L) {Pm : Nat} {S : sT} {hx hm : mi_H} (hPm : Pm < 2 ^ 20) (hI : sI S) (hC : cR Pm S hx) (hM : mR S hm) (okx : mi_okh hx.length hx) (okm : mi_okh hm.length hm) {σ1 σ2 : Nat → Nat} {H : Heap} {locs : List Loc} (J : lj D cA cs (lw_A s) σ1 σ2 hx hm H) (hS : va_S (lw_A s) s.heap H locs) {cells slots : Nat} (hcells : cells = hx.length + hm.length) (hslots : slots = mi_sz hx + mi_sz hm) {ls : Array Slot} (hl : lv_has ls 4 [(0, .ref b), (1, .ref (σ1 0)), (2, .ref (σ2 0)), (3, .int (nI i))]) {Z : State → Prop} (kk : ∀ (S2 : sT) (hx2 hm2 : mi_H) (τ1 τ2 : Nat → Nat) (H2 : Heap) (locs2 : List Loc) (cells2 slots2 : Nat), sI S2 → cR (Pm + 1) S2 hx2 → mR S2 hm2 → mi_okh hx2.length hx2 → mi_okh hm2.length hm2 → τ1 0 = σ1 0 → τ2 0 = σ2 0 → lj D cA cs (lw_A s) τ1 τ2 hx2 hm2 H2 → va_S (lw_A s) s.heap H2 locs2 → cells2 = hx2.length + hm2.length → slots2 = mi_sz hx2 + mi_sz hm2 → W p l e room_1 s m #[Value.ref b] below meth c H2 locs2 cells2 slots2 Z (F0 m 462 ls [])) : W p l e room_1 s m #[Value.ref b] below meth c H locs cells slots Z (F0 m 291 ls []) := by
  obtain ⟨hx0, hb, hml, hown, hts⟩ := id hfix
  have hA0 : ∀ q, s.heap.size ≤ q → lw_A s q := fun _ h => h
  have hbA : ¬ lw_A s b := Nat.not_le.mpr hbl
  obtain ⟨r, S2, hS2, wx, wm⟩ := op_pass (xs (nI (i + 1)).toNatClampNeg) (xs (nI (i + 2)).toNatClampNeg) Pm S hx hm hPm hI hC hM
  obtain ⟨x1, x2, fx, x3⟩ := cR_sz hI hC
  obtain ⟨m1, m2, fm, m3⟩ := mR_sz hI hM
  refine lv_aload_n hx0 hb dL_law_291 rfl (lv_at hl 1 rfl) ?_
  refine lv_aload_n hx0 hb dL_law_292 rfl (lv_at hl 0 rfl) ?_
  refine lv_iload_n hx0 hb dL_law_293 rfl (lv_at hl 3 rfl) ?_
  refine lv_iconst (v := nI 1) hx0 hb dL_law_294 (by decide) ?_
  refine lv_iadd hx0 hb dL_law_295 ?_
  rw [nI_add]
  refine va_sld hx0 hb hX hbl hbA hS (vp_in_nI (n := i + 1) (by omega) (by omega)) dL_law_296 ?_
  refine lv_aload_n hx0 hb dL_law_297 rfl (lv_at hl 0 rfl) ?_
  refine lv_iload_n hx0 hb dL_law_298 rfl (lv_at hl 3 rfl) ?_
  refine lv_iconst (v := nI 2) hx0 hb dL_law_299 (by decide) ?_
  refine lv_iadd hx0 hb dL_law_300 ?_
  rw [nI_add]
  refine va_sld hx0 hb hX hbl hbA hS (vp_in_nI (n := i + 2) (by omega) (by omega)) dL_law_301 ?_
  show W p l e room_1 s m #[Value.ref b] below meth c H locs cells slots Z (F0 m 302 ls ((List.map (mi_v σ1 cs) ([.int (xs (nI (i + 1)).toNatClampNeg), .int (xs (nI (i + 2)).toNatClampNeg)] : List Value)).reverse ++ .ref (σ1 0) :: []))
  refine lw_inv hfix hA0 hK hKs (k := 42) (Y := mi_m42) rfl rfl (idx := 36) (lw_in 274 (by decide +kernel)) x3 rfl rfl rfl (lw_ints [(xs (nI (i + 1)).toNatClampNeg), (xs (nI (i + 2)).toNatClampNeg)]) okx wx (fun r2 h2 hq => lw_room hS2 hq.2 m1 m2) J hS hcells hslots hl.1 (Nat.zero_le _) dL_law_302 (fun r2 hx2 τ1 H1 locs1 cells1 slots1 hQ okx2 hsx hlx J1 hS1 hc1 hs1 => ?_)
  obtain ⟨rfl, hC2⟩ := hQ
  have ex0 : τ1 0 = σ1 0 := hsx 0 (List.getElem?_eq_some_iff.mp x3).1
  show W p l e room_1 s m #[Value.ref b] below meth c H1 locs1 cells1 slots1 Z (F0 m 305 ls [.int r])
  refine lv_aload_n hx0 hb dL_law_305 rfl (lv_at hl 2 rfl) ?_
  refine lv_aload_n hx0 hb dL_law_306 rfl (lv_at hl 0 rfl) ?_
  refine lv_iload_n hx0 hb dL_law_307 rfl (lv_at hl 3 rfl) ?_
  refine lv_iconst (v := nI 1) hx0 hb dL_law_308 (by decide) ?_
  refine lv_iadd hx0 hb dL_law_309 ?_
  rw [nI_add]
  refine va_sld hx0 hb hX hbl hbA hS1 (vp_in_nI (n := i + 1) (by omega) (by omega)) dL_law_310 ?_
  refine lv_aload_n hx0 hb dL_law_311 rfl (lv_at hl 0 rfl) ?_
  refine lv_iload_n hx0 hb dL_law_312 rfl (lv_at hl 3 rfl) ?_
  refine lv_iconst (v := nI 2) hx0 hb dL_law_313 (by decide) ?_
  refine lv_iadd hx0 hb dL_law_314 ?_
  rw [nI_add]
  refine va_sld hx0 hb hX hbl hbA hS1 (vp_in_nI (n := i + 2) (by omega) (by omega)) dL_law_315 ?_
  show W p l e room_1 s m #[Value.ref b] below meth c H1 locs1 cells1 slots1 Z (F0 m 316 ls ((List.map (mi_v σ2 cs) ([.int (xs (nI (i + 1)).toNatClampNeg), .int (xs (nI (i + 2)).toNatClampNeg)] : List Value)).reverse ++ .ref (σ2 0) :: [.int r]))
  refine lw_inv hfix hA0 hK hKs (k := 82) (Y := mi_m82) rfl rfl (idx := 39) (lw_in 514 (by decide +kernel)) m3 rfl rfl rfl (lw_ints [(xs (nI (i + 1)).toNatClampNeg), (xs (nI (i + 2)).toNatClampNeg)]) okm wm (fun r2 h2 hq => ?_) (lj_sym J1) hS1 (by omega) (by omega) hl.1 (Nat.le_of_ble_eq_true rfl) dL_law_316 (fun r2 hm2 τ2 H2 locs2 cells2 slots2 hQ okm2 hsm hlm J2 hS2v hc2 hs2 => ?_)
  · obtain ⟨a1, a2, -⟩ := mR_sz hS2 hq.2
    obtain ⟨b1, b2, -⟩ := cR_sz hS2 hC2
    exact ⟨by omega, by omega⟩
  obtain ⟨rfl, hM2⟩ := hQ
  show W p l e room_1 s m #[Value.ref b] below meth c H2 locs2 cells2 slots2 Z (F0 m 319 ls [.int r, .int r])
  refine lv_icmp_eq (tgt := 462) hx0 hb dL_law_319 (by decide) (fun _ => ?_) (fun z => absurd rfl z)
  exact kk S2 hx2 hm2 τ1 τ2 H2 locs2 cells2 slots2 hS2 hC2 hM2 okx2 okm2 ex0 (hsm 0 (List.getElem?_eq_some_iff.mp m3).1) (lj_sym J2) hS2v (by omega) (by omega)
set_option maxHeartbeats 4000000 in
set_option maxRecDepth 100000 in
theorem lw_c6 {p : Program} {l : Launch} {e : Env} {s : State} {m : MethodId} {below : List Frame} {meth : Method} {c : Code} {b L : Nat} {xs : Nat → Int32} {D : va_G} {cA : Nat → ClassId} {cs : Nat → Nat} (hL : L ≤ 2560) (hfix : CallFix p m c code 4 s #[Value.ref b] lw_tbl R_law) (hX : va_X b L xs s s.heap) (hbl : b < s.heap.size) (hK : va_K D vwCl (mi_ty cA) s) (hKs : mi_K cs (lw_A s) s) {i : Nat} (hi : i + 5 ≤ L) {Pm : Nat} {S : sT} {hx hm : mi_H} (hPm : Pm < 2 ^ 20) (hI : sI S) (hC : cR Pm S hx) (hM : mR S hm) (okx : mi_okh hx.length hx) (okm : mi_okh hm.length hm) {σ1 σ2 : Nat → Nat} {H : Heap} {locs : List Loc} (J : lj D cA cs (lw_A s) σ1 σ2 hx hm H) (hS : va_S (lw_A s) s.heap H locs) {cells slots : Nat} (hcells : cells = hx.length + hm.length) (hslots : slots = mi_sz hx + mi_sz hm) {ls : Array Slot} (hl : lv_has ls 4 [(0, .ref b), (1, .ref (σ1 0)), (2, .ref (σ2 0)), (3, .int (nI i))]) {Z : State → Prop} (kk : ∀ (S2 : sT) (hx2 hm2 : mi_H) (τ1 τ2 : Nat → Nat) (H2 : Heap) (locs2 : List Loc) (cells2 slots2 : Nat), sI S2 → cR (Pm + 1) S2 hx2 → mR S2 hm2 → mi_okh hx2.length hx2 → mi_okh hm2.length hm2 → τ1 0 = σ1 0 → τ2 0 = σ2 0 → lj D cA cs (lw_A s) τ1 τ2 hx2 hm2 H2 → va_S (lw_A s) s.heap H2 locs2 → cells2 = hx2.length + hm2.length → slots2 = mi_sz hx2 + mi_sz hm2 → W p l e room_1 s m #[Value.ref b] below meth c H2 locs2 cells2 slots2 Z (F0 m 462 ls [])) : W p l e room_1 s m #[Value.ref b] below meth c H locs cells slots Z (F0 m 324 ls []) := by
  obtain ⟨hx0, hb, hml, hown, hts⟩ := id hfix
  have hA0 : ∀ q, s.heap.size ≤ q → lw_A s q := fun _ h => h
  have hbA : ¬ lw_A s b := Nat.not_le.mpr hbl
  obtain ⟨r, S2, hS2, wx, wm⟩ := op_able (xs (nI (i + 1)).toNatClampNeg) (xs (nI (i + 2)).toNatClampNeg) Pm S hx hm hPm hI hC hM
  obtain ⟨x1, x2, fx, x3⟩ := cR_sz hI hC
  obtain ⟨m1, m2, fm, m3⟩ := mR_sz hI hM
  refine lv_aload_n hx0 hb dL_law_324 rfl (lv_at hl 1 rfl) ?_
  refine lv_aload_n hx0 hb dL_law_325 rfl (lv_at hl 0 rfl) ?_
  refine lv_iload_n hx0 hb dL_law_326 rfl (lv_at hl 3 rfl) ?_
  refine lv_iconst (v := nI 1) hx0 hb dL_law_327 (by decide) ?_
  refine lv_iadd hx0 hb dL_law_328 ?_
  rw [nI_add]
  refine va_sld hx0 hb hX hbl hbA hS (vp_in_nI (n := i + 1) (by omega) (by omega)) dL_law_329 ?_
  refine lv_aload_n hx0 hb dL_law_330 rfl (lv_at hl 0 rfl) ?_
  refine lv_iload_n hx0 hb dL_law_331 rfl (lv_at hl 3 rfl) ?_
  refine lv_iconst (v := nI 2) hx0 hb dL_law_332 (by decide) ?_
  refine lv_iadd hx0 hb dL_law_333 ?_
  rw [nI_add]
  refine va_sld hx0 hb hX hbl hbA hS (vp_in_nI (n := i + 2) (by omega) (by omega)) dL_law_334 ?_
  show W p l e room_1 s m #[Value.ref b] below meth c H locs cells slots Z (F0 m 335 ls ((List.map (mi_v σ1 cs) ([.int (xs (nI (i + 1)).toNatClampNeg), .int (xs (nI (i + 2)).toNatClampNeg)] : List Value)).reverse ++ .ref (σ1 0) :: []))
  refine lw_inv hfix hA0 hK hKs (k := 43) (Y := mi_m43) rfl rfl (idx := 40) (lw_in 291 (by decide +kernel)) x3 rfl rfl rfl (lw_ints [(xs (nI (i + 1)).toNatClampNeg), (xs (nI (i + 2)).toNatClampNeg)]) okx wx (fun r2 h2 hq => lw_room hS2 hq.2 m1 m2) J hS hcells hslots hl.1 (Nat.zero_le _) dL_law_335 (fun r2 hx2 τ1 H1 locs1 cells1 slots1 hQ okx2 hsx hlx J1 hS1 hc1 hs1 => ?_)
  obtain ⟨rfl, hC2⟩ := hQ
  have ex0 : τ1 0 = σ1 0 := hsx 0 (List.getElem?_eq_some_iff.mp x3).1
  show W p l e room_1 s m #[Value.ref b] below meth c H1 locs1 cells1 slots1 Z (F0 m 338 ls [.int r])
  refine lv_aload_n hx0 hb dL_law_338 rfl (lv_at hl 2 rfl) ?_
  refine lv_aload_n hx0 hb dL_law_339 rfl (lv_at hl 0 rfl) ?_
  refine lv_iload_n hx0 hb dL_law_340 rfl (lv_at hl 3 rfl) ?_
  refine lv_iconst (v := nI 1) hx0 hb dL_law_341 (by decide) ?_
  refine lv_iadd hx0 hb dL_law_342 ?_
  rw [nI_add]
  refine va_sld hx0 hb hX hbl hbA hS1 (vp_in_nI (n := i + 1) (by omega) (by omega)) dL_law_343 ?_
  refine lv_aload_n hx0 hb dL_law_344 rfl (lv_at hl 0 rfl) ?_
  refine lv_iload_n hx0 hb dL_law_345 rfl (lv_at hl 3 rfl) ?_
  refine lv_iconst (v := nI 2) hx0 hb dL_law_346 (by decide) ?_
  refine lv_iadd hx0 hb dL_law_347 ?_
  rw [nI_add]
  refine va_sld hx0 hb hX hbl hbA hS1 (vp_in_nI (n := i + 2) (by omega) (by omega)) dL_law_348 ?_
  show W p l e room_1 s m #[Value.ref b] below meth c H1 locs1 cells1 slots1 Z (F0 m 349 ls ((List.map (mi_v σ2 cs) ([.int (xs (nI (i + 1)).toNatClampNeg), .int (xs (nI (i + 2)).toNatClampNeg)] : List Value)).reverse ++ .ref (σ2 0) :: [.int r]))
  refine lw_inv hfix hA0 hK hKs (k := 83) (Y := mi_m83) rfl rfl (idx := 43) (lw_in 522 (by decide +kernel)) m3 rfl rfl rfl (lw_ints [(xs (nI (i + 1)).toNatClampNeg), (xs (nI (i + 2)).toNatClampNeg)]) okm wm (fun r2 h2 hq => ?_) (lj_sym J1) hS1 (by omega) (by omega) hl.1 (Nat.le_of_ble_eq_true rfl) dL_law_349 (fun r2 hm2 τ2 H2 locs2 cells2 slots2 hQ okm2 hsm hlm J2 hS2v hc2 hs2 => ?_)
  · obtain ⟨a1, a2, -⟩ := mR_sz hS2 hq.2
    obtain ⟨b1, b2, -⟩ := cR_sz hS2 hC2
    exact ⟨by omega, by omega⟩
  obtain ⟨rfl, hM2⟩ := hQ
  show W p l e room_1 s m #[Value.ref b] below meth c H2 locs2 cells2 slots2 Z (F0 m 352 ls [.int r, .int r])
  refine lv_icmp_eq (tgt := 462) hx0 hb dL_law_352 (by decide) (fun _ => ?_) (fun z => absurd rfl z)
  exact kk S2 hx2 hm2 τ1 τ2 H2 locs2 cells2 slots2 hS2 hC2 hM2 okx2 okm2 ex0 (hsm 0 (List.getElem?_eq_some_iff.mp m3).1) (lj_sym J2) hS2v (by omega) (by omega)
set_option maxHeartbeats 4000000 in
set_option maxRecDepth 100000 in
theorem lw_c7 {p : Program} {l : Launch} {e : Env} {s : State} {m : MethodId} {below : List Frame} {meth : Method} {c : Code} {b L : Nat} {xs : Nat → Int32} {D : va_G} {cA : Nat → ClassId} {cs : Nat → Nat} (hL : L ≤ 2560) (hfix : CallFix p m c code 4 s #[Value.ref b] lw_tbl R_law) (hX : va_X b L xs s s.heap) (hbl : b < s.heap.size) (hK : va_K D vwCl (mi_ty cA) s) (hKs : mi_K cs (lw_A s) s) {i : Nat} (hi : i + 5 ≤ L) {Pm : Nat} {S : sT} {hx hm : mi_H} (hPm : Pm < 2 ^ 20) (hI : sI S) (hC : cR Pm S hx) (hM : mR S hm) (okx : mi_okh hx.length hx) (okm : mi_okh hm.length hm) {σ1 σ2 : Nat → Nat} {H : Heap} {locs : List Loc} (J : lj D cA cs (lw_A s) σ1 σ2 hx hm H) (hS : va_S (lw_A s) s.heap H locs) {cells slots : Nat} (hcells : cells = hx.length + hm.length) (hslots : slots = mi_sz hx + mi_sz hm) {ls : Array Slot} (hl : lv_has ls 4 [(0, .ref b), (1, .ref (σ1 0)), (2, .ref (σ2 0)), (3, .int (nI i))]) {Z : State → Prop} (kk : ∀ (S2 : sT) (hx2 hm2 : mi_H) (τ1 τ2 : Nat → Nat) (H2 : Heap) (locs2 : List Loc) (cells2 slots2 : Nat), sI S2 → cR (Pm + 1) S2 hx2 → mR S2 hm2 → mi_okh hx2.length hx2 → mi_okh hm2.length hm2 → τ1 0 = σ1 0 → τ2 0 = σ2 0 → lj D cA cs (lw_A s) τ1 τ2 hx2 hm2 H2 → va_S (lw_A s) s.heap H2 locs2 → cells2 = hx2.length + hm2.length → slots2 = mi_sz hx2 + mi_sz hm2 → W p l e room_1 s m #[Value.ref b] below meth c H2 locs2 cells2 slots2 Z (F0 m 462 ls [])) : W p l e room_1 s m #[Value.ref b] below meth c H locs cells slots Z (F0 m 357 ls []) := by
  obtain ⟨hx0, hb, hml, hown, hts⟩ := id hfix
  have hA0 : ∀ q, s.heap.size ≤ q → lw_A s q := fun _ h => h
  have hbA : ¬ lw_A s b := Nat.not_le.mpr hbl
  obtain ⟨r, S2, hS2, wx, wm⟩ := op_chain (xs (nI (i + 1)).toNatClampNeg) Pm S hx hm hPm hI hC hM
  obtain ⟨x1, x2, fx, x3⟩ := cR_sz hI hC
  obtain ⟨m1, m2, fm, m3⟩ := mR_sz hI hM
  refine lv_aload_n hx0 hb dL_law_357 rfl (lv_at hl 1 rfl) ?_
  refine lv_aload_n hx0 hb dL_law_358 rfl (lv_at hl 0 rfl) ?_
  refine lv_iload_n hx0 hb dL_law_359 rfl (lv_at hl 3 rfl) ?_
  refine lv_iconst (v := nI 1) hx0 hb dL_law_360 (by decide) ?_
  refine lv_iadd hx0 hb dL_law_361 ?_
  rw [nI_add]
  refine va_sld hx0 hb hX hbl hbA hS (vp_in_nI (n := i + 1) (by omega) (by omega)) dL_law_362 ?_
  show W p l e room_1 s m #[Value.ref b] below meth c H locs cells slots Z (F0 m 363 ls ((List.map (mi_v σ1 cs) ([.int (xs (nI (i + 1)).toNatClampNeg)] : List Value)).reverse ++ .ref (σ1 0) :: []))
  refine lw_inv hfix hA0 hK hKs (k := 44) (Y := mi_m44) rfl rfl (idx := 44) (lw_in 295 (by decide +kernel)) x3 rfl rfl rfl (lw_ints [(xs (nI (i + 1)).toNatClampNeg)]) okx wx (fun r2 h2 hq => lw_room hS2 hq.2 m1 m2) J hS hcells hslots hl.1 (Nat.zero_le _) dL_law_363 (fun r2 hx2 τ1 H1 locs1 cells1 slots1 hQ okx2 hsx hlx J1 hS1 hc1 hs1 => ?_)
  obtain ⟨rfl, hC2⟩ := hQ
  have ex0 : τ1 0 = σ1 0 := hsx 0 (List.getElem?_eq_some_iff.mp x3).1
  show W p l e room_1 s m #[Value.ref b] below meth c H1 locs1 cells1 slots1 Z (F0 m 366 ls [.int r])
  refine lv_aload_n hx0 hb dL_law_366 rfl (lv_at hl 2 rfl) ?_
  refine lv_aload_n hx0 hb dL_law_367 rfl (lv_at hl 0 rfl) ?_
  refine lv_iload_n hx0 hb dL_law_368 rfl (lv_at hl 3 rfl) ?_
  refine lv_iconst (v := nI 1) hx0 hb dL_law_369 (by decide) ?_
  refine lv_iadd hx0 hb dL_law_370 ?_
  rw [nI_add]
  refine va_sld hx0 hb hX hbl hbA hS1 (vp_in_nI (n := i + 1) (by omega) (by omega)) dL_law_371 ?_
  show W p l e room_1 s m #[Value.ref b] below meth c H1 locs1 cells1 slots1 Z (F0 m 372 ls ((List.map (mi_v σ2 cs) ([.int (xs (nI (i + 1)).toNatClampNeg)] : List Value)).reverse ++ .ref (σ2 0) :: [.int r]))
  refine lw_inv hfix hA0 hK hKs (k := 84) (Y := mi_m84) rfl rfl (idx := 48) (lw_in 526 (by decide +kernel)) m3 rfl rfl rfl (lw_ints [(xs (nI (i + 1)).toNatClampNeg)]) okm wm (fun r2 h2 hq => ?_) (lj_sym J1) hS1 (by omega) (by omega) hl.1 (Nat.le_of_ble_eq_true rfl) dL_law_372 (fun r2 hm2 τ2 H2 locs2 cells2 slots2 hQ okm2 hsm hlm J2 hS2v hc2 hs2 => ?_)
  · obtain ⟨a1, a2, -⟩ := mR_sz hS2 hq.2
    obtain ⟨b1, b2, -⟩ := cR_sz hS2 hC2
    exact ⟨by omega, by omega⟩
  obtain ⟨rfl, hM2⟩ := hQ
  show W p l e room_1 s m #[Value.ref b] below meth c H2 locs2 cells2 slots2 Z (F0 m 375 ls [.int r, .int r])
  refine lv_icmp_eq (tgt := 462) hx0 hb dL_law_375 (by decide) (fun _ => ?_) (fun z => absurd rfl z)
  exact kk S2 hx2 hm2 τ1 τ2 H2 locs2 cells2 slots2 hS2 hC2 hM2 okx2 okm2 ex0 (hsm 0 (List.getElem?_eq_some_iff.mp m3).1) (lj_sym J2) hS2v (by omega) (by omega)
set_option maxHeartbeats 4000000 in
set_option maxRecDepth 100000 in
theorem lw_c8 {p : Program} {l : Launch} {e : Env} {s : State} {m : MethodId} {below : List Frame} {meth : Method} {c : Code} {b L : Nat} {xs : Nat → Int32} {D : va_G} {cA : Nat → ClassId} {cs : Nat → Nat} (hL : L ≤ 2560) (hfix : CallFix p m c code 4 s #[Value.ref b] lw_tbl R_law) (hX : va_X b L xs s s.heap) (hbl : b < s.heap.size) (hK : va_K D vwCl (mi_ty cA) s) (hKs : mi_K cs (lw_A s) s) {i : Nat} (hi : i + 5 ≤ L) {Pm : Nat} {S : sT} {hx hm : mi_H} (hPm : Pm < 2 ^ 20) (hI : sI S) (hC : cR Pm S hx) (hM : mR S hm) (okx : mi_okh hx.length hx) (okm : mi_okh hm.length hm) {σ1 σ2 : Nat → Nat} {H : Heap} {locs : List Loc} (J : lj D cA cs (lw_A s) σ1 σ2 hx hm H) (hS : va_S (lw_A s) s.heap H locs) {cells slots : Nat} (hcells : cells = hx.length + hm.length) (hslots : slots = mi_sz hx + mi_sz hm) {ls : Array Slot} (hl : lv_has ls 4 [(0, .ref b), (1, .ref (σ1 0)), (2, .ref (σ2 0)), (3, .int (nI i))]) {Z : State → Prop} (kk : ∀ (S2 : sT) (hx2 hm2 : mi_H) (τ1 τ2 : Nat → Nat) (H2 : Heap) (locs2 : List Loc) (cells2 slots2 : Nat), sI S2 → cR (Pm + 1) S2 hx2 → mR S2 hm2 → mi_okh hx2.length hx2 → mi_okh hm2.length hm2 → τ1 0 = σ1 0 → τ2 0 = σ2 0 → lj D cA cs (lw_A s) τ1 τ2 hx2 hm2 H2 → va_S (lw_A s) s.heap H2 locs2 → cells2 = hx2.length + hm2.length → slots2 = mi_sz hx2 + mi_sz hm2 → W p l e room_1 s m #[Value.ref b] below meth c H2 locs2 cells2 slots2 Z (F0 m 462 ls [])) : W p l e room_1 s m #[Value.ref b] below meth c H locs cells slots Z (F0 m 380 ls []) := by
  obtain ⟨hx0, hb, hml, hown, hts⟩ := id hfix
  have hA0 : ∀ q, s.heap.size ≤ q → lw_A s q := fun _ h => h
  have hbA : ¬ lw_A s b := Nat.not_le.mpr hbl
  obtain ⟨r, S2, hS2, wx, wm⟩ := op_ran  Pm S hx hm hPm hI hC hM
  obtain ⟨x1, x2, fx, x3⟩ := cR_sz hI hC
  obtain ⟨m1, m2, fm, m3⟩ := mR_sz hI hM
  refine lv_aload_n hx0 hb dL_law_380 rfl (lv_at hl 1 rfl) ?_
  show W p l e room_1 s m #[Value.ref b] below meth c H locs cells slots Z (F0 m 381 ls ((List.map (mi_v σ1 cs) ([] : List Value)).reverse ++ .ref (σ1 0) :: []))
  refine lw_inv hfix hA0 hK hKs (k := 45) (Y := mi_m45) rfl rfl (idx := 49) (lw_in 303 (by decide +kernel)) x3 rfl rfl rfl (lw_ints []) okx wx (fun r2 h2 hq => lw_room hS2 hq.2 m1 m2) J hS hcells hslots hl.1 (Nat.zero_le _) dL_law_381 (fun r2 hx2 τ1 H1 locs1 cells1 slots1 hQ okx2 hsx hlx J1 hS1 hc1 hs1 => ?_)
  obtain ⟨rfl, hC2⟩ := hQ
  have ex0 : τ1 0 = σ1 0 := hsx 0 (List.getElem?_eq_some_iff.mp x3).1
  show W p l e room_1 s m #[Value.ref b] below meth c H1 locs1 cells1 slots1 Z (F0 m 384 ls [.int r])
  refine lv_aload_n hx0 hb dL_law_384 rfl (lv_at hl 2 rfl) ?_
  show W p l e room_1 s m #[Value.ref b] below meth c H1 locs1 cells1 slots1 Z (F0 m 385 ls ((List.map (mi_v σ2 cs) ([] : List Value)).reverse ++ .ref (σ2 0) :: [.int r]))
  refine lw_inv hfix hA0 hK hKs (k := 85) (Y := mi_m85) rfl rfl (idx := 53) (lw_in 530 (by decide +kernel)) m3 rfl rfl rfl (lw_ints []) okm wm (fun r2 h2 hq => ?_) (lj_sym J1) hS1 (by omega) (by omega) hl.1 (Nat.le_of_ble_eq_true rfl) dL_law_385 (fun r2 hm2 τ2 H2 locs2 cells2 slots2 hQ okm2 hsm hlm J2 hS2v hc2 hs2 => ?_)
  · obtain ⟨a1, a2, -⟩ := mR_sz hS2 hq.2
    obtain ⟨b1, b2, -⟩ := cR_sz hS2 hC2
    exact ⟨by omega, by omega⟩
  obtain ⟨rfl, hM2⟩ := hQ
  show W p l e room_1 s m #[Value.ref b] below meth c H2 locs2 cells2 slots2 Z (F0 m 388 ls [.int r, .int r])
  refine lv_icmp_eq (tgt := 462) hx0 hb dL_law_388 (by decide) (fun _ => ?_) (fun z => absurd rfl z)
  exact kk S2 hx2 hm2 τ1 τ2 H2 locs2 cells2 slots2 hS2 hC2 hM2 okx2 okm2 ex0 (hsm 0 (List.getElem?_eq_some_iff.mp m3).1) (lj_sym J2) hS2v (by omega) (by omega)
set_option maxHeartbeats 4000000 in
set_option maxRecDepth 100000 in
theorem lw_c9 {p : Program} {l : Launch} {e : Env} {s : State} {m : MethodId} {below : List Frame} {meth : Method} {c : Code} {b L : Nat} {xs : Nat → Int32} {D : va_G} {cA : Nat → ClassId} {cs : Nat → Nat} (hL : L ≤ 2560) (hfix : CallFix p m c code 4 s #[Value.ref b] lw_tbl R_law) (hX : va_X b L xs s s.heap) (hbl : b < s.heap.size) (hK : va_K D vwCl (mi_ty cA) s) (hKs : mi_K cs (lw_A s) s) {i : Nat} (hi : i + 5 ≤ L) {Pm : Nat} {S : sT} {hx hm : mi_H} (hPm : Pm < 2 ^ 20) (hI : sI S) (hC : cR Pm S hx) (hM : mR S hm) (okx : mi_okh hx.length hx) (okm : mi_okh hm.length hm) {σ1 σ2 : Nat → Nat} {H : Heap} {locs : List Loc} (J : lj D cA cs (lw_A s) σ1 σ2 hx hm H) (hS : va_S (lw_A s) s.heap H locs) {cells slots : Nat} (hcells : cells = hx.length + hm.length) (hslots : slots = mi_sz hx + mi_sz hm) {ls : Array Slot} (hl : lv_has ls 4 [(0, .ref b), (1, .ref (σ1 0)), (2, .ref (σ2 0)), (3, .int (nI i))]) {Z : State → Prop} (kk : ∀ (S2 : sT) (hx2 hm2 : mi_H) (τ1 τ2 : Nat → Nat) (H2 : Heap) (locs2 : List Loc) (cells2 slots2 : Nat), sI S2 → cR (Pm + 1) S2 hx2 → mR S2 hm2 → mi_okh hx2.length hx2 → mi_okh hm2.length hm2 → τ1 0 = σ1 0 → τ2 0 = σ2 0 → lj D cA cs (lw_A s) τ1 τ2 hx2 hm2 H2 → va_S (lw_A s) s.heap H2 locs2 → cells2 = hx2.length + hm2.length → slots2 = mi_sz hx2 + mi_sz hm2 → W p l e room_1 s m #[Value.ref b] below meth c H2 locs2 cells2 slots2 Z (F0 m 462 ls [])) : W p l e room_1 s m #[Value.ref b] below meth c H locs cells slots Z (F0 m 393 ls []) := by
  obtain ⟨hx0, hb, hml, hown, hts⟩ := id hfix
  have hA0 : ∀ q, s.heap.size ≤ q → lw_A s q := fun _ h => h
  have hbA : ¬ lw_A s b := Nat.not_le.mpr hbl
  obtain ⟨r, S2, hS2, wx, wm⟩ := op_state (xs (nI (i + 1)).toNatClampNeg) (xs (nI (i + 2)).toNatClampNeg) Pm S hx hm hPm hI hC hM
  obtain ⟨x1, x2, fx, x3⟩ := cR_sz hI hC
  obtain ⟨m1, m2, fm, m3⟩ := mR_sz hI hM
  refine lv_aload_n hx0 hb dL_law_393 rfl (lv_at hl 1 rfl) ?_
  refine lv_aload_n hx0 hb dL_law_394 rfl (lv_at hl 0 rfl) ?_
  refine lv_iload_n hx0 hb dL_law_395 rfl (lv_at hl 3 rfl) ?_
  refine lv_iconst (v := nI 1) hx0 hb dL_law_396 (by decide) ?_
  refine lv_iadd hx0 hb dL_law_397 ?_
  rw [nI_add]
  refine va_sld hx0 hb hX hbl hbA hS (vp_in_nI (n := i + 1) (by omega) (by omega)) dL_law_398 ?_
  refine lv_aload_n hx0 hb dL_law_399 rfl (lv_at hl 0 rfl) ?_
  refine lv_iload_n hx0 hb dL_law_400 rfl (lv_at hl 3 rfl) ?_
  refine lv_iconst (v := nI 2) hx0 hb dL_law_401 (by decide) ?_
  refine lv_iadd hx0 hb dL_law_402 ?_
  rw [nI_add]
  refine va_sld hx0 hb hX hbl hbA hS (vp_in_nI (n := i + 2) (by omega) (by omega)) dL_law_403 ?_
  show W p l e room_1 s m #[Value.ref b] below meth c H locs cells slots Z (F0 m 404 ls ((List.map (mi_v σ1 cs) ([.int (xs (nI (i + 1)).toNatClampNeg), .int (xs (nI (i + 2)).toNatClampNeg)] : List Value)).reverse ++ .ref (σ1 0) :: []))
  refine lw_inv hfix hA0 hK hKs (k := 46) (Y := mi_m46) rfl rfl (idx := 54) (lw_in 307 (by decide +kernel)) x3 rfl rfl rfl (lw_ints [(xs (nI (i + 1)).toNatClampNeg), (xs (nI (i + 2)).toNatClampNeg)]) okx wx (fun r2 h2 hq => lw_room hS2 hq.2 m1 m2) J hS hcells hslots hl.1 (Nat.zero_le _) dL_law_404 (fun r2 hx2 τ1 H1 locs1 cells1 slots1 hQ okx2 hsx hlx J1 hS1 hc1 hs1 => ?_)
  obtain ⟨rfl, hC2⟩ := hQ
  have ex0 : τ1 0 = σ1 0 := hsx 0 (List.getElem?_eq_some_iff.mp x3).1
  show W p l e room_1 s m #[Value.ref b] below meth c H1 locs1 cells1 slots1 Z (F0 m 407 ls [.int r])
  refine lv_aload_n hx0 hb dL_law_407 rfl (lv_at hl 2 rfl) ?_
  refine lv_aload_n hx0 hb dL_law_408 rfl (lv_at hl 0 rfl) ?_
  refine lv_iload_n hx0 hb dL_law_409 rfl (lv_at hl 3 rfl) ?_
  refine lv_iconst (v := nI 1) hx0 hb dL_law_410 (by decide) ?_
  refine lv_iadd hx0 hb dL_law_411 ?_
  rw [nI_add]
  refine va_sld hx0 hb hX hbl hbA hS1 (vp_in_nI (n := i + 1) (by omega) (by omega)) dL_law_412 ?_
  refine lv_aload_n hx0 hb dL_law_413 rfl (lv_at hl 0 rfl) ?_
  refine lv_iload_n hx0 hb dL_law_414 rfl (lv_at hl 3 rfl) ?_
  refine lv_iconst (v := nI 2) hx0 hb dL_law_415 (by decide) ?_
  refine lv_iadd hx0 hb dL_law_416 ?_
  rw [nI_add]
  refine va_sld hx0 hb hX hbl hbA hS1 (vp_in_nI (n := i + 2) (by omega) (by omega)) dL_law_417 ?_
  show W p l e room_1 s m #[Value.ref b] below meth c H1 locs1 cells1 slots1 Z (F0 m 418 ls ((List.map (mi_v σ2 cs) ([.int (xs (nI (i + 1)).toNatClampNeg), .int (xs (nI (i + 2)).toNatClampNeg)] : List Value)).reverse ++ .ref (σ2 0) :: [.int r]))
  refine lw_inv hfix hA0 hK hKs (k := 86) (Y := mi_m86) rfl rfl (idx := 57) (lw_in 534 (by decide +kernel)) m3 rfl rfl rfl (lw_ints [(xs (nI (i + 1)).toNatClampNeg), (xs (nI (i + 2)).toNatClampNeg)]) okm wm (fun r2 h2 hq => ?_) (lj_sym J1) hS1 (by omega) (by omega) hl.1 (Nat.le_of_ble_eq_true rfl) dL_law_418 (fun r2 hm2 τ2 H2 locs2 cells2 slots2 hQ okm2 hsm hlm J2 hS2v hc2 hs2 => ?_)
  · obtain ⟨a1, a2, -⟩ := mR_sz hS2 hq.2
    obtain ⟨b1, b2, -⟩ := cR_sz hS2 hC2
    exact ⟨by omega, by omega⟩
  obtain ⟨rfl, hM2⟩ := hQ
  show W p l e room_1 s m #[Value.ref b] below meth c H2 locs2 cells2 slots2 Z (F0 m 421 ls [.int r, .int r])
  refine lv_icmp_eq (tgt := 462) hx0 hb dL_law_421 (by decide) (fun _ => ?_) (fun z => absurd rfl z)
  exact kk S2 hx2 hm2 τ1 τ2 H2 locs2 cells2 slots2 hS2 hC2 hM2 okx2 okm2 ex0 (hsm 0 (List.getElem?_eq_some_iff.mp m3).1) (lj_sym J2) hS2v (by omega) (by omega)
set_option maxHeartbeats 4000000 in
set_option maxRecDepth 100000 in
theorem lw_c10 {p : Program} {l : Launch} {e : Env} {s : State} {m : MethodId} {below : List Frame} {meth : Method} {c : Code} {b L : Nat} {xs : Nat → Int32} {D : va_G} {cA : Nat → ClassId} {cs : Nat → Nat} (hL : L ≤ 2560) (hfix : CallFix p m c code 4 s #[Value.ref b] lw_tbl R_law) (hX : va_X b L xs s s.heap) (hbl : b < s.heap.size) (hK : va_K D vwCl (mi_ty cA) s) (hKs : mi_K cs (lw_A s) s) {i : Nat} (hi : i + 5 ≤ L) {Pm : Nat} {S : sT} {hx hm : mi_H} (hPm : Pm < 2 ^ 20) (hI : sI S) (hC : cR Pm S hx) (hM : mR S hm) (okx : mi_okh hx.length hx) (okm : mi_okh hm.length hm) {σ1 σ2 : Nat → Nat} {H : Heap} {locs : List Loc} (J : lj D cA cs (lw_A s) σ1 σ2 hx hm H) (hS : va_S (lw_A s) s.heap H locs) {cells slots : Nat} (hcells : cells = hx.length + hm.length) (hslots : slots = mi_sz hx + mi_sz hm) {ls : Array Slot} (hl : lv_has ls 4 [(0, .ref b), (1, .ref (σ1 0)), (2, .ref (σ2 0)), (3, .int (nI i))]) {Z : State → Prop} (kk : ∀ (S2 : sT) (hx2 hm2 : mi_H) (τ1 τ2 : Nat → Nat) (H2 : Heap) (locs2 : List Loc) (cells2 slots2 : Nat), sI S2 → cR (Pm + 1) S2 hx2 → mR S2 hm2 → mi_okh hx2.length hx2 → mi_okh hm2.length hm2 → τ1 0 = σ1 0 → τ2 0 = σ2 0 → lj D cA cs (lw_A s) τ1 τ2 hx2 hm2 H2 → va_S (lw_A s) s.heap H2 locs2 → cells2 = hx2.length + hm2.length → slots2 = mi_sz hx2 + mi_sz hm2 → W p l e room_1 s m #[Value.ref b] below meth c H2 locs2 cells2 slots2 Z (F0 m 462 ls [])) : W p l e room_1 s m #[Value.ref b] below meth c H locs cells slots Z (F0 m 426 ls []) := by
  obtain ⟨hx0, hb, hml, hown, hts⟩ := id hfix
  have hA0 : ∀ q, s.heap.size ≤ q → lw_A s q := fun _ h => h
  have hbA : ¬ lw_A s b := Nat.not_le.mpr hbl
  obtain ⟨r, S2, hS2, wx, wm⟩ := op_size (xs (nI (i + 1)).toNatClampNeg) Pm S hx hm hPm hI hC hM
  obtain ⟨x1, x2, fx, x3⟩ := cR_sz hI hC
  obtain ⟨m1, m2, fm, m3⟩ := mR_sz hI hM
  refine lv_aload_n hx0 hb dL_law_426 rfl (lv_at hl 1 rfl) ?_
  refine lv_aload_n hx0 hb dL_law_427 rfl (lv_at hl 0 rfl) ?_
  refine lv_iload_n hx0 hb dL_law_428 rfl (lv_at hl 3 rfl) ?_
  refine lv_iconst (v := nI 1) hx0 hb dL_law_429 (by decide) ?_
  refine lv_iadd hx0 hb dL_law_430 ?_
  rw [nI_add]
  refine va_sld hx0 hb hX hbl hbA hS (vp_in_nI (n := i + 1) (by omega) (by omega)) dL_law_431 ?_
  show W p l e room_1 s m #[Value.ref b] below meth c H locs cells slots Z (F0 m 432 ls ((List.map (mi_v σ1 cs) ([.int (xs (nI (i + 1)).toNatClampNeg)] : List Value)).reverse ++ .ref (σ1 0) :: []))
  refine lw_inv hfix hA0 hK hKs (k := 47) (Y := mi_m47) rfl rfl (idx := 58) (lw_in 318 (by decide +kernel)) x3 rfl rfl rfl (lw_ints [(xs (nI (i + 1)).toNatClampNeg)]) okx wx (fun r2 h2 hq => lw_room hS2 hq.2 m1 m2) J hS hcells hslots hl.1 (Nat.zero_le _) dL_law_432 (fun r2 hx2 τ1 H1 locs1 cells1 slots1 hQ okx2 hsx hlx J1 hS1 hc1 hs1 => ?_)
  obtain ⟨rfl, hC2⟩ := hQ
  have ex0 : τ1 0 = σ1 0 := hsx 0 (List.getElem?_eq_some_iff.mp x3).1
  show W p l e room_1 s m #[Value.ref b] below meth c H1 locs1 cells1 slots1 Z (F0 m 435 ls [.int r])
  refine lv_aload_n hx0 hb dL_law_435 rfl (lv_at hl 2 rfl) ?_
  refine lv_aload_n hx0 hb dL_law_436 rfl (lv_at hl 0 rfl) ?_
  refine lv_iload_n hx0 hb dL_law_437 rfl (lv_at hl 3 rfl) ?_
  refine lv_iconst (v := nI 1) hx0 hb dL_law_438 (by decide) ?_
  refine lv_iadd hx0 hb dL_law_439 ?_
  rw [nI_add]
  refine va_sld hx0 hb hX hbl hbA hS1 (vp_in_nI (n := i + 1) (by omega) (by omega)) dL_law_440 ?_
  show W p l e room_1 s m #[Value.ref b] below meth c H1 locs1 cells1 slots1 Z (F0 m 441 ls ((List.map (mi_v σ2 cs) ([.int (xs (nI (i + 1)).toNatClampNeg)] : List Value)).reverse ++ .ref (σ2 0) :: [.int r]))
  refine lw_inv hfix hA0 hK hKs (k := 87) (Y := mi_m87) rfl rfl (idx := 61) (lw_in 538 (by decide +kernel)) m3 rfl rfl rfl (lw_ints [(xs (nI (i + 1)).toNatClampNeg)]) okm wm (fun r2 h2 hq => ?_) (lj_sym J1) hS1 (by omega) (by omega) hl.1 (Nat.le_of_ble_eq_true rfl) dL_law_441 (fun r2 hm2 τ2 H2 locs2 cells2 slots2 hQ okm2 hsm hlm J2 hS2v hc2 hs2 => ?_)
  · obtain ⟨a1, a2, -⟩ := mR_sz hS2 hq.2
    obtain ⟨b1, b2, -⟩ := cR_sz hS2 hC2
    exact ⟨by omega, by omega⟩
  obtain ⟨rfl, hM2⟩ := hQ
  show W p l e room_1 s m #[Value.ref b] below meth c H2 locs2 cells2 slots2 Z (F0 m 444 ls [.int r, .int r])
  refine lv_icmp_eq (tgt := 462) hx0 hb dL_law_444 (by decide) (fun _ => ?_) (fun z => absurd rfl z)
  exact kk S2 hx2 hm2 τ1 τ2 H2 locs2 cells2 slots2 hS2 hC2 hM2 okx2 okm2 ex0 (hsm 0 (List.getElem?_eq_some_iff.mp m3).1) (lj_sym J2) hS2v (by omega) (by omega)
set_option maxHeartbeats 4000000 in
set_option maxRecDepth 100000 in
theorem lw_c11 {p : Program} {l : Launch} {e : Env} {s : State} {m : MethodId} {below : List Frame} {meth : Method} {c : Code} {b L : Nat} {xs : Nat → Int32} {D : va_G} {cA : Nat → ClassId} {cs : Nat → Nat} (hL : L ≤ 2560) (hfix : CallFix p m c code 4 s #[Value.ref b] lw_tbl R_law) (hX : va_X b L xs s s.heap) (hbl : b < s.heap.size) (hK : va_K D vwCl (mi_ty cA) s) (hKs : mi_K cs (lw_A s) s) {i : Nat} (hi : i + 5 ≤ L) {Pm : Nat} {S : sT} {hx hm : mi_H} (hPm : Pm < 2 ^ 20) (hI : sI S) (hC : cR Pm S hx) (hM : mR S hm) (okx : mi_okh hx.length hx) (okm : mi_okh hm.length hm) {σ1 σ2 : Nat → Nat} {H : Heap} {locs : List Loc} (J : lj D cA cs (lw_A s) σ1 σ2 hx hm H) (hS : va_S (lw_A s) s.heap H locs) {cells slots : Nat} (hcells : cells = hx.length + hm.length) (hslots : slots = mi_sz hx + mi_sz hm) {ls : Array Slot} (hl : lv_has ls 4 [(0, .ref b), (1, .ref (σ1 0)), (2, .ref (σ2 0)), (3, .int (nI i))]) {Z : State → Prop} (kk : ∀ (S2 : sT) (hx2 hm2 : mi_H) (τ1 τ2 : Nat → Nat) (H2 : Heap) (locs2 : List Loc) (cells2 slots2 : Nat), sI S2 → cR (Pm + 1) S2 hx2 → mR S2 hm2 → mi_okh hx2.length hx2 → mi_okh hm2.length hm2 → τ1 0 = σ1 0 → τ2 0 = σ2 0 → lj D cA cs (lw_A s) τ1 τ2 hx2 hm2 H2 → va_S (lw_A s) s.heap H2 locs2 → cells2 = hx2.length + hm2.length → slots2 = mi_sz hx2 + mi_sz hm2 → W p l e room_1 s m #[Value.ref b] below meth c H2 locs2 cells2 slots2 Z (F0 m 462 ls [])) : W p l e room_1 s m #[Value.ref b] below meth c H locs cells slots Z (F0 m 449 ls []) := by
  obtain ⟨hx0, hb, hml, hown, hts⟩ := id hfix
  have hA0 : ∀ q, s.heap.size ≤ q → lw_A s q := fun _ h => h
  have hbA : ¬ lw_A s b := Nat.not_le.mpr hbl
  obtain ⟨r, S2, hS2, wx, wm⟩ := op_status  Pm S hx hm hPm hI hC hM
  obtain ⟨x1, x2, fx, x3⟩ := cR_sz hI hC
  obtain ⟨m1, m2, fm, m3⟩ := mR_sz hI hM
  refine lv_aload_n hx0 hb dL_law_449 rfl (lv_at hl 1 rfl) ?_
  show W p l e room_1 s m #[Value.ref b] below meth c H locs cells slots Z (F0 m 450 ls ((List.map (mi_v σ1 cs) ([] : List Value)).reverse ++ .ref (σ1 0) :: []))
  refine lw_inv hfix hA0 hK hKs (k := 48) (Y := mi_m48) rfl rfl (idx := 62) (lw_in 326 (by decide +kernel)) x3 rfl rfl rfl (lw_ints []) okx wx (fun r2 h2 hq => lw_room hS2 hq.2 m1 m2) J hS hcells hslots hl.1 (Nat.zero_le _) dL_law_450 (fun r2 hx2 τ1 H1 locs1 cells1 slots1 hQ okx2 hsx hlx J1 hS1 hc1 hs1 => ?_)
  obtain ⟨rfl, hC2⟩ := hQ
  have ex0 : τ1 0 = σ1 0 := hsx 0 (List.getElem?_eq_some_iff.mp x3).1
  show W p l e room_1 s m #[Value.ref b] below meth c H1 locs1 cells1 slots1 Z (F0 m 453 ls [.int r])
  refine lv_aload_n hx0 hb dL_law_453 rfl (lv_at hl 2 rfl) ?_
  show W p l e room_1 s m #[Value.ref b] below meth c H1 locs1 cells1 slots1 Z (F0 m 454 ls ((List.map (mi_v σ2 cs) ([] : List Value)).reverse ++ .ref (σ2 0) :: [.int r]))
  refine lw_inv hfix hA0 hK hKs (k := 88) (Y := mi_m88) rfl rfl (idx := 65) (lw_in 542 (by decide +kernel)) m3 rfl rfl rfl (lw_ints []) okm wm (fun r2 h2 hq => ?_) (lj_sym J1) hS1 (by omega) (by omega) hl.1 (Nat.le_of_ble_eq_true rfl) dL_law_454 (fun r2 hm2 τ2 H2 locs2 cells2 slots2 hQ okm2 hsm hlm J2 hS2v hc2 hs2 => ?_)
  · obtain ⟨a1, a2, -⟩ := mR_sz hS2 hq.2
    obtain ⟨b1, b2, -⟩ := cR_sz hS2 hC2
    exact ⟨by omega, by omega⟩
  obtain ⟨rfl, hM2⟩ := hQ
  show W p l e room_1 s m #[Value.ref b] below meth c H2 locs2 cells2 slots2 Z (F0 m 457 ls [.int r, .int r])
  refine lv_icmp_eq (tgt := 462) hx0 hb dL_law_457 (by decide) (fun _ => ?_) (fun z => absurd rfl z)
  exact kk S2 hx2 hm2 τ1 τ2 H2 locs2 cells2 slots2 hS2 hC2 hM2 okx2 okm2 ex0 (hsm 0 (List.getElem?_eq_some_iff.mp m3).1) (lj_sym J2) hS2v (by omega) (by omega)
