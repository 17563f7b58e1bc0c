/-! THE LAW: its loop (the first rows: SKELETON.whole, a starting text) -/
def lw_P (b : Addr) (xs : List Int32) (args : Array Value) (s : State) : Prop := args = #[.ref b] ∧ s.IntsAt b xs ∧ xs.length ≤ 2560 ∧ (Jvm.Cond.and given_1 narrow_1).before args s = true
def lw_Q (_ : Array Value) (s : State) (o : Outcome) (t : State) : Prop := o = .returned (some (.int 1)) ∧ Framed s o t [] 600000 7302250
def lw_Z (below : List Frame) (a : Array Value) (s : State) : State → Prop := fun t => ∃ o, t.status = .running ∧ Ended t below o ∧ lw_Q a s o t
/-- the law's own end, with 1 on the stack, nothing written that was there before, its room as the claim has it -/
theorem lw_ret {p : Program} {l : Launch} {e : Env} {s : State} {m : MethodId} {below : List Frame} {meth : Method} {c : Code} {b : Nat} (hx : p.tables.exec = Jvm.exec) (hb : c.code = code) (hr : meth.sig.returnType = ret) (hlocks : meth.locks = false) {pc : Nat} {H : Heap} {ls : Array Slot} (hdg : decode code pc = .ok (.ireturn, 1)) : W p l e room_1 s m #[Value.ref b] below meth c H [] 600000 7302250 (lw_Z below #[Value.ref b] s) (F0 m pc ls [.int 1]) := by
  intro T hT X
  obtain ⟨fs, hret, hrun, hended, hW, hframe⟩ := X.leave (v := some (.int 1)) (hlocks := hlocks) (fun h => by rw [hr] at h; cases h)
  have hmeth' : T.vm.method? m = some meth := X.method'
  refine ⟨T.setFrames fs, ?_, .returned (some (.int 1)), hrun, hended, rfl, ⟨_, rfl⟩, hW, hframe⟩
  jvm_step X.here [X.here.top, hx, hb, hdg, hmeth', hr, ret, narrow_b1]
  (try refine ⟨rfl, ?_⟩); (try refine ⟨rfl, ?_⟩)
  first | (intro acts; rw [hret _ acts rfl rfl rfl]) | rw [hret _ _ rfl rfl rfl]
  exact Steps.refl _
/-- what holds at the law's entry: the machine, the code, the tables' words (any of lw_tbl by 'hts w (by decide +kernel)'), the script of L ints xs at the cell b, what the Statement gives of the start (any of its parts by flat_of_before) -/
def lw_At (p : Program) (s : State) (m : MethodId) (meth : Method) (c : Code) (b L : Nat) (xs : Nat → Int32) : Prop :=
  p.tables.exec = Jvm.exec ∧ c.code = code ∧ meth.sig.returnType = ret ∧ c.maxLocals = 4 ∧ s.vm.findClass R_law = some m.cls ∧ (∀ w ∈ lw_tbl, w.before #[Value.ref b] s = true) ∧ va_X b L xs s s.heap ∧ b < s.heap.size ∧ meth.locks = false ∧ (Jvm.Cond.and given_1 narrow_1).before #[Value.ref b] s = true
theorem tl15 (X : Int32) : ∃ t, t < 16 ∧ X &&& 15 = nI t := by
  refine ⟨(X &&& 15).toBitVec.toNat, ?_, ?_⟩
  · have : (X &&& 15).toBitVec.toNat = X.toBitVec.toNat &&& 15 := by
      rw [Int32.toBitVec_and, BitVec.toNat_and]
      rfl
    rw [this]
    exact Nat.lt_succ_of_le Nat.and_le_right
  · apply Int32.toBitVec_inj.mp
    show (X &&& 15).toBitVec = BitVec.ofNat 32 _
    simp
theorem lw_lt {L i : Nat} (hL : L ≤ 2560) (hi : i ≤ L) (h : ¬ (nI L - 5 < nI i)) : i + 5 ≤ L := by
  rw [Int32.lt_iff_toInt_lt, nI_toInt (n := i) (by omega)] at h
  by_cases h5 : 5 ≤ L
  · obtain ⟨k, rfl⟩ : ∃ k, L = k + 5 := ⟨L - 5, by omega⟩
    have e : nI (k + 5) - 5 = nI k := by
      rw [← nI_add k 5]
      exact Int32.add_sub_cancel (nI k) 5
    rw [e, nI_toInt (by omega)] at h
    omega
  · exfalso
    match L, h5, h with
    | 0, _, h => exact h (Int.lt_of_lt_of_le (show (nI 0 - 5).toInt < 0 by decide) (Int.natCast_nonneg i))
    | 1, _, h => exact h (Int.lt_of_lt_of_le (show (nI 1 - 5).toInt < 0 by decide) (Int.natCast_nonneg i))
    | 2, _, h => exact h (Int.lt_of_lt_of_le (show (nI 2 - 5).toInt < 0 by decide) (Int.natCast_nonneg i))
    | 3, _, h => exact h (Int.lt_of_lt_of_le (show (nI 3 - 5).toInt < 0 by decide) (Int.natCast_nonneg i))
    | 4, _, h => exact h (Int.lt_of_lt_of_le (show (nI 4 - 5).toInt < 0 by decide) (Int.natCast_nonneg i))
    | k + 5, h5, _ => exact h5 (by omega)
set_option maxHeartbeats 4000000 in
set_option maxRecDepth 100000 in
theorem lw_sw {p : Program} {l : Launch} {e : Env} {s : State} {m : MethodId} {below : List Frame} {meth : Method} {c : Code} {b L : Nat} {xs : Nat → Int32} {D : va_G} {cA : Nat → ClassId} {cs : Nat → Nat} (hL : L ≤ 2560) (hfix : CallFix p m c code 4 s #[Value.ref b] lw_tbl R_law) (hX : va_X b L xs s s.heap) (hbl : b < s.heap.size) (hK : va_K D vwCl (mi_ty cA) s) (hKs : mi_K cs (lw_A s) s) {i : Nat} (hi : i + 5 ≤ L) {Pm : Nat} {S : sT} {hx hm : mi_H} (hPm : Pm < 2 ^ 20) (hI : sI S) (hC : cR Pm S hx) (hM : mR S hm) (okx : mi_okh hx.length hx) (okm : mi_okh hm.length hm) {σ1 σ2 : Nat → Nat} {H : Heap} {locs : List Loc} (J : lj D cA cs (lw_A s) σ1 σ2 hx hm H) (hS : va_S (lw_A s) s.heap H locs) {cells slots : Nat} (hcells : cells = hx.length + hm.length) (hslots : slots = mi_sz hx + mi_sz hm) {ls : Array Slot} (hl : lv_has ls 4 [(0, .ref b), (1, .ref (σ1 0)), (2, .ref (σ2 0)), (3, .int (nI i))]) {Z : State → Prop} (kk : ∀ (P2 : Nat) (S2 : sT) (hx2 hm2 : mi_H) (τ1 τ2 : Nat → Nat) (H2 : Heap) (locs2 : List Loc) (cells2 slots2 : Nat), P2 ≤ Pm + 1 → sI S2 → cR P2 S2 hx2 → mR S2 hm2 → mi_okh hx2.length hx2 → mi_okh hm2.length hm2 → τ1 0 = σ1 0 → τ2 0 = σ2 0 → lj D cA cs (lw_A s) τ1 τ2 hx2 hm2 H2 → va_S (lw_A s) s.heap H2 locs2 → cells2 = hx2.length + hm2.length → slots2 = mi_sz hx2 + mi_sz hm2 → W p l e room_1 s m #[Value.ref b] below meth c H2 locs2 cells2 slots2 Z (F0 m 462 ls [])) : W p l e room_1 s m #[Value.ref b] below meth c H locs cells slots Z (F0 m 26 ls []) := by
  obtain ⟨hx0, hb, hml, hown, hts⟩ := id hfix
  have hbA : ¬ lw_A s b := Nat.not_le.mpr hbl
  refine lv_aload_n hx0 hb dL_law_26 rfl (lv_at hl 0 rfl) ?_
  refine lv_iload_n hx0 hb dL_law_27 rfl (lv_at hl 3 rfl) ?_
  refine va_sld hx0 hb hX hbl hbA hS (vp_in_nI (n := i) (by omega) (by omega)) dL_law_28 ?_
  refine lv_bipush (v := 15) hx0 hb dL_law_29 (by decide) ?_
  refine lv_iand hx0 hb dL_law_31 ?_
  obtain ⟨t, ht, et⟩ := tl15 (xs (nI i).toNatClampNeg)
  rw [et]
  have k1 := kk (Pm + 1)
  have k0 := kk Pm S hx hm σ1 σ2 H locs cells slots (Nat.le_succ Pm) hI hC hM okx okm rfl rfl J hS hcells hslots
  match t, ht with
  | 0, _ => exact lv_tableIn (off := 64) (tgt := 96) hx0 hb dL_law_32 (by decide) (by decide) (by decide +kernel) (by decide) (lw_c0 hL hfix hX hbl hK hKs hi hPm hI hC hM okx okm J hS hcells hslots hl (fun S2 hx2 hm2 τ1 τ2 H2 locs2 cells2 slots2 => k1 S2 hx2 hm2 τ1 τ2 H2 locs2 cells2 slots2 (Nat.le_refl _)))
  | 1, _ => exact lv_tableIn (off := 97) (tgt := 129) hx0 hb dL_law_32 (by decide) (by decide) (by decide +kernel) (by decide) (lw_c1 hL hfix hX hbl hK hKs hi hPm hI hC hM okx okm J hS hcells hslots hl (fun S2 hx2 hm2 τ1 τ2 H2 locs2 cells2 slots2 => k1 S2 hx2 hm2 τ1 τ2 H2 locs2 cells2 slots2 (Nat.le_refl _)))
  | 2, _ => exact lv_tableIn (off := 150) (tgt := 182) hx0 hb dL_law_32 (by decide) (by decide) (by decide +kernel) (by decide) (lw_c2 hL hfix hX hbl hK hKs hi hPm hI hC hM okx okm J hS hcells hslots hl (fun S2 hx2 hm2 τ1 τ2 H2 locs2 cells2 slots2 => k1 S2 hx2 hm2 τ1 τ2 H2 locs2 cells2 slots2 (Nat.le_refl _)))
  | 3, _ => exact lv_tableIn (off := 193) (tgt := 225) hx0 hb dL_law_32 (by decide) (by decide) (by decide +kernel) (by decide) (lw_c3 hL hfix hX hbl hK hKs hi hPm hI hC hM okx okm J hS hcells hslots hl (fun S2 hx2 hm2 τ1 τ2 H2 locs2 cells2 slots2 => k1 S2 hx2 hm2 τ1 τ2 H2 locs2 cells2 slots2 (Nat.le_refl _)))
  | 4, _ => exact lv_tableIn (off := 226) (tgt := 258) hx0 hb dL_law_32 (by decide) (by decide) (by decide +kernel) (by decide) (lw_c4 hL hfix hX hbl hK hKs hi hPm hI hC hM okx okm J hS hcells hslots hl (fun S2 hx2 hm2 τ1 τ2 H2 locs2 cells2 slots2 => k1 S2 hx2 hm2 τ1 τ2 H2 locs2 cells2 slots2 (Nat.le_refl _)))
  | 5, _ => exact lv_tableIn (off := 259) (tgt := 291) hx0 hb dL_law_32 (by decide) (by decide) (by decide +kernel) (by decide) (lw_c5 hL hfix hX hbl hK hKs hi hPm hI hC hM okx okm J hS hcells hslots hl (fun S2 hx2 hm2 τ1 τ2 H2 locs2 cells2 slots2 => k1 S2 hx2 hm2 τ1 τ2 H2 locs2 cells2 slots2 (Nat.le_refl _)))
  | 6, _ => exact lv_tableIn (off := 292) (tgt := 324) hx0 hb dL_law_32 (by decide) (by decide) (by decide +kernel) (by decide) (lw_c6 hL hfix hX hbl hK hKs hi hPm hI hC hM okx okm J hS hcells hslots hl (fun S2 hx2 hm2 τ1 τ2 H2 locs2 cells2 slots2 => k1 S2 hx2 hm2 τ1 τ2 H2 locs2 cells2 slots2 (Nat.le_refl _)))
  | 7, _ => exact lv_tableIn (off := 325) (tgt := 357) hx0 hb dL_law_32 (by decide) (by decide) (by decide +kernel) (by decide) (lw_c7 hL hfix hX hbl hK hKs hi hPm hI hC hM okx okm J hS hcells hslots hl (fun S2 hx2 hm2 τ1 τ2 H2 locs2 cells2 slots2 => k1 S2 hx2 hm2 τ1 τ2 H2 locs2 cells2 slots2 (Nat.le_refl _)))
  | 8, _ => exact lv_tableIn (off := 348) (tgt := 380) hx0 hb dL_law_32 (by decide) (by decide) (by decide +kernel) (by decide) (lw_c8 hL hfix hX hbl hK hKs hi hPm hI hC hM okx okm J hS hcells hslots hl (fun S2 hx2 hm2 τ1 τ2 H2 locs2 cells2 slots2 => k1 S2 hx2 hm2 τ1 τ2 H2 locs2 cells2 slots2 (Nat.le_refl _)))
  | 9, _ => exact lv_tableIn (off := 361) (tgt := 393) hx0 hb dL_law_32 (by decide) (by decide) (by decide +kernel) (by decide) (lw_c9 hL hfix hX hbl hK hKs hi hPm hI hC hM okx okm J hS hcells hslots hl (fun S2 hx2 hm2 τ1 τ2 H2 locs2 cells2 slots2 => k1 S2 hx2 hm2 τ1 τ2 H2 locs2 cells2 slots2 (Nat.le_refl _)))
  | 10, _ => exact lv_tableIn (off := 394) (tgt := 426) hx0 hb dL_law_32 (by decide) (by decide) (by decide +kernel) (by decide) (lw_c10 hL hfix hX hbl hK hKs hi hPm hI hC hM okx okm J hS hcells hslots hl (fun S2 hx2 hm2 τ1 τ2 H2 locs2 cells2 slots2 => k1 S2 hx2 hm2 τ1 τ2 H2 locs2 cells2 slots2 (Nat.le_refl _)))
  | 11, _ => exact lv_tableIn (off := 417) (tgt := 449) hx0 hb dL_law_32 (by decide) (by decide) (by decide +kernel) (by decide) (lw_c11 hL hfix hX hbl hK hKs hi hPm hI hC hM okx okm J hS hcells hslots hl (fun S2 hx2 hm2 τ1 τ2 H2 locs2 cells2 slots2 => k1 S2 hx2 hm2 τ1 τ2 H2 locs2 cells2 slots2 (Nat.le_refl _)))
  | 12, _ => exact lv_tableOut (tgt := 462) hx0 hb dL_law_32 (by decide) (by decide) k0
  | 13, _ => exact lv_tableOut (tgt := 462) hx0 hb dL_law_32 (by decide) (by decide) k0
  | 14, _ => exact lv_tableOut (tgt := 462) hx0 hb dL_law_32 (by decide) (by decide) k0
  | 15, _ => exact lv_tableOut (tgt := 462) hx0 hb dL_law_32 (by decide) (by decide) k0
  | t + 16, ht => exact absurd ht (by omega)
set_option maxHeartbeats 4000000 in
set_option maxRecDepth 100000 in
theorem lw_loop {p : Program} {l : Launch} {e : Env} {s : State} {m : MethodId} {below : List Frame} {meth : Method} {c : Code} {b L : Nat} {xs : Nat → Int32} {D : va_G} {cA : Nat → ClassId} {cs : Nat → Nat} (hL : L ≤ 2560) (C0 : lw_At p s m meth c b L xs) (hK : va_K D vwCl (mi_ty cA) s) (hKs : mi_K cs (lw_A s) s) : ∀ (n i Pm : Nat) (S : sT) (hx hm : mi_H) (σ1 σ2 : Nat → Nat) (H : Heap) (locs : List Loc) (cells slots : Nat) (ls : Array Slot), L + 1 ≤ i + n → i ≤ L → Pm ≤ i → sI S → cR Pm S hx → mR S hm → mi_okh hx.length hx → mi_okh hm.length hm → lj D cA cs (lw_A s) σ1 σ2 hx hm H → va_S (lw_A s) s.heap H locs → cells = hx.length + hm.length → slots = mi_sz hx + mi_sz hm → lv_has ls 4 [(0, .ref b), (1, .ref (σ1 0)), (2, .ref (σ2 0)), (3, .int (nI i))] → W p l e room_1 s m #[Value.ref b] below meth c H locs cells slots (lw_Z below #[Value.ref b] s) (F0 m 18 ls []) := by
  obtain ⟨hx0, hb, hr, hml, hown, hts, hX, hbl, hlocks, hgv⟩ := id C0
  have hfix : CallFix p m c code 4 s #[Value.ref b] lw_tbl R_law := ⟨hx0, hb, hml, hown, hts⟩
  have hbA : ¬ lw_A s b := Nat.not_le.mpr hbl
  intro n
  induction n with
  | zero => exact fun i Pm S hx hm σ1 σ2 H locs cells slots ls h1 h2 => absurd h1 (by omega)
  | succ n ih =>
    intro i Pm S hx hm σ1 σ2 H locs cells slots ls hn hi hPm hI hC hM okx okm J hS hcells hslots hl
    refine lv_iload_n hx0 hb dL_law_18 rfl (lv_at hl 3 rfl) ?_
    refine lv_aload_n hx0 hb dL_law_19 rfl (lv_at hl 0 rfl) ?_
    refine va_slen hx0 hb hX hbl hbA hS dL_law_20 ?_
    refine lv_iconst (v := 5) hx0 hb dL_law_21 (by decide) ?_
    refine lv_isub hx0 hb dL_law_22 ?_
    refine lv_icmp_gt (tgt := 468) hx0 hb dL_law_23 (by decide) (fun _ => ?_) (fun hlt => ?_)
    · refine lv_iconst (v := 1) hx0 hb dL_law_468 (by decide) ?_
      refine va_forget (fun q hq => hS.2.2 q hq) ?_
      obtain ⟨m1, m2, -⟩ := mR_sz hI hM
      obtain ⟨r1, r2⟩ := lw_room hI hC m1 m2
      refine W.widen (k := 600000) (n := 7302250) (by omega) (by omega) ?_
      exact lw_ret hx0 hb hr hlocks dL_law_469
    · have hi5 : i + 5 ≤ L := lw_lt hL hi hlt
      refine lw_sw hL hfix hX hbl hK hKs hi5 (by omega) hI hC hM okx okm J hS hcells hslots hl (fun P2 S2 hx2 hm2 τ1 τ2 H2 locs2 cells2 slots2 hP2 hI2 hC2 hM2 okx2 okm2 e1 e2 J2 hS2 hc2 hs2 => ?_)
      refine lv_iinc (k := 3) (v := nI (i + 5)) (lv' := [(3, .int (nI (i + 5))), (0, .ref b), (1, .ref (σ1 0)), (2, .ref (σ2 0))]) hx0 hb dL_law_462 hl rfl (nI_add i 5) (by decide) rfl (fun ls2 hl2 => ?_)
      refine lv_goto (tgt := 18) hx0 hb dL_law_465 (by decide) ?_
      have hl3 : lv_has ls2 4 [(0, .ref b), (1, .ref (τ1 0)), (2, .ref (τ2 0)), (3, .int (nI (i + 5)))] := by
        rw [e1, e2]
        exact lv_sub hl2 [1, 2, 3, 0] rfl
      exact ih (i + 5) P2 S2 hx2 hm2 τ1 τ2 H2 locs2 cells2 slots2 ls2 (by omega) (by omega) (by omega) hI2 hC2 hM2 okx2 okm2 J2 hS2 hc2 hs2 hl3
