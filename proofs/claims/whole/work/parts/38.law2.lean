/-! THE LAW: what of the machine stands at its entry -/
def lw_A (s : State) : Nat → Prop := fun q => s.heap.size ≤ q
def lw_el (n : String) (xs : List Int32) : List Jvm.Cond := (List.range xs.length).map (fun j => Jvm.Cond.eq (.elem (.static RX2 n "[I") (.int (Int32.ofNat j))) (.int (xs.getD j 0)))
theorem lw_in {w : Jvm.Cond} (i : Nat) (h : tables_1[i]? = some w) : w ∈ lw_tbl := List.mem_append_right _ (List.mem_of_getElem? h)
set_option maxRecDepth 100000 in
theorem lw_st1 {s : State} {b : Nat} (hts : ∀ w ∈ lw_tbl, w.before #[Value.ref b] s = true) (hgv : (Jvm.Cond.and given_1 narrow_1).before #[Value.ref b] s = true) (n : String) (xs : List Int32) (o : Nat) (he : ((flatC (Jvm.Cond.and given_1 narrow_1)).drop o).take xs.length = lw_el n xs) (harr : (flatC (Jvm.Cond.and given_1 narrow_1))[o - 2]? = some (Jvm.Cond.arrayOf (.static RX2 n "[I") .int)) (hlen : (flatC (Jvm.Cond.and given_1 narrow_1))[o - 1]? = some (Jvm.Cond.eq (.length (.static RX2 n "[I")) (.int (Int32.ofNat xs.length)))) (hl : Jvm.Cond.laysStatic RX2 n "[I" ∈ lw_tbl) (hN : xs.length < 2 ^ 31) :
  ∃ t : Nat, va_Z RX2 n "[I" (.ref t) (lw_A s) s s.heap ∧ va_T .int t xs.length (fun i => .int (xs.getD i 0)) (lw_A s) s s.heap := by
  have hs := flat_of_before _ hgv
  have hA : ∀ a : Nat, a < s.heap.size → ¬ lw_A s a := fun a h1 h2 => absurd h1 (Nat.not_lt.mpr h2)
  obtain ⟨t, h1, h2⟩ := va_Tof (tm := .static RX2 n "[I") (ty := .int) (N := xs.length) (f := fun i => .int (xs.getD i 0)) hN (hs _ (List.mem_of_getElem? harr)) (va_eqt (hs _ (List.mem_of_getElem? hlen))) (fun j hj => va_eqt (hs _ (by
    have : Jvm.Cond.eq (.elem (.static RX2 n "[I") (.int (Int32.ofNat j))) (.int (xs.getD j 0)) ∈ lw_el n xs := List.mem_map.mpr ⟨j, List.mem_range.mpr hj, rfl⟩
    rw [← he] at this
    exact List.mem_of_mem_drop (List.mem_of_mem_take this)))) hA
  exact ⟨t, va_Zref (hts _ hl) (hts _ (lw_in 3 (by decide +kernel))) h1 hA, h2⟩
set_option maxRecDepth 100000 in
theorem lw_e0 : ((flatC (Jvm.Cond.and given_1 narrow_1)).drop 7).take ((mi_Sv.getD 0 ("", [])).2.length) = lw_el "BODY" (mi_Sv.getD 0 ("", [])).2 := by decide +kernel
set_option maxRecDepth 100000 in
theorem lw_s0 {s : State} {b : Nat} (hts : ∀ w ∈ lw_tbl, w.before #[Value.ref b] s = true) (hgv : (Jvm.Cond.and given_1 narrow_1).before #[Value.ref b] s = true) : ∃ t : Nat, va_Z RX2 "BODY" "[I" (.ref t) (lw_A s) s s.heap ∧ va_T .int t (mi_Sv.getD 0 ("", [])).2.length (fun i => .int ((mi_Sv.getD 0 ("", [])).2.getD i 0)) (lw_A s) s s.heap :=
  lw_st1 hts hgv "BODY" (mi_Sv.getD 0 ("", [])).2 7 lw_e0 (by decide +kernel) (by decide +kernel) (lw_in 34 (by decide +kernel)) (by decide +kernel)
set_option maxRecDepth 100000 in
theorem lw_e1 : ((flatC (Jvm.Cond.and given_1 narrow_1)).drop 226).take ((mi_Sv.getD 1 ("", [])).2.length) = lw_el "PARENT" (mi_Sv.getD 1 ("", [])).2 := by decide +kernel
set_option maxRecDepth 100000 in
theorem lw_s1 {s : State} {b : Nat} (hts : ∀ w ∈ lw_tbl, w.before #[Value.ref b] s = true) (hgv : (Jvm.Cond.and given_1 narrow_1).before #[Value.ref b] s = true) : ∃ t : Nat, va_Z RX2 "PARENT" "[I" (.ref t) (lw_A s) s s.heap ∧ va_T .int t (mi_Sv.getD 1 ("", [])).2.length (fun i => .int ((mi_Sv.getD 1 ("", [])).2.getD i 0)) (lw_A s) s s.heap :=
  lw_st1 hts hgv "PARENT" (mi_Sv.getD 1 ("", [])).2 226 lw_e1 (by decide +kernel) (by decide +kernel) (lw_in 39 (by decide +kernel)) (by decide +kernel)
set_option maxRecDepth 100000 in
theorem lw_e2 : ((flatC (Jvm.Cond.and given_1 narrow_1)).drop 247).take ((mi_Sv.getD 2 ("", [])).2.length) = lw_el "NAMED" (mi_Sv.getD 2 ("", [])).2 := by decide +kernel
set_option maxRecDepth 100000 in
theorem lw_s2 {s : State} {b : Nat} (hts : ∀ w ∈ lw_tbl, w.before #[Value.ref b] s = true) (hgv : (Jvm.Cond.and given_1 narrow_1).before #[Value.ref b] s = true) : ∃ t : Nat, va_Z RX2 "NAMED" "[I" (.ref t) (lw_A s) s s.heap ∧ va_T .int t (mi_Sv.getD 2 ("", [])).2.length (fun i => .int ((mi_Sv.getD 2 ("", [])).2.getD i 0)) (lw_A s) s s.heap :=
  lw_st1 hts hgv "NAMED" (mi_Sv.getD 2 ("", [])).2 247 lw_e2 (by decide +kernel) (by decide +kernel) (lw_in 47 (by decide +kernel)) (by decide +kernel)
set_option maxRecDepth 100000 in
theorem lw_e3 : ((flatC (Jvm.Cond.and given_1 narrow_1)).drop 268).take ((mi_Sv.getD 3 ("", [])).2.length) = lw_el "ACTS_OF_WAY" (mi_Sv.getD 3 ("", [])).2 := by decide +kernel
set_option maxRecDepth 100000 in
theorem lw_s3 {s : State} {b : Nat} (hts : ∀ w ∈ lw_tbl, w.before #[Value.ref b] s = true) (hgv : (Jvm.Cond.and given_1 narrow_1).before #[Value.ref b] s = true) : ∃ t : Nat, va_Z RX2 "ACTS_OF_WAY" "[I" (.ref t) (lw_A s) s s.heap ∧ va_T .int t (mi_Sv.getD 3 ("", [])).2.length (fun i => .int ((mi_Sv.getD 3 ("", [])).2.getD i 0)) (lw_A s) s s.heap :=
  lw_st1 hts hgv "ACTS_OF_WAY" (mi_Sv.getD 3 ("", [])).2 268 lw_e3 (by decide +kernel) (by decide +kernel) (lw_in 118 (by decide +kernel)) (by decide +kernel)
theorem lw_Ks {s : State} {b : Nat} (hts : ∀ w ∈ lw_tbl, w.before #[Value.ref b] s = true) (hgv : (Jvm.Cond.and given_1 narrow_1).before #[Value.ref b] s = true) : ∃ cs : Nat → Nat, mi_K cs (lw_A s) s := by
  obtain ⟨t0, a0, b0⟩ := lw_s0 hts hgv
  obtain ⟨t1, a1, b1⟩ := lw_s1 hts hgv
  obtain ⟨t2, a2, b2⟩ := lw_s2 hts hgv
  obtain ⟨t3, a3, b3⟩ := lw_s3 hts hgv
  refine ⟨fun j => match j with | 0 => t0 | 1 => t1 | 2 => t2 | _ => t3, fun w hw => ?_, va_AO.of (hts _ (lw_in 67 (by decide +kernel))), fun j q hq => ?_⟩
  · obtain ⟨h1, h2⟩ := List.mem_filter.mp hw
    have hb := hts w (List.mem_append_right _ h1)
    unfold mi_isN at h2
    split at h2
    · exact va_Nw.of rfl hb
    · exact va_Nw.of rfl hb
    · cases h2
  · match j, hq with
    | 0, hq => cases hq; exact ⟨a0, b0⟩
    | 1, hq => cases hq; exact ⟨a1, b1⟩
    | 2, hq => cases hq; exact ⟨a2, b2⟩
    | 3, hq => cases hq; exact ⟨a3, b3⟩
    | j + 4, hq => cases hq
theorem lw_Kc {s : State} {b : Nat} (hts : ∀ w ∈ lw_tbl, w.before #[Value.ref b] s = true) : ∃ (D : va_G) (cA : Nat → ClassId), va_K D vwCl (mi_ty cA) s := by
  obtain ⟨c0, k0, m0, f0, g0, h0⟩ := Cond.arrayClass_spec (hts _ (lw_in (w := Jvm.Cond.arrayClass .int) 65 (by decide +kernel)))
  obtain ⟨c1, k1, m1, f1, g1, h1⟩ := Cond.arrayClass_spec (hts _ (lw_in (w := Jvm.Cond.arrayClass .boolean) 443 (by decide +kernel)))
  obtain ⟨m2, c2, k2, e2, -, g2, h2, f2⟩ := Cond.arrayOver_spec (hts _ (lw_in (w := Jvm.Cond.arrayOver (.object RX1)) 67 (by decide +kernel)))
  obtain ⟨d0, i0, n0⟩ := u_known hts (fun w hw => mi_Ts_tbl w (mi_v0.1 w hw)) (hts (.instantiable RX0 3) (lw_in 16 (by decide +kernel)))
  obtain ⟨d1, i1, n1⟩ := u_known hts (fun w hw => mi_Ts_tbl w (mi_v1.1 w hw)) (hts (.instantiable RX1 12) (lw_in 100 (by decide +kernel)))
  obtain ⟨d2, i2, n2⟩ := u_known hts (fun w hw => mi_Ts_tbl w (mi_v2.1 w hw)) (hts (.instantiable RX3 2) (lw_in 260 (by decide +kernel)))
  obtain ⟨d3, i3, n3⟩ := u_known hts (fun w hw => mi_Ts_tbl w (mi_v3.1 w hw)) (hts (.instantiable RX4 8) (lw_in 8 (by decide +kernel)))
  obtain ⟨d4, i4, n4⟩ := u_known hts (fun w hw => mi_Ts_tbl w (mi_v4.1 w hw)) (hts (.instantiable RX5 28) (lw_in 331 (by decide +kernel)))
  refine ⟨(fun k => match k with | 0 => d0 | 1 => d1 | 2 => d2 | 3 => d3 | _ => d4, fun k => match k with | 0 => i0 | 1 => i1 | 2 => i2 | 3 => i3 | _ => i4), fun k => match k with | 0 => c0 | 1 => c1 | _ => c2, fun k q hq => ?_, fun k q hq => ?_⟩
  · match k, hq with
    | 0, hq => cases hq; exact n0
    | 1, hq => cases hq; exact n1
    | 2, hq => cases hq; exact n2
    | 3, hq => cases hq; exact n3
    | 4, hq => cases hq; exact n4
    | k + 5, hq => cases hq
  · match k, hq with
    | 0, hq => cases hq; exact ⟨fun n z => ⟨fun k h => (by cases h), k0, g0, m0, h0⟩, f0⟩
    | 1, hq => cases hq; exact ⟨fun n z => ⟨fun k h => (by cases h), k1, g1, m1, h1⟩, f1⟩
    | 2, hq => cases hq; exact ⟨fun n z => ⟨fun k h => (by cases h), k2, g2, m2, h2⟩, k2, m2, g2, h2, e2, f2⟩
    | k + 3, hq => cases hq
