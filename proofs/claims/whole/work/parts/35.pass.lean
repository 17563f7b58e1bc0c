/-! pass -/
def zf : Nat → List Int32 → List Int32
  | 0, z => z
  | j + 1, z => (zf j z).set j 0
theorem zf_len (z : List Int32) : ∀ j, (zf j z).length = z.length
  | 0 => rfl
  | j + 1 => by
    show ((zf j z).set j 0).length = _
    rw [List.length_set]
    exact zf_len z j
theorem zf_at (z : List Int32) {i : Nat} : ∀ {j}, i < j → j ≤ z.length → (zf j z)[i]? = some 0
  | 0, h, _ => absurd h (Nat.not_lt_zero _)
  | j + 1, h, hl => by
    show ((zf j z).set j 0)[i]? = _
    by_cases e : i = j
    · subst e
      exact List.getElem?_set_self (by rw [zf_len]; omega)
    · rw [List.getElem?_set_ne (fun z => e z.symm)]
      exact zf_at z (by omega) (by omega)
theorem op_pass (x y : Int32) : opk 42 82 [.int x, .int y] := by
  intro Pm S hx hm hPm hI hC hM
  obtain ⟨N, M, stt, q, kO, vO, cO, tO, fm, to⟩ := S
  obtain ⟨hN, hMm, hq, hq2, lk, lv, lc, lt, lf, lo, hki, hli, hz⟩ := id hI
  obtain ⟨pu, tc, dv, tk, dyn, A, B, px, an, hpu, ldv, ltk, ldyn, hszd, hdv, hd, ehx⟩ := id hC
  obtain ⟨fr, pl, rw, aw, zi, fB, fA, fX, pi, lrw, law, lzi, lfB, lfA, lfX, lpi, ehm⟩ := id hM
  cases hr : rgb x (nI N) with
  | false =>
    refine ⟨0, (N, M, 1, q, kO, vO, cO, tO, fm, to), sI_st (stt := stt) hI, ?_, ?_⟩
    · refine mi_WC.mono (d := 50) ?_ (by decide)
      subst ehx
      refine mi_WC.of (X := mi_m42) rfl (Nat.le_of_ble_eq_true rfl) ?_
      refine w_aload_n mi_a42_0 rfl ?_
      refine w_iload_n mi_a42_1 rfl ?_
      refine w_callV mi_a42_2 rfl rfl 1 ⟨rfl, rfl⟩ ⟨Nat.le_of_ble_eq_true rfl, Nat.le_of_ble_eq_true rfl⟩ rfl rfl rfl rfl (s_findN (d := 48) hr) ?_
      rintro r' h' ⟨rfl, rfl⟩
      refine w_astore_nN mi_a42_5 (Nat.le_of_ble_eq_true rfl) ?_
      refine w_aload_nN mi_a42_6 rfl ?_
      refine w_ifnonnullN mi_a42_7 ?_
      refine w_aload_n mi_a42_10 rfl ?_
      refine w_iconstv (v := 1) mi_a42_11 (by decide) ?_
      refine w_put mi_a42_12 rfl rfl (Nat.le_of_ble_eq_true rfl) rfl ?_
      refine w_iconstv (v := 0) mi_a42_15 (by decide) ?_
      exact w_ireturn mi_a42_16 rfl ⟨rfl, pu, tc, dv, tk, dyn, A, B, px, an, by omega, ldv, ltk, ldyn, hszd, hdv, hd, rfl⟩
    · refine mi_WC.mono (d := 50) ?_ (by decide)
      subst ehm
      refine mi_WC.of (X := mi_m82) rfl (Nat.le_of_ble_eq_true rfl) ?_
      refine w_aload_n mi_a82_0 rfl ?_
      refine w_iload_n mi_a82_1 rfl ?_
      refine w_callV mi_a82_2 rfl rfl 1 ⟨rfl, rfl⟩ ⟨Nat.le_of_ble_eq_true rfl, Nat.le_of_ble_eq_true rfl⟩ rfl rfl rfl rfl (s_mDev (d := 48)) ?_
      rintro r' h' ⟨rfl, rfl⟩
      rw [hr]
      refine w_if_ne mi_a82_5 14 (by decide) (fun z => absurd rfl z) (fun _ => ?_)
      refine w_aload_n mi_a82_8 rfl ?_
      refine w_iconstv (v := 1) mi_a82_9 (by decide) ?_
      refine w_callV mi_a82_10 rfl rfl 1 ⟨rfl, rfl⟩ ⟨Nat.le_of_ble_eq_true rfl, Nat.le_of_ble_eq_true rfl⟩ rfl rfl rfl rfl (s_refused (d := 48)) ?_
      rintro r' h' ⟨rfl, rfl⟩
      exact w_ireturn mi_a82_13 rfl ⟨rfl, fr, pl, rw, aw, zi, fB, fA, fX, pi, lrw, law, lzi, lfB, lfA, lfX, lpi, rfl⟩
  | true =>
    obtain ⟨i, hi, rfl⟩ := rgb_at (n := N) (by omega) hr
    have fin : ∀ (kk : Nat) (q : List Int32 × Nat) (vO cO tO : List Int32) (R : List Nat) (tk : List (Option Nat)) (px : Nat → Nat) (an : Nat → Int32) (dyn : mi_H) (rw aw zi : List Int32), pI N M kO fm to (pu + 1) A B q vO cO tO R tk px an dyn rw aw zi → kk = R.length → ∃ (res : Int32) (S' : sT), sI S' ∧ mi_W 49 mi_m42 (53, [some (.ref 0), some (.int (nI i)), some (.int y), some (.ref (A i + 6)), some (.int (nI kk))], [], kh (nI N) (nI M) (nI R.length) (nI (pu + 1)) 0 q dv tk dyn) (fun r' h' => r' = some (.int res) ∧ cR (Pm + 1) S' h') ∧ ∀ (fr pl : Int32) (fB fA fX pi : List Int32) (e5 : Option Value), fB.length = 100 → fA.length = 100 → fX.length = 100 → pi.length = 300 → mi_W 49 mi_m82 (72, [some (.ref 0), some (.int (nI i)), some (.int y), some (.int (nI R.length)), some (.int (nI kk)), e5], [], mh (nI N) (nI M) 0 fr pl q kO vO cO tO fm to rw aw zi fB fA fX pi) (fun r' h' => r' = some (.int res) ∧ mR S' h') := by
      intro kk q vO cO tO R tk px an dyn rw aw zi hT hkk
      have hlen := pI_len hT
      obtain ⟨hq, hq2, lv, lc, lt, ltk, lrw, law, lzi, hnd, hRN, hrow, hpx, hd, hszd, ldyn, hz⟩ := id hT
      subst hkk
      refine ⟨nI R.length, (N, M, 0, q, kO, vO, cO, tO, fm, to), ⟨hN, hMm, hq, by omega, lk, lv, lc, lt, lf, lo, hki, hli, hz⟩, ?_, fun fr pl fB fA fX pi e5 lfB lfA lfX lpi => ?_⟩
      ·
        refine w_iload mi_a42_53 rfl ?_
        refine w_aload_n mi_a42_55 rfl ?_
        refine w_get mi_a42_56 rfl rfl rfl ?_
        refine w_icmp_ge mi_a42_59 87 (by decide) (fun _ => ?_) (fun z => absurd (nI_le (Nat.le_refl _) (by omega)) z)
        refine w_aload_n mi_a42_87 rfl ?_
        refine w_get mi_a42_88 rfl rfl rfl ?_
        exact w_ireturn mi_a42_91 rfl ⟨rfl, pu + 1, _, dv, tk, dyn, A, B, px, an, by omega, ldv, ltk, ldyn, hszd, hdv, hd, rfl⟩
      ·
        refine w_iload mi_a82_72 rfl ?_
        refine w_iload_n mi_a82_74 rfl ?_
        refine w_icmp_ge mi_a82_75 190 (by decide) (fun _ => ?_) (fun z => absurd (nI_le (Nat.le_refl _) (by omega)) z)
        refine w_iload_n mi_a82_190 rfl ?_
        exact w_ireturn mi_a82_191 rfl ⟨rfl, fr, pl, rw, aw, zi, fB, fA, fX, pi, lrw, law, lzi, lfB, lfA, lfX, lpi, rfl⟩
    have walk : ∀ r (kk : Nat), kk + r = 300 → ∀ (q : List Int32 × Nat) (vO cO tO : List Int32) (R : List Nat) (tk : List (Option Nat)) (px : Nat → Nat) (an : Nat → Int32) (dyn : mi_H) (rw aw zi : List Int32), pI N M kO fm to (pu + 1) A B q vO cO tO R tk px an dyn rw aw zi → kk ≤ R.length → ∃ (res : Int32) (S' : sT), sI S' ∧ mi_W 49 mi_m42 (53, [some (.ref 0), some (.int (nI i)), some (.int y), some (.ref (A i + 6)), some (.int (nI kk))], [], kh (nI N) (nI M) (nI R.length) (nI (pu + 1)) 0 q dv tk dyn) (fun r' h' => r' = some (.int res) ∧ cR (Pm + 1) S' h') ∧ ∀ (fr pl : Int32) (fB fA fX pi : List Int32) (e5 : Option Value), fB.length = 100 → fA.length = 100 → fX.length = 100 → pi.length = 300 → mi_W 49 mi_m82 (72, [some (.ref 0), some (.int (nI i)), some (.int y), some (.int (nI R.length)), some (.int (nI kk)), e5], [], mh (nI N) (nI M) 0 fr pl q kO vO cO tO fm to rw aw zi fB fA fX pi) (fun r' h' => r' = some (.int res) ∧ mR S' h') := by
      intro r
      induction r with
      | zero =>
        intro kk hkr q vO cO tO R tk px an dyn rw aw zi hT hkk
        have hlen := pI_len hT
        exact fin kk q vO cO tO R tk px an dyn rw aw zi hT (by omega)
      | succ r ih =>
        intro kk hkr q vO cO tO R tk px an dyn rw aw zi hT hkk
        by_cases hlt : kk < R.length
        · have hlen := pI_len hT
          obtain ⟨hq, hq2, lv, lc, lt, ltk, lrw, law, lzi, hnd, hRN, hrow, hpx, hd, hszd, ldyn, hz⟩ := id hT
          obtain ⟨f, hR⟩ : ∃ f, R[kk]? = some f := ⟨R[kk], List.getElem?_eq_getElem hlt⟩
          have hf : f < N := hRN f (List.mem_of_getElem? hR)
          obtain ⟨w1, w2, w3⟩ := hrow kk f hR
          obtain ⟨k, v, c, t, -, -, -, -, -, -, hcell⟩ := dR_cell hd hf
          obtain ⟨q2, vO2, cO2, tO2, R2, tk2, px2, an2, dyn2, rw2, aw2, zi2, h1, h2, h3, h4⟩ := p_hand (dv := dv) (d0 := nI i) (x := y) hN hMm (by omega) (by omega) M 0 (by omega) q vO cO tO R tk px an dyn rw aw zi hT hR
          have hR2 := (List.getElem?_eq_some_iff.mp (h2 kk f hR)).1
          obtain ⟨res, S', j1, j2, j3⟩ := ih (kk + 1) (by omega) q2 vO2 cO2 tO2 R2 tk2 px2 an2 dyn2 rw2 aw2 zi2 h1 hR2
          refine ⟨res, S', j1, ?_, fun fr pl fB fA fX pi e5 lfB lfA lfX lpi => ?_⟩
          ·
            refine w_iload mi_a42_53 rfl ?_
            refine w_aload_n mi_a42_55 rfl ?_
            refine w_get mi_a42_56 rfl rfl rfl ?_
            refine w_icmp_ge mi_a42_59 87 (by decide) (fun z => absurd z (nI_ge hlt (by omega))) (fun _ => ?_)
            refine w_iload mi_a42_62 rfl ?_
            refine w_sipushv (v := 300) mi_a42_64 (by decide) ?_
            refine w_icmp_ge mi_a42_67 87 (by decide) (fun z => absurd z (nI_ge (a := kk) (b := 300) (by omega) (by decide))) (fun _ => ?_)
            refine w_aload_n mi_a42_70 rfl ?_
            refine w_aload_n mi_a42_71 rfl ?_
            refine w_get mi_a42_72 rfl rfl rfl ?_
            refine w_iload mi_a42_75 rfl ?_
            refine w_aald mi_a42_77 rfl (nI_pos (by omega)) (by rw [nI_clamp (by omega)]; exact w1) ?_
            refine w_callV mi_a42_78 rfl rfl 1 ⟨rfl, rfl⟩ ⟨Nat.le_of_ble_eq_true rfl, Nat.le_of_ble_eq_true rfl⟩ rfl rfl rfl rfl (mi_WC.of (X := mi_m54) rfl (Nat.le_of_ble_eq_true rfl) (p_first hcell (h3 _))) ?_
            rintro r' h' ⟨rfl, rfl⟩
            refine w_iincv mi_a42_81 rfl (nI_succ kk).symm ?_
            refine w_goto mi_a42_84 53 (by decide) ?_
            exact j2
          ·
            refine w_iload mi_a82_72 rfl ?_
            refine w_iload_n mi_a82_74 rfl ?_
            refine w_icmp_ge mi_a82_75 190 (by decide) (fun z => absurd z (nI_ge hlt (by omega))) (fun _ => ?_)
            refine w_iconstv (v := nI 0) mi_a82_78 (by decide) ?_
            refine w_istore mi_a82_79 (Nat.le_of_ble_eq_true rfl) ?_
            refine h4 _ _ _ _ _ _ _ lfB lfA lfX lpi (fun fr pl fB fA fX pi lfB lfA lfX lpi => ?_)
            refine w_iincv mi_a82_184 rfl (nI_succ kk).symm ?_
            refine w_goto mi_a82_187 72 (by decide) ?_
            exact j3 _ _ _ _ _ _ _ lfB lfA lfX lpi
        · exact fin kk q vO cO tO R tk px an dyn rw aw zi hT (by omega)
    have T0 : pI N M kO fm to (pu + 1) A B (q.1, 0) vO cO tO [] tk px an dyn rw aw (zf N zi) := by
      refine ⟨hq, Nat.zero_le _, lv, lc, lt, ltk, lrw, law, by rw [zf_len]; exact lzi, List.Pairwise.nil, fun j hj => absurd hj List.not_mem_nil, fun p j hj => by simp at hj, fun j hj => ⟨⟨fun z => ?_, fun z => absurd z List.not_mem_nil⟩, ?_⟩, ⟨hd.1, hd.2.1, fun j hj => ?_, hd.2.2.2⟩, hszd, ldyn, hz⟩
      · obtain ⟨k, v, c, t, -, -, -, -, -, hp, -⟩ := dR_cell hd hj
        omega
      · rw [zf_at zi hj (by omega)]
        rfl
      · obtain ⟨k, v, c, t, g1, g2, g3, g4, g5, hp, hcell⟩ := dR_cell hd hj
        exact ⟨k, v, c, t, g1, g2, g3, g4, g5, by omega, hcell⟩
    obtain ⟨q1, vO1, cO1, tO1, px1, an1, dyn1, y1, i1, i2, i3⟩ := p_take (dv := dv) hN T0 hi List.not_mem_nil y
    obtain ⟨res, S', hS, hC2, hM2⟩ := walk 300 0 (by omega) q1 vO1 cO1 tO1 _ _ px1 an1 dyn1 _ _ _ i1 (Nat.zero_le _)
    refine ⟨res, S', hS, ?_, ?_⟩
    · refine mi_WC.mono (d := 50) ?_ (by decide)
      subst ehx
      refine mi_WC.of (X := mi_m42) rfl (Nat.le_of_ble_eq_true rfl) ?_
      refine w_aload_n mi_a42_0 rfl ?_
      refine w_iload_n mi_a42_1 rfl ?_
      refine w_callV mi_a42_2 rfl rfl 1 ⟨rfl, rfl⟩ ⟨Nat.le_of_ble_eq_true rfl, Nat.le_of_ble_eq_true rfl⟩ rfl rfl rfl rfl ((s_find (d := 48) hN rfl hi (hdv i hi))) ?_
      rintro r' h' ⟨rfl, rfl⟩
      refine w_astore_n mi_a42_5 (Nat.le_of_ble_eq_true rfl) ?_
      refine w_aload_n mi_a42_6 rfl ?_
      refine w_ifnonnull mi_a42_7 17 (by decide) ?_
      refine w_aload_n mi_a42_17 rfl ?_
      refine w_iconstv (v := 0) mi_a42_18 (by decide) ?_
      refine w_put mi_a42_19 rfl rfl (Nat.le_of_ble_eq_true rfl) rfl ?_
      refine w_aload_n mi_a42_22 rfl ?_
      refine w_get mi_a42_23 rfl rfl rfl ?_
      refine w_callV mi_a42_26 rfl rfl 0 ⟨rfl, rfl⟩ ⟨Nat.le_of_ble_eq_true rfl, Nat.le_of_ble_eq_true rfl⟩ rfl rfl rfl rfl (s_forget (n := nI N) (m := nI M) (tc := tc) (pu := nI pu) (stt := 0) (q := q) (dv := dv) (tk := tk) (dyn := dyn) (d := 48)) ?_
      rintro r' h' ⟨rfl, rfl⟩
      refine w_aload_n mi_a42_29 rfl ?_
      refine w_dup mi_a42_30 rfl ?_
      refine w_get mi_a42_31 rfl rfl rfl ?_
      refine w_iconstv (v := 1) mi_a42_34 (by decide) ?_
      refine w_iaddv mi_a42_35 (nI_succ pu).symm ?_
      refine w_put mi_a42_36 rfl rfl (Nat.le_of_ble_eq_true rfl) rfl ?_
      refine w_aload_n mi_a42_39 rfl ?_
      refine w_iconstv (v := nI 0) mi_a42_40 (by decide) ?_
      refine w_put mi_a42_41 rfl rfl (Nat.le_of_ble_eq_true rfl) rfl ?_
      show mi_W 49 mi_m42 (44, _, _, kh (nI N) (nI M) (nI ([] : List Nat).length) (nI (pu + 1)) 0 (q.1, 0) dv tk dyn) _
      refine w_aload_n mi_a42_44 rfl ?_
      refine w_aload_n mi_a42_45 rfl ?_
      refine w_iload_n mi_a42_46 rfl ?_
      refine w_callV mi_a42_47 rfl rfl 2 ⟨rfl, rfl⟩ ⟨Nat.le_of_ble_eq_true rfl, Nat.le_of_ble_eq_true rfl⟩ rfl rfl rfl rfl (mi_WC.mono i2 (by decide)) ?_
      rintro r' h' ⟨rfl, rfl⟩
      refine w_iconstv (v := nI 0) mi_a42_50 (by decide) ?_
      refine w_istore mi_a42_51 (Nat.le_of_ble_eq_true rfl) ?_
      exact hC2
    · refine mi_WC.mono (d := 50) ?_ (by decide)
      subst ehm
      refine mi_WC.of (X := mi_m82) rfl (Nat.le_of_ble_eq_true rfl) ?_
      refine w_aload_n mi_a82_0 rfl ?_
      refine w_iload_n mi_a82_1 rfl ?_
      refine w_callV mi_a82_2 rfl rfl 1 ⟨rfl, rfl⟩ ⟨Nat.le_of_ble_eq_true rfl, Nat.le_of_ble_eq_true rfl⟩ rfl rfl rfl rfl (s_mDev (d := 48)) ?_
      rintro r' h' ⟨rfl, rfl⟩
      rw [hr]
      refine w_if_ne mi_a82_5 14 (by decide) (fun _ => ?_) (fun z => absurd z (by decide))
      refine w_aload_n mi_a82_14 rfl ?_
      refine w_callV mi_a82_15 rfl rfl 0 ⟨rfl, rfl⟩ ⟨Nat.le_of_ble_eq_true rfl, Nat.le_of_ble_eq_true rfl⟩ rfl rfl rfl rfl (s_mBegin (d := 48)) ?_
      rintro r' h' ⟨rfl, rfl⟩
      have loop : ∀ r j, j + r = N → mi_W 49 mi_m82 (20, [some (.ref 0), some (.int (nI i)), some (.int y), some (.int (nI j)), none, none], [], mh (nI N) (nI M) 0 fr pl (q.1, 0) kO vO cO tO fm to rw aw (zf j zi) fB fA fX pi) (fun r' h' => r' = some (.int res) ∧ mR S' h') := by
        intro r
        induction r with
        | zero =>
          intro j hj
          obtain rfl : j = N := by omega
          refine w_iload_n mi_a82_20 rfl ?_
          refine w_aload_n mi_a82_21 rfl ?_
          refine w_get mi_a82_22 rfl rfl rfl ?_
          refine w_icmp_ge mi_a82_25 41 (by decide) (fun _ => ?_) (fun z => absurd (nI_le (Nat.le_refl _) (by omega)) z)
          refine w_aload_n mi_a82_41 rfl ?_
          refine w_get mi_a82_42 rfl rfl rfl ?_
          refine w_iconstv (v := nI 0) mi_a82_45 (by decide) ?_
          refine w_iload_n mi_a82_46 rfl ?_
          refine w_iast mi_a82_47 rfl (nI_pos (by omega)) (by rw [nI_clamp (by omega), lrw]; omega) ?_
          rw [nI_clamp (n := 0) (by omega)]
          refine w_aload_n mi_a82_48 rfl ?_
          refine w_get mi_a82_49 rfl rfl rfl ?_
          refine w_iload_n mi_a82_52 rfl ?_
          refine w_iconstv (v := 1) mi_a82_53 (by decide) ?_
          refine w_bast mi_a82_54 rfl (nI_pos (by omega)) (by rw [nI_clamp (by omega), zf_len, lzi]; omega) ?_
          rw [nI_clamp (by omega), show (1 : Int32) &&& 1 = 1 from by decide]
          show mi_W 49 mi_m82 (55, _, _, mh (nI j) (nI M) 0 fr pl (q.1, 0) kO vO cO tO fm to (rw.set ([] : List Nat).length (nI i)) aw ((zf j zi).set i 1) fB fA fX pi) _
          refine w_aload_n mi_a82_55 rfl ?_
          refine w_get mi_a82_56 rfl rfl rfl ?_
          refine w_iconstv (v := nI 0) mi_a82_59 (by decide) ?_
          refine w_aload_n mi_a82_60 rfl ?_
          refine w_iload_n mi_a82_61 rfl ?_
          refine w_iload_n mi_a82_62 rfl ?_
          refine w_callV mi_a82_63 rfl rfl 2 ⟨rfl, rfl⟩ ⟨Nat.le_of_ble_eq_true rfl, Nat.le_of_ble_eq_true rfl⟩ rfl rfl rfl rfl (i3 fr pl _ _ _ _ _ _ _ lfB lfA lfX lpi) ?_
          rintro r' h' ⟨rfl, fr2, pl2, fB2, fA2, fX2, pi2, l1, l2, l3, l4, rfl⟩
          refine w_iast mi_a82_66 rfl (nI_pos (by omega)) (by rw [nI_clamp (by omega), law]; omega) ?_
          rw [nI_clamp (n := 0) (by omega)]
          refine w_iconstv (v := nI 1) mi_a82_67 (by decide) ?_
          refine w_istore_n mi_a82_68 (Nat.le_of_ble_eq_true rfl) ?_
          refine w_iconstv (v := nI 0) mi_a82_69 (by decide) ?_
          refine w_istore mi_a82_70 (Nat.le_of_ble_eq_true rfl) ?_
          exact hM2 _ _ _ _ _ _ _ l1 l2 l3 l4
        | succ r ih =>
          intro j hj
          have hj2 : j < N := by omega
          refine w_iload_n mi_a82_20 rfl ?_
          refine w_aload_n mi_a82_21 rfl ?_
          refine w_get mi_a82_22 rfl rfl rfl ?_
          refine w_icmp_ge mi_a82_25 41 (by decide) (fun z => absurd z (nI_ge hj2 (by omega))) (fun _ => ?_)
          refine w_aload_n mi_a82_28 rfl ?_
          refine w_get mi_a82_29 rfl rfl rfl ?_
          refine w_iload_n mi_a82_32 rfl ?_
          refine w_iconstv (v := 0) mi_a82_33 (by decide) ?_
          refine w_bast mi_a82_34 rfl (nI_pos (by omega)) (by rw [nI_clamp (by omega), zf_len, lzi]; omega) ?_
          rw [nI_clamp (by omega), show (0 : Int32) &&& 1 = 0 from by decide]
          refine w_iincv mi_a82_35 rfl (nI_succ j).symm ?_
          refine w_goto mi_a82_38 20 (by decide) ?_
          exact ih (j + 1) (by omega)
      refine w_iconstv (v := nI 0) mi_a82_18 (by decide) ?_
      refine w_istore_n mi_a82_19 (Nat.le_of_ble_eq_true rfl) ?_
      exact loop N 0 (by omega)
