/-! link: the methods -/
theorem s_linkInit {d j t : Nat} {n m tc pu stt : Int32} {q : List Int32 × Nat} {dv tk : List (Option Nat)} {dyn : mi_H} (hj : dyn[j]? = some (.inl (2, [.null, .null]))) : mi_WC (d + 1) 35 [.ref (j + 6), .ref (t + 6)] (kh n m tc pu stt q dv tk dyn) (fun r h' => r = none ∧ h' = kh n m tc pu stt q dv tk (dyn.set j (lkc t .null))) := by
  refine mi_WC.of (X := mi_m35) rfl (Nat.le_of_ble_eq_true rfl) ?_
  refine w_aload_n mi_a35_0 rfl ?_
  refine w_objInit mi_a35_1 rfl (Nat.le_of_ble_eq_true rfl) ?_
  refine w_aload_n mi_a35_4 rfl ?_
  refine w_aload_n mi_a35_5 rfl ?_
  refine w_put mi_a35_6 rfl hj (Nat.le_of_ble_eq_true rfl) rfl ?_
  exact w_vreturn mi_a35_9 rfl ⟨rfl, rfl⟩
theorem s_addLink {D N M : Nat} {n m tc pu0 stt : Int32} {q : List Int32 × Nat} {dv tk : List (Option Nat)} {kO vO cO tO fm to : List Int32} {pu : Nat} {A B px : Nat → Nat} {an : Nat → Int32} {dyn : mi_H} {i j : Nat} (hD : 3 ≤ D) (hd : dR N M kO vO cO tO fm to pu A B px an dyn) (hN : N ≤ 300) (hM : M < 400) (lf : fm.length = 400) (lo : to.length = 400) (hi : i < N) (hj : j < N) (hszd : ∀ c ∈ dyn, mi_szc c ≤ 12) :
  mi_WC D 18 [.ref (A i + 6), .ref (A j + 6)] (kh n m tc pu0 stt q dv tk dyn) (fun r h' => r = none ∧ ∃ dyn2, h' = kh n m tc pu0 stt q dv tk dyn2 ∧ dR N (M + 1) kO vO cO tO (fm.set M (nI i)) (to.set M (nI j)) pu A (fun l => if l = M then dyn.length else B l) px an dyn2 ∧ dyn2.length = dyn.length + 1 ∧ ∀ c ∈ dyn2, mi_szc c ≤ 12) := by
  obtain ⟨D, rfl⟩ : ∃ D', D = D' + 2 + 1 := ⟨D - 3, by omega⟩
  obtain ⟨ki, vi, ci, ti, i1, i2, i3, i4, i5, i6, hci⟩ := dR_cell hd hi
  obtain ⟨kj, vj, cj, tj, j1, j2, j3, j4, j5, j6, hcj⟩ := dR_cell hd hj
  have hA : ∀ x, x < N → A x < dyn.length := fun x hx => by
    obtain ⟨k', v', c', t', -, -, -, -, -, -, hcell⟩ := dR_cell hd hx
    exact (List.getElem?_eq_some_iff.mp hcell).1
  have hB : ∀ l, l < M → B l < dyn.length := fun l hl => by
    obtain ⟨f, t', -, -, -, -, hcell⟩ := hd.2.2.2 l hl
    exact (List.getElem?_eq_some_iff.mp hcell).1
  have hAB : ∀ x l, x < N → l < M → A x ≠ B l := fun x l hx hl z => by
    obtain ⟨k', v', c', t', -, -, -, -, -, -, hc1⟩ := dR_cell hd hx
    obtain ⟨f, t', -, -, -, -, hc2⟩ := hd.2.2.2 l hl
    rw [z, hc2] at hc1
    have := Sum.inl.inj (Option.some.inj hc1)
    cases congrArg Prod.fst this
  have fin : ∀ (base : mi_H) (fl ll0 : Value), base[A i]? = some (dvc ki vi ci (nI (cnt fm M (nI i))) (nI (cnt to M (nI i))) ti (nI (px i)) (an i) fl ll0) → (j ≠ i → base[A j]? = dyn[A j]?) → base.length = dyn.length + 1 → (∀ c ∈ base, mi_szc c ≤ 12) →
      dR N (M + 1) kO vO cO tO (fm.set M (nI i)) (to.set M (nI j)) pu A (fun l => if l = M then dyn.length else B l) px an ((base.set (A i) (dvc ki vi ci (nI (cnt fm M (nI i) + 1)) (nI (cnt to M (nI i))) ti (nI (px i)) (an i) fl (.ref (dyn.length + 6)))).set (A j) (if j = i then dvc ki vi ci (nI (cnt fm M (nI i) + 1)) (nI (cnt to M (nI i) + 1)) ti (nI (px i)) (an i) fl (.ref (dyn.length + 6)) else dvc kj vj cj (nI (cnt fm M (nI j))) (nI (cnt to M (nI j) + 1)) tj (nI (px j)) (an j) (rfB B (nx fm M (nI j) 0)) (rfB B (lst fm M (nI j))))) →
      mi_W (D + 2) mi_m18 (32, [some (.ref (A i + 6)), some (.ref (A j + 6)), some (.ref (dyn.length + 6))], [], kh n m tc pu0 stt q dv tk base) (fun r h' => r = none ∧ ∃ dyn2, h' = kh n m tc pu0 stt q dv tk dyn2 ∧ dR N (M + 1) kO vO cO tO (fm.set M (nI i)) (to.set M (nI j)) pu A (fun l => if l = M then dyn.length else B l) px an dyn2 ∧ dyn2.length = dyn.length + 1 ∧ ∀ c ∈ dyn2, mi_szc c ≤ 12) := by
    intro base fl ll0 hb1 hb2 hbl hbs hdr
    refine w_aload_n mi_a18_32 rfl ?_
    refine w_aload_n mi_a18_33 rfl ?_
    refine w_put mi_a18_34 rfl hb1 (Nat.le_of_ble_eq_true rfl) rfl ?_
    have hb3 := mi_set_at (h := kh n m tc pu0 stt q dv tk base) (a := A i + 6) (c := dvc ki vi ci (nI (cnt fm M (nI i))) (nI (cnt to M (nI i))) ti (nI (px i)) (an i) fl (.ref (dyn.length + 6))) hb1
    refine w_aload_n mi_a18_37 rfl ?_
    refine w_dup mi_a18_38 rfl ?_
    refine w_get mi_a18_39 rfl hb3 rfl ?_
    refine w_iconstv (v := 1) mi_a18_42 (by decide) ?_
    refine w_iaddv mi_a18_43 (nI_succ _).symm ?_
    refine w_put mi_a18_44 rfl hb3 (Nat.le_of_ble_eq_true rfl) rfl ?_
    have hb4 := mi_set_at (c := dvc ki vi ci (nI (cnt fm M (nI i) + 1)) (nI (cnt to M (nI i))) ti (nI (px i)) (an i) fl (.ref (dyn.length + 6))) hb3
    refine w_aload_n mi_a18_47 rfl ?_
    refine w_dup mi_a18_48 rfl ?_
    by_cases e : j = i
    · subst e
      refine w_get mi_a18_49 rfl hb4 rfl ?_
      refine w_iconstv (v := 1) mi_a18_52 (by decide) ?_
      refine w_iaddv mi_a18_53 (nI_succ _).symm ?_
      refine w_put mi_a18_54 rfl hb4 (Nat.le_of_ble_eq_true rfl) rfl ?_
      rw [if_pos rfl] at hdr
      refine w_vreturn mi_a18_57 rfl ⟨rfl, _, ?_, hdr, by rw [List.length_set, List.length_set]; exact hbl, szc_set (szc_set hbs (szc_dvc _ _ _ _ _ _ _ _ _ _)) (szc_dvc _ _ _ _ _ _ _ _ _ _)⟩
      simp only [List.set_set]
      rfl
    · have hne : A i + 6 ≠ A j + 6 := fun z => e (hd.1 j i hj hi (by omega))
      have hb5 : (((kh n m tc pu0 stt q dv tk base).set (A i + 6) (dvc ki vi ci (nI (cnt fm M (nI i))) (nI (cnt to M (nI i))) ti (nI (px i)) (an i) fl (.ref (dyn.length + 6)))).set (A i + 6) (dvc ki vi ci (nI (cnt fm M (nI i) + 1)) (nI (cnt to M (nI i))) ti (nI (px i)) (an i) fl (.ref (dyn.length + 6))))[A j + 6]? = some (dvc kj vj cj (nI (cnt fm M (nI j))) (nI (cnt to M (nI j))) tj (nI (px j)) (an j) (rfB B (nx fm M (nI j) 0)) (rfB B (lst fm M (nI j)))) := by
        rw [List.getElem?_set_ne hne, List.getElem?_set_ne hne]
        show base[A j]? = _
        rw [hb2 e]
        exact hcj
      refine w_get mi_a18_49 rfl hb5 rfl ?_
      refine w_iconstv (v := 1) mi_a18_52 (by decide) ?_
      refine w_iaddv mi_a18_53 (nI_succ _).symm ?_
      refine w_put mi_a18_54 rfl hb5 (Nat.le_of_ble_eq_true rfl) rfl ?_
      rw [if_neg e] at hdr
      refine w_vreturn mi_a18_57 rfl ⟨rfl, _, ?_, hdr, by rw [List.length_set, List.length_set]; exact hbl, szc_set (szc_set hbs (szc_dvc _ _ _ _ _ _ _ _ _ _)) (szc_dvc _ _ _ _ _ _ _ _ _ _)⟩
      simp only [List.set_set]
      rfl
  have d2 : ∀ a, a < dyn.length → (dyn ++ [lkc (A j) .null])[a]? = dyn[a]? := fun a ha => List.getElem?_append_left ha
  have d3 : (dyn ++ [lkc (A j) .null])[dyn.length]? = some (lkc (A j) .null) := by simp
  have d4 : ∀ c ∈ dyn ++ [lkc (A j) .null], mi_szc c ≤ 12 := fun c hc => by
    rcases List.mem_append.mp hc with z | z
    · exact hszd c z
    · rw [List.mem_singleton.mp z]; exact Nat.le_of_ble_eq_true rfl
  refine mi_WC.of (X := mi_m18) rfl (Nat.le_of_ble_eq_true rfl) ?_
  refine w_new mi_a18_0 rfl rfl ?_
  show mi_W (D + 2) mi_m18 (0 + 3, _, .ref (dyn.length + 6) :: [], kh n m tc pu0 stt q dv tk (dyn ++ [.inl (2, [.null, .null])])) _
  refine w_dup mi_a18_3 rfl ?_
  refine w_aload_n mi_a18_4 rfl ?_
  refine w_callI mi_a18_5 rfl rfl rfl 1 ⟨rfl, rfl⟩ ⟨Nat.le_of_ble_eq_true rfl, Nat.le_of_ble_eq_true rfl⟩ rfl (show (kh n m tc pu0 stt q dv tk (dyn ++ [.inl (2, [.null, .null])]))[dyn.length + 6]? = some (.inl (2, [.null, .null])) from ?_) rfl rfl (s_linkInit (d := D + 1) (t := A j) (by simp)) ?_
  · show (dyn ++ [_])[dyn.length]? = _
    simp
  rintro r' h' ⟨rfl, rfl⟩
  have es : (dyn ++ [(.inl (2, [.null, .null]) : mi_C)]).set dyn.length (lkc (A j) .null) = dyn ++ [lkc (A j) .null] := by simp [List.set_append]
  rw [es]
  refine w_astore_n mi_a18_8 (Nat.le_of_ble_eq_true rfl) ?_
  refine w_aload_n mi_a18_9 rfl ?_
  have hci2 : (kh n m tc pu0 stt q dv tk (dyn ++ [lkc (A j) .null]))[A i + 6]? = some (dvc ki vi ci (nI (cnt fm M (nI i))) (nI (cnt to M (nI i))) ti (nI (px i)) (an i) (rfB B (nx fm M (nI i) 0)) (rfB B (lst fm M (nI i)))) := by
    show (dyn ++ [lkc (A j) .null])[A i]? = _
    rw [d2 _ (hA i hi)]
    exact hci
  refine w_get mi_a18_10 rfl hci2 rfl ?_
  cases el : lst fm M (nI i) with
  | none =>
    have en : nx fm M (nI i) 0 = none := nx_none_of (fun t _ t2 => lst_none el t t2)
    rw [el, en] at hci2
    refine w_ifnonnullN mi_a18_13 ?_
    refine w_aload_n mi_a18_16 rfl ?_
    refine w_aload_n mi_a18_17 rfl ?_
    refine w_put mi_a18_18 rfl hci2 (Nat.le_of_ble_eq_true rfl) rfl ?_
    refine w_goto mi_a18_21 32 (by decide) ?_
    refine fin ((dyn ++ [lkc (A j) .null]).set (A i) (dvc ki vi ci (nI (cnt fm M (nI i))) (nI (cnt to M (nI i))) ti (nI (px i)) (an i) (.ref (dyn.length + 6)) .null)) (.ref (dyn.length + 6)) .null (mi_set_at (show (dyn ++ [lkc (A j) .null])[A i]? = some _ from hci2)) ?_ ?_ ?_ ?_
    · intro e
      rw [List.getElem?_set_ne (fun z => e (hd.1 j i hj hi z.symm)), d2 _ (hA j hj)]
    · rw [List.length_set, List.length_append]; rfl
    · exact szc_set d4 (szc_dvc _ _ _ _ _ _ _ _ _ _)
    · refine dR_link hd hN hM lf lo hi hj ⟨i1, i2, i3, i4, i5⟩ ⟨j1, j2, j3, j4, j5⟩ ?_ ?_ ?_ ?_ ?_
      · intro x hx e
        rw [List.getElem?_set_ne (fun z => e (hd.1 i x hi hx z).symm), d2 _ (hA x hx)]
      · rw [List.length_set, List.length_append]; have := hA i hi; omega
      · intro l f t hl hf ht hfN htN
        rw [List.getElem?_set_ne (hAB i l hi hl), d2 _ (hB l hl), if_neg (fun z => by rw [el] at z; cases z.2)]
        obtain ⟨f', t', g1, g2, g3, g4, g5⟩ := hd.2.2.2 l hl
        have ef : f' = f := nI_inj (by omega) (by omega) (Option.some.inj (g3.symm.trans hf))
        have et : t' = t := nI_inj (by omega) (by omega) (Option.some.inj (g4.symm.trans ht))
        subst ef; subst et
        exact g5
      · rw [List.getElem?_set_ne (by have := hA i hi; omega)]
        exact d3
      · rw [en]
  | some lp =>
    obtain ⟨w1, w2, w3⟩ := lst_some el
    rw [el] at hci2
    obtain ⟨f0, t0, f1, f2, f3, f4, hcl⟩ := hd.2.2.2 lp w1
    have ef : f0 = i := nI_inj (by omega) (by omega) (Option.some.inj (f3.symm.trans w2))
    subst ef
    have enl : nx fm M (nI f0) (lp + 1) = none := nx_none_of (fun t t1 t2 => w3 t (by omega) t2)
    rw [enl] at hcl
    have hcl2 : (kh n m tc pu0 stt q dv tk (dyn ++ [lkc (A j) .null]))[B lp + 6]? = some (lkc (A t0) .null) := by
      show (dyn ++ [lkc (A j) .null])[B lp]? = _
      rw [d2 _ (hB lp w1)]
      exact hcl
    refine w_ifnonnull mi_a18_13 24 (by decide) ?_
    refine w_aload_n mi_a18_24 rfl ?_
    refine w_get mi_a18_25 rfl hci2 rfl ?_
    refine w_aload_n mi_a18_28 rfl ?_
    refine w_put mi_a18_29 rfl hcl2 (Nat.le_of_ble_eq_true rfl) rfl ?_
    refine fin ((dyn ++ [lkc (A j) .null]).set (B lp) (lkc (A t0) (.ref (dyn.length + 6)))) (rfB B (nx fm M (nI f0) 0)) (.ref (B lp + 6)) ?_ ?_ ?_ ?_ ?_
    · rw [List.getElem?_set_ne (fun z => hAB f0 lp hi w1 z.symm)]
      exact hci2
    · intro e
      rw [List.getElem?_set_ne (fun z => hAB j lp hj w1 z.symm), d2 _ (hA j hj)]
    · rw [List.length_set, List.length_append]; rfl
    · exact szc_set d4 (Nat.le_of_ble_eq_true rfl)
    · refine dR_link hd hN hM lf lo hi hj ⟨i1, i2, i3, i4, i5⟩ ⟨j1, j2, j3, j4, j5⟩ ?_ ?_ ?_ ?_ ?_
      · intro x hx e
        rw [List.getElem?_set_ne (fun z => hAB x lp hx w1 z.symm), d2 _ (hA x hx)]
      · rw [List.length_set, List.length_append]; have := hA f0 hi; omega
      · intro l f t hl hf ht hfN htN
        obtain ⟨f', t', g1, g2, g3, g4, g5⟩ := hd.2.2.2 l hl
        have ef : f' = f := nI_inj (by omega) (by omega) (Option.some.inj (g3.symm.trans hf))
        have et : t' = t := nI_inj (by omega) (by omega) (Option.some.inj (g4.symm.trans ht))
        subst ef; subst et
        by_cases ell : l = lp
        · subst ell
          have e1 : f' = f0 := nI_inj (by omega) (by omega) (Option.some.inj (g3.symm.trans w2))
          have e2 : t' = t0 := nI_inj (by omega) (by omega) (Option.some.inj (g4.symm.trans f4))
          subst e1; subst e2
          rw [if_pos ⟨rfl, el⟩, List.getElem?_set_self (by rw [List.length_append]; have := hB l hl; omega)]
        · rw [List.getElem?_set_ne (fun z => ell (hd.2.1 lp l w1 hl z).symm), d2 _ (hB l hl), if_neg (fun z => by rw [el] at z; exact ell (Option.some.inj z.2).symm)]
          exact g5
      · rw [List.getElem?_set_ne (by have := hB lp w1; omega)]
        exact d3
      · obtain ⟨s, hs⟩ := nx_of (xs := fm) (x := nI f0) (l := 0) (m := M) (Nat.zero_le lp) w1 w2
        rw [hs]
        rfl
theorem op_link (x y : Int32) : opk 41 80 [.int x, .int y] := by
  intro Pm S hx hm hPm hI hC hM
  obtain ⟨N, M, stt, q, kO, vO, cO, tO, fm, to⟩ := S
  obtain ⟨hN, hMm, hq, hq2, lk, lv, lc, lt, lf, lo, hki, hli, hz⟩ := id hI
  obtain ⟨pu, tc, dv, tk, dyn, A, B, px, an, hpu, ldv, ltk, ldyn, hszd, hdv, hd, ehx⟩ := id hC
  obtain ⟨fr, pl, rw, aw, zi, fB, fA, fX, pi, lrw, law, lzi, lfB, lfA, lfX, lpi, ehm⟩ := id hM
  have mst : ∀ s : Int32, ((rgb x (nI N) && rgb y (nI N)) = false ∧ s = 1) ∨ ((rgb x (nI N) && rgb y (nI N)) = true ∧ M = 400 ∧ s = 5) ∨ ((rgb x (nI N) && rgb y (nI N)) = true ∧ M ≠ 400 ∧ s = 0) → ∀ Q, mi_W 49 mi_m80 (39, [some (.ref 0), some (.int x), some (.int y)], [], mh (nI N) (nI M) s fr pl q kO vO cO tO fm to rw aw zi fB fA fX pi) Q → mi_WC 50 80 [.ref 0, .int x, .int y] (mh (nI N) (nI M) stt fr pl q kO vO cO tO fm to rw aw zi fB fA fX pi) Q := by
    intro s hs Q k
    have fin : mi_W 49 mi_m80 (36, [some (.ref 0), some (.int x), some (.int y)], [.int s, .ref 0], mh (nI N) (nI M) stt fr pl q kO vO cO tO fm to rw aw zi fB fA fX pi) Q := w_put mi_a80_36 rfl rfl (Nat.le_of_ble_eq_true rfl) rfl k
    refine mi_WC.of (X := mi_m80) rfl (Nat.le_of_ble_eq_true rfl) ?_
    refine w_aload_n mi_a80_0 rfl ?_
    refine w_aload_n mi_a80_1 rfl ?_
    refine w_iload_n mi_a80_2 rfl ?_
    refine w_callV mi_a80_3 rfl rfl 1 ⟨rfl, rfl⟩ ⟨Nat.le_of_ble_eq_true rfl, Nat.le_of_ble_eq_true rfl⟩ rfl rfl rfl rfl (s_mDev (d := 48)) ?_
    rintro r' h' ⟨rfl, rfl⟩
    have one : (rgb x (nI N) && rgb y (nI N)) = false → mi_W 49 mi_m80 (17, [some (.ref 0), some (.int x), some (.int y)], [.ref 0], mh (nI N) (nI M) stt fr pl q kO vO cO tO fm to rw aw zi fB fA fX pi) Q := by
      intro hf
      have hs1 : s = 1 := by
        rcases hs with ⟨-, h⟩ | ⟨h, -⟩ | ⟨h, -⟩
        · exact h
        · rw [hf] at h; cases h
        · rw [hf] at h; cases h
      subst hs1
      refine w_iconstv (v := 1) mi_a80_17 (by decide) ?_
      refine w_goto mi_a80_18 36 (by decide) ?_
      exact fin
    refine w_if_eq mi_a80_6 17 (by decide) (fun z => one (by rw [(b01_eq0 _).mp z]; rfl)) (fun c6 => ?_)
    refine w_aload_n mi_a80_9 rfl ?_
    refine w_iload_n mi_a80_10 rfl ?_
    refine w_callV mi_a80_11 rfl rfl 1 ⟨rfl, rfl⟩ ⟨Nat.le_of_ble_eq_true rfl, Nat.le_of_ble_eq_true rfl⟩ rfl rfl rfl rfl (s_mDev (d := 48)) ?_
    rintro r' h' ⟨rfl, rfl⟩
    refine w_if_ne mi_a80_14 21 (by decide) (fun c14 => ?_) (fun z => one (by rw [(b01_eq0 _).mp z, Bool.and_false]))
    have hxy : (rgb x (nI N) && rgb y (nI N)) = true := by rw [(b01_ne0 _).mp c6, (b01_ne0 _).mp c14]; rfl
    refine w_aload_n mi_a80_21 rfl ?_
    refine w_get mi_a80_22 rfl rfl rfl ?_
    refine w_sipushv (v := 400) mi_a80_25 (by decide) ?_
    rcases hs with ⟨h, -⟩ | ⟨-, hM4, rfl⟩ | ⟨-, hM4, rfl⟩
    · rw [hxy] at h; cases h
    · subst hM4
      refine w_icmp_ne mi_a80_28 35 (by decide) (fun z => absurd rfl z) (fun _ => ?_)
      refine w_iconstv (v := 5) mi_a80_31 (by decide) ?_
      refine w_goto mi_a80_32 36 (by decide) ?_
      exact fin
    · refine w_icmp_ne mi_a80_28 35 (by decide) (fun _ => ?_) (fun z => absurd (nI_inj (a := M) (b := 400) (by omega) (by decide) z) hM4)
      refine w_iconstv (v := 0) mi_a80_35 (by decide) ?_
      exact fin
  have refuse : ∀ s : Int32, ((rgb x (nI N) && rgb y (nI N)) = false ∧ s = 1) ∨ ((rgb x (nI N) && rgb y (nI N)) = true ∧ M = 400 ∧ s = 5) → ∃ (r : Int32) (S' : sT), sI S' ∧ mi_WC 60 41 [.ref 0, .int x, .int y] hx (fun r' h' => r' = some (.int r) ∧ cR (Pm + 1) S' h') ∧ mi_WC 60 80 [.ref 0, .int x, .int y] hm (fun r' h' => r' = some (.int r) ∧ mR S' h') := by
    intro s hs
    refine ⟨-1, (N, M, s, q, kO, vO, cO, tO, fm, to), sI_st (stt := stt) hI, ?_, ?_⟩
    · refine mi_WC.mono (d := 50) ?_ (by decide)
      subst ehx
      have bad : ∀ L : List (Option Value), L[0]? = some (some (.ref 0)) → s = 1 → mi_W 49 mi_m41 (22, L, [], kh (nI N) (nI M) tc (nI pu) stt q dv tk dyn) (fun r' h' => r' = some (.int (-1)) ∧ cR (Pm + 1) (N, M, s, q, kO, vO, cO, tO, fm, to) h') := by
        intro L hL hs1
        subst hs1
        refine w_aload_n mi_a41_22 hL ?_
        refine w_iconstv (v := 1) mi_a41_23 (by decide) ?_
        refine w_put mi_a41_24 rfl rfl (Nat.le_of_ble_eq_true rfl) rfl ?_
        refine w_iconstv (v := (-1)) mi_a41_27 (by decide) ?_
        exact w_ireturn mi_a41_28 rfl ⟨rfl, pu, tc, dv, tk, dyn, A, B, px, an, by omega, ldv, ltk, ldyn, hszd, hdv, hd, rfl⟩
      refine mi_WC.of (X := mi_m41) rfl (Nat.le_of_ble_eq_true rfl) ?_
      refine w_aload_n mi_a41_0 rfl ?_
      refine w_iload_n mi_a41_1 rfl ?_
      cases hr : rgb x (nI N) with
      | false =>
        have hs1 : s = 1 := by
          rcases hs with ⟨-, h⟩ | ⟨h, -⟩
          · exact h
          · rw [hr] at h; cases h
        refine w_callV mi_a41_2 rfl rfl 1 ⟨rfl, rfl⟩ ⟨Nat.le_of_ble_eq_true rfl, Nat.le_of_ble_eq_true rfl⟩ rfl rfl rfl rfl (s_findN (d := 48) hr) ?_
        rintro r' h' ⟨rfl, rfl⟩
        refine w_astore_nN mi_a41_5 (Nat.le_of_ble_eq_true rfl) ?_
        refine w_aload_n mi_a41_6 rfl ?_
        refine w_iload_n mi_a41_7 rfl ?_
        cases hr2 : rgb y (nI N) with
        | false =>
          refine w_callV mi_a41_8 rfl rfl 1 ⟨rfl, rfl⟩ ⟨Nat.le_of_ble_eq_true rfl, Nat.le_of_ble_eq_true rfl⟩ rfl rfl rfl rfl (s_findN (d := 48) hr2) ?_
          rintro r' h' ⟨rfl, rfl⟩
          refine w_astoreN mi_a41_11 (Nat.le_of_ble_eq_true rfl) ?_
          refine w_aload_nN mi_a41_13 rfl ?_
          refine w_ifnullN mi_a41_14 22 (by decide) ?_
          exact bad _ rfl hs1
        | true =>
          obtain ⟨j, hj, rfl⟩ := rgb_at (n := N) (by omega) hr2
          refine w_callV mi_a41_8 rfl rfl 1 ⟨rfl, rfl⟩ ⟨Nat.le_of_ble_eq_true rfl, Nat.le_of_ble_eq_true rfl⟩ rfl rfl rfl rfl (s_find (d := 48) hN rfl hj (hdv j hj)) ?_
          rintro r' h' ⟨rfl, rfl⟩
          refine w_astore mi_a41_11 (Nat.le_of_ble_eq_true rfl) ?_
          refine w_aload_nN mi_a41_13 rfl ?_
          refine w_ifnullN mi_a41_14 22 (by decide) ?_
          exact bad _ rfl hs1
      | true =>
        obtain ⟨i, hi, rfl⟩ := rgb_at (n := N) (by omega) hr
        refine w_callV mi_a41_2 rfl rfl 1 ⟨rfl, rfl⟩ ⟨Nat.le_of_ble_eq_true rfl, Nat.le_of_ble_eq_true rfl⟩ rfl rfl rfl rfl ((s_find (d := 48) hN rfl hi (hdv i hi))) ?_
        rintro r' h' ⟨rfl, rfl⟩
        refine w_astore_n mi_a41_5 (Nat.le_of_ble_eq_true rfl) ?_
        refine w_aload_n mi_a41_6 rfl ?_
        refine w_iload_n mi_a41_7 rfl ?_
        cases hr2 : rgb y (nI N) with
        | false =>
          have hs1 : s = 1 := by
            rcases hs with ⟨-, h⟩ | ⟨h, -⟩
            · exact h
            · rw [hr2, Bool.and_false] at h; cases h
          refine w_callV mi_a41_8 rfl rfl 1 ⟨rfl, rfl⟩ ⟨Nat.le_of_ble_eq_true rfl, Nat.le_of_ble_eq_true rfl⟩ rfl rfl rfl rfl (s_findN (d := 48) hr2) ?_
          rintro r' h' ⟨rfl, rfl⟩
          refine w_astoreN mi_a41_11 (Nat.le_of_ble_eq_true rfl) ?_
          refine w_aload_n mi_a41_13 rfl ?_
          refine w_ifnull mi_a41_14 ?_
          refine w_aloadN mi_a41_17 rfl ?_
          refine w_ifnonnullN mi_a41_19 ?_
          exact bad _ rfl hs1
        | true =>
          obtain ⟨j, hj, rfl⟩ := rgb_at (n := N) (by omega) hr2
          have hM4 : M = 400 ∧ s = 5 := by
            rcases hs with ⟨h, -⟩ | ⟨-, h⟩
            · rw [hr, hr2] at h; cases h
            · exact h
          obtain ⟨hM4, rfl⟩ := hM4
          subst hM4
          refine w_callV mi_a41_8 rfl rfl 1 ⟨rfl, rfl⟩ ⟨Nat.le_of_ble_eq_true rfl, Nat.le_of_ble_eq_true rfl⟩ rfl rfl rfl rfl (s_find (d := 48) hN rfl hj (hdv j hj)) ?_
          rintro r' h' ⟨rfl, rfl⟩
          refine w_astore mi_a41_11 (Nat.le_of_ble_eq_true rfl) ?_
          refine w_aload_n mi_a41_13 rfl ?_
          refine w_ifnull mi_a41_14 ?_
          refine w_aload mi_a41_17 rfl ?_
          refine w_ifnonnull mi_a41_19 29 (by decide) ?_
          refine w_aload_n mi_a41_29 rfl ?_
          refine w_get mi_a41_30 rfl rfl rfl ?_
          refine w_sipushv (v := 400) mi_a41_33 (by decide) ?_
          refine w_icmp_lt mi_a41_36 46 (by decide) (fun z => absurd z (by decide)) (fun _ => ?_)
          refine w_aload_n mi_a41_39 rfl ?_
          refine w_iconstv (v := 5) mi_a41_40 (by decide) ?_
          refine w_put mi_a41_41 rfl rfl (Nat.le_of_ble_eq_true rfl) rfl ?_
          refine w_iconstv (v := (-1)) mi_a41_44 (by decide) ?_
          exact w_ireturn mi_a41_45 rfl ⟨rfl, pu, tc, dv, tk, dyn, A, B, px, an, by omega, ldv, ltk, ldyn, hszd, hdv, hd, rfl⟩
    · refine mi_WC.mono (d := 50) ?_ (by decide)
      subst ehm
      refine mst s (hs.elim Or.inl (fun h => Or.inr (Or.inl h))) _ ?_
      refine w_aload_n mi_a80_39 rfl ?_
      refine w_get mi_a80_40 rfl rfl rfl ?_
      refine w_if_eq mi_a80_43 48 (by decide) (fun z => ?_) (fun _ => ?_)
      · rcases hs with ⟨-, rfl⟩ | ⟨-, -, rfl⟩ <;> exact absurd z (by decide)
      refine w_iconstv (v := (-1)) mi_a80_46 (by decide) ?_
      exact w_ireturn mi_a80_47 rfl ⟨rfl, fr, pl, rw, aw, zi, fB, fA, fX, pi, lrw, law, lzi, lfB, lfA, lfX, lpi, rfl⟩
  cases hxy : (rgb x (nI N) && rgb y (nI N)) with
  | false => exact refuse 1 (Or.inl ⟨hxy, rfl⟩)
  | true =>
    by_cases hM4 : M = 400
    · exact refuse 5 (Or.inr ⟨hxy, hM4, rfl⟩)
    have hM3 : M < 400 := by omega
    obtain ⟨hr, hr2⟩ := (Bool.and_eq_true _ _).mp hxy
    have hmst := mst 0 (Or.inr (Or.inr ⟨hxy, hM4, rfl⟩))
    clear mst refuse
    obtain ⟨i, hi, rfl⟩ := rgb_at (n := N) (by omega) hr
    obtain ⟨j, hj, rfl⟩ := rgb_at (n := N) (by omega) hr2
    have hiM : (nI M).toNatClampNeg = M := nI_clamp (by omega)
    refine ⟨nI M, (N, M + 1, 0, q, kO, vO, cO, tO, fm.set M (nI i), to.set M (nI j)), ?_, ?_, ?_⟩
    · refine ⟨hN, by omega, hq, hq2, lk, lv, lc, lt, by rw [List.length_set]; exact lf, by rw [List.length_set]; exact lo, hki, fun l hl => ?_, hz⟩
      by_cases e : l = M
      · subst e
        exact ⟨i, j, hi, hj, List.getElem?_set_self (by omega), List.getElem?_set_self (by omega)⟩
      · obtain ⟨f, t, h1, h2, h3, h4⟩ := hli l (by omega)
        exact ⟨f, t, h1, h2, by rw [List.getElem?_set_ne (fun z => e z.symm)]; exact h3, by rw [List.getElem?_set_ne (fun z => e z.symm)]; exact h4⟩
    · refine mi_WC.mono (d := 50) ?_ (by decide)
      subst ehx
      refine mi_WC.of (X := mi_m41) rfl (Nat.le_of_ble_eq_true rfl) ?_
      refine w_aload_n mi_a41_0 rfl ?_
      refine w_iload_n mi_a41_1 rfl ?_
      refine w_callV mi_a41_2 rfl rfl 1 ⟨rfl, rfl⟩ ⟨Nat.le_of_ble_eq_true rfl, Nat.le_of_ble_eq_true rfl⟩ rfl rfl rfl rfl ((s_find (d := 48) hN rfl hi (hdv i hi))) ?_
      rintro r' h' ⟨rfl, rfl⟩
      refine w_astore_n mi_a41_5 (Nat.le_of_ble_eq_true rfl) ?_
      refine w_aload_n mi_a41_6 rfl ?_
      refine w_iload_n mi_a41_7 rfl ?_
      refine w_callV mi_a41_8 rfl rfl 1 ⟨rfl, rfl⟩ ⟨Nat.le_of_ble_eq_true rfl, Nat.le_of_ble_eq_true rfl⟩ rfl rfl rfl rfl (s_find (d := 48) hN rfl hj (hdv j hj)) ?_
      rintro r' h' ⟨rfl, rfl⟩
      refine w_astore mi_a41_11 (Nat.le_of_ble_eq_true rfl) ?_
      refine w_aload_n mi_a41_13 rfl ?_
      refine w_ifnull mi_a41_14 ?_
      refine w_aload mi_a41_17 rfl ?_
      refine w_ifnonnull mi_a41_19 29 (by decide) ?_
      refine w_aload_n mi_a41_29 rfl ?_
      refine w_get mi_a41_30 rfl rfl rfl ?_
      refine w_sipushv (v := 400) mi_a41_33 (by decide) ?_
      refine w_icmp_lt mi_a41_36 46 (by decide) (fun _ => ?_) (fun z => absurd (nI_lt (a := M) (b := 400) hM3 (by decide)) z)
      refine w_aload_n mi_a41_46 rfl ?_
      refine w_aload mi_a41_47 rfl ?_
      obtain ⟨k0, v0, c0, t0, -, -, -, -, -, -, hcell⟩ := dR_cell hd hi
      refine w_callV mi_a41_49 rfl rfl 1 ⟨rfl, rfl⟩ ⟨Nat.le_of_ble_eq_true rfl, Nat.le_of_ble_eq_true rfl⟩ rfl hcell rfl rfl (s_addLink (by omega) hd hN hM3 lf lo hi hj hszd) ?_
      rintro r' h' ⟨rfl, dyn2, rfl, hd2, hl2, hs2⟩
      refine w_aload_n mi_a41_52 rfl ?_
      refine w_dup mi_a41_53 rfl ?_
      refine w_get mi_a41_54 rfl rfl rfl ?_
      refine w_iconstv (v := 1) mi_a41_57 (by decide) ?_
      refine w_iaddv mi_a41_58 (nI_succ M).symm ?_
      refine w_put mi_a41_59 rfl rfl (Nat.le_of_ble_eq_true rfl) rfl ?_
      refine w_aload_n mi_a41_62 rfl ?_
      refine w_iconstv (v := 0) mi_a41_63 (by decide) ?_
      refine w_put mi_a41_64 rfl rfl (Nat.le_of_ble_eq_true rfl) rfl ?_
      refine w_aload_n mi_a41_67 rfl ?_
      refine w_get mi_a41_68 rfl rfl rfl ?_
      refine w_iconstv (v := 1) mi_a41_71 (by decide) ?_
      refine w_isubv mi_a41_72 (nI_pred M) ?_
      exact w_ireturn mi_a41_73 rfl ⟨rfl, pu, tc, dv, tk, dyn2, A, _, px, an, by omega, ldv, ltk, by omega, hs2, hdv, hd2, rfl⟩
    · refine mi_WC.mono (d := 50) ?_ (by decide)
      subst ehm
      refine hmst _ ?_
      refine w_aload_n mi_a80_39 rfl ?_
      refine w_get mi_a80_40 rfl rfl rfl ?_
      refine w_if_eq mi_a80_43 48 (by decide) (fun _ => ?_) (fun z => absurd rfl z)
      refine w_aload_n mi_a80_48 rfl ?_
      refine w_get mi_a80_49 rfl rfl rfl ?_
      refine w_aload_n mi_a80_52 rfl ?_
      refine w_get mi_a80_53 rfl rfl rfl ?_
      refine w_iload_n mi_a80_56 rfl ?_
      refine w_iast mi_a80_57 rfl (nI_pos (by omega)) (by rw [hiM, lf]; omega) ?_
      rw [hiM]
      refine w_aload_n mi_a80_58 rfl ?_
      refine w_get mi_a80_59 rfl rfl rfl ?_
      refine w_aload_n mi_a80_62 rfl ?_
      refine w_get mi_a80_63 rfl rfl rfl ?_
      refine w_iload_n mi_a80_66 rfl ?_
      refine w_iast mi_a80_67 rfl (nI_pos (by omega)) (by rw [hiM, lo]; omega) ?_
      rw [hiM]
      refine w_aload_n mi_a80_68 rfl ?_
      refine w_dup mi_a80_69 rfl ?_
      refine w_get mi_a80_70 rfl rfl rfl ?_
      refine w_iconstv (v := 1) mi_a80_73 (by decide) ?_
      refine w_iaddv mi_a80_74 (nI_succ M).symm ?_
      refine w_put mi_a80_75 rfl rfl (Nat.le_of_ble_eq_true rfl) rfl ?_
      refine w_aload_n mi_a80_78 rfl ?_
      refine w_get mi_a80_79 rfl rfl rfl ?_
      refine w_iconstv (v := 1) mi_a80_82 (by decide) ?_
      refine w_isubv mi_a80_83 (nI_pred M) ?_
      exact w_ireturn mi_a80_84 rfl ⟨rfl, fr, pl, rw, aw, zi, fB, fA, fX, pi, lrw, law, lzi, lfB, lfA, lfX, lpi, rfl⟩
