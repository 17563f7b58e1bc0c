/-! device -/
theorem cnt_none {xs : List Int32} {x : Int32} : ∀ m, (∀ l, l < m → xs[l]? ≠ some x) → cnt xs m x = 0 ∧ (∀ l, nx xs m x l = none) ∧ lst xs m x = none
  | 0, _ => ⟨rfl, fun _ => rfl, rfl⟩
  | m + 1, h => by
    obtain ⟨h1, h2, h3⟩ := cnt_none (xs := xs) (x := x) m (fun l hl => h l (by omega))
    have hm := h m (by omega)
    refine ⟨?_, fun l => ?_, ?_⟩
    · show cnt xs m x + _ = 0
      rw [h1, if_neg hm]
    · unfold nx
      rw [h2 l]
      simp only
      rw [if_neg (fun z => hm z.2)]
    · unfold lst
      rw [if_neg hm]
      exact h3
theorem s_devInit {d n0 j k : Nat} {n m tc pu stt v : Int32} {q : List Int32 × Nat} {dv tk : List (Option Nat)} {dyn : mi_H} (hk : k < 11) (hj : dyn[j]? = some (.inl (1, [.int 0, .int 0, .int 0, .int 0, .int 0, .int 0, .int 0, .int 0, .int 0, .int 0, .null, .null]))) : mi_WC (d + 6) 14 [.ref (j + 6), .int (nI k), .int v] (kh n m tc pu stt q dv tk dyn) (fun r h' => r = none ∧ h' = kh n m tc pu stt q dv tk (dyn.set j (dvc k v 0 0 0 0 0 0 .null .null))) := by
  obtain ⟨w1, w2⟩ := ways_at hk
  refine mi_WC.of (X := mi_m14) rfl (Nat.le_of_ble_eq_true rfl) ?_
  refine w_aload_n mi_a14_0 rfl ?_
  refine w_objInit mi_a14_1 rfl (Nat.le_of_ble_eq_true rfl) ?_
  refine w_aload_n mi_a14_4 rfl ?_
  refine w_iload_n mi_a14_5 rfl ?_
  refine w_put mi_a14_6 rfl hj (Nat.le_of_ble_eq_true rfl) rfl ?_
  have hj1 := mi_set_at (h := kh n m tc pu stt q dv tk dyn) (a := j + 6) (c := .inl (1, [.int (nI k), .int 0, .int 0, .int 0, .int 0, .int 0, .int 0, .int 0, .int 0, .int 0, .null, .null])) hj
  refine w_aload_n mi_a14_9 rfl ?_
  refine w_iload_n mi_a14_10 rfl ?_
  refine w_put mi_a14_11 rfl hj1 (Nat.le_of_ble_eq_true rfl) rfl ?_
  have hj2 := mi_set_at (c := .inl (1, [.int (nI k), .int 0, .int 0, .int v, .int 0, .int 0, .int 0, .int 0, .int 0, .int 0, .null, .null])) hj1
  refine w_aload_n mi_a14_14 rfl ?_
  refine w_iload_n mi_a14_15 rfl ?_
  refine w_callS mi_a14_16 rfl rfl 1 ⟨rfl, rfl⟩ ⟨Nat.le_of_ble_eq_true rfl, Nat.le_of_ble_eq_true rfl⟩ (mi_WC.mono (mi_Pf_WC w1 _) (by omega)) ?_
  rintro r' h' ⟨rfl, rfl⟩
  refine w_put mi_a14_19 rfl hj2 (Nat.le_of_ble_eq_true rfl) rfl ?_
  have hj3 := mi_set_at (c := .inl (1, [.int (nI k), .int (mi_wy.getD k 0), .int 0, .int v, .int 0, .int 0, .int 0, .int 0, .int 0, .int 0, .null, .null])) hj2
  refine w_aload_n mi_a14_22 rfl ?_
  refine w_aload_n mi_a14_23 rfl ?_
  refine w_get mi_a14_24 rfl hj3 rfl ?_
  refine w_callS mi_a14_27 rfl rfl 1 ⟨rfl, rfl⟩ ⟨Nat.le_of_ble_eq_true rfl, Nat.le_of_ble_eq_true rfl⟩ (mi_WC.mono (mi_Pf_WC w2 _) (by omega)) ?_
  rintro r' h' ⟨rfl, rfl⟩
  refine w_put mi_a14_30 rfl hj3 (Nat.le_of_ble_eq_true rfl) rfl ?_
  refine w_vreturn mi_a14_33 rfl ⟨rfl, ?_⟩
  simp only [List.set_set]
  rfl
theorem dR_new {N M : Nat} {kO vO cO tO fm to : List Int32} {pu k : Nat} {A B px : Nat → Nat} {an : Nat → Int32} {dyn : mi_H} {v : Int32} (hd : dR N M kO vO cO tO fm to pu A B px an dyn) (hk : k < 11) (hN : N < 300) (lk : kO.length = 300) (lv : vO.length = 300) (hz : cO[N]? = some 0 ∧ tO[N]? = some 0) :
  dR (N + 1) M (kO.set N (nI k)) (vO.set N v) cO tO fm to pu (fun j => if j = N then dyn.length else A j) B (fun j => if j = N then 0 else px j) (fun j => if j = N then 0 else an j) (dyn ++ [dvc k v 0 0 0 0 0 0 .null .null]) := by
  obtain ⟨h1, h2, h3, h4⟩ := hd
  have hA : ∀ i, i < N → A i < dyn.length := fun i hi => by
    obtain ⟨k', v', c', t', -, -, -, -, -, -, hcell⟩ := h3 i hi
    exact (List.getElem?_eq_some_iff.mp hcell).1
  have hB : ∀ l, l < M → B l < dyn.length := fun l hl => by
    obtain ⟨f, t', -, -, -, -, hcell⟩ := h4 l hl
    exact (List.getElem?_eq_some_iff.mp hcell).1
  have hnN : ∀ f, f < N → (some (nI f) : Option Int32) ≠ some (nI N) := fun f hf z => by
    have e := Option.some.inj z
    have e1 : f = N := by rw [← nI_clamp (n := f) (by omega), e, nI_clamp (by omega)]
    omega
  have zf := cnt_none (xs := fm) (x := nI N) M (fun l hl => by obtain ⟨f, t', g1, g2, g3, g4, -⟩ := h4 l hl; rw [g3]; exact hnN f g1)
  have zt := cnt_none (xs := to) (x := nI N) M (fun l hl => by obtain ⟨f, t', g1, g2, g3, g4, -⟩ := h4 l hl; rw [g4]; exact hnN t' g2)
  refine ⟨fun i j hi hj e => ?_, h2, fun i hi => ?_, fun l hl => ?_⟩
  · dsimp only at e
    by_cases e1 : i = N
    · by_cases e2 : j = N
      · omega
      · rw [if_pos e1, if_neg e2] at e
        have := hA j (by omega)
        omega
    · by_cases e2 : j = N
      · rw [if_neg e1, if_pos e2] at e
        have := hA i (by omega)
        omega
      · rw [if_neg e1, if_neg e2] at e
        exact h1 i j (by omega) (by omega) e
  · by_cases e : i = N
    · subst e
      refine ⟨k, v, 0, 0, hk, List.getElem?_set_self (by omega), List.getElem?_set_self (by omega), hz.1, hz.2, by simp, ?_⟩
      rw [zf.1, zt.1, zf.2.1 0, zf.2.2]
      simp only [if_true]
      rw [List.getElem?_append_right (Nat.le_refl _), Nat.sub_self]
      rfl
    · have hi2 : i < N := by omega
      obtain ⟨k', v', c', t', g1, g2, g3, g4, g5, g6, hcell⟩ := h3 i hi2
      refine ⟨k', v', c', t', g1, by rw [List.getElem?_set_ne (fun z => e z.symm)]; exact g2, by rw [List.getElem?_set_ne (fun z => e z.symm)]; exact g3, g4, g5, by simp only [if_neg e]; exact g6, ?_⟩
      simp only [if_neg e]
      rw [List.getElem?_append_left (hA i hi2)]
      exact hcell
  · obtain ⟨f, t', g1, g2, g3, g4, hcell⟩ := h4 l hl
    refine ⟨f, t', by omega, by omega, g3, g4, ?_⟩
    dsimp only
    rw [List.getElem?_append_left (hB l hl), if_neg (show ¬ t' = N by omega)]
    exact hcell
theorem op_device (x v : Int32) : opk 37 76 [.int x, .int v] := by
  intro Pm S hx hm hPm hI hC hM
  obtain ⟨N, M, stt, q, kO, vO, cO, tO, fm, to⟩ := S
  obtain ⟨hN, hMm, hq, hq2, lk, lv, lc, lt, lf, lo, hki, hli, hz⟩ := id hI
  obtain ⟨pu, tc, dv, tk, dyn, A, B, px, an, hpu, ldv, ltk, ldyn, hszd, hdv, hd, ehx⟩ := id hC
  obtain ⟨fr, pl, rw, aw, zi, fB, fA, fX, pi, lrw, law, lzi, lfB, lfA, lfX, lpi, ehm⟩ := id hM
  have refuse : ∀ s : Int32, (s = 1 ∧ rgb x 11 = false) ∨ (s = 5 ∧ rgb x 11 = true ∧ N = 300) → ∃ (r : Int32) (S' : sT), sI S' ∧ mi_WC 60 37 [.ref 0, .int x, .int v] hx (fun r' h' => r' = some (.int r) ∧ cR (Pm + 1) S' h') ∧ mi_WC 60 76 [.ref 0, .int x, .int v] hm (fun r' h' => r' = some (.int r) ∧ mR S' h') := by
    intro s hs
    refine ⟨-1, (N, M, s, q, kO, vO, cO, tO, fm, to), sI_st (stt := stt) hI, ?_, ?_⟩
    · refine mi_WC.mono (d := 50) ?_ (by decide)
      subst ehx
      refine mi_WC.of (X := mi_m37) rfl (Nat.le_of_ble_eq_true rfl) ?_
      refine w_iload_n mi_a37_0 rfl ?_
      refine w_callS mi_a37_1 rfl rfl 1 ⟨rfl, rfl⟩ ⟨Nat.le_of_ble_eq_true rfl, Nat.le_of_ble_eq_true rfl⟩ (s_cKind (d := 48)) ?_
      rintro r' h' ⟨rfl, rfl⟩
      rcases hs with ⟨rfl, hx⟩ | ⟨rfl, hx, rfl⟩
      · rw [hx]
        refine w_if_ne mi_a37_4 14 (by decide) (fun z => absurd rfl z) (fun _ => ?_)
        refine w_aload_n mi_a37_7 rfl ?_
        refine w_iconstv (v := 1) mi_a37_8 (by decide) ?_
        refine w_put mi_a37_9 rfl rfl (Nat.le_of_ble_eq_true rfl) rfl ?_
        refine w_iconstv (v := (-1)) mi_a37_12 (by decide) ?_
        exact w_ireturn mi_a37_13 rfl ⟨rfl, pu, tc, dv, tk, dyn, A, B, px, an, by omega, ldv, ltk, ldyn, hszd, hdv, hd, rfl⟩
      · rw [hx]
        refine w_if_ne mi_a37_4 14 (by decide) (fun _ => ?_) (fun z => absurd z (by decide))
        refine w_aload_n mi_a37_14 rfl ?_
        refine w_get mi_a37_15 rfl rfl rfl ?_
        refine w_sipushv (v := 300) mi_a37_18 (by decide) ?_
        refine w_icmp_lt mi_a37_21 31 (by decide) (fun z => absurd z (by decide)) (fun _ => ?_)
        refine w_aload_n mi_a37_24 rfl ?_
        refine w_iconstv (v := 5) mi_a37_25 (by decide) ?_
        refine w_put mi_a37_26 rfl rfl (Nat.le_of_ble_eq_true rfl) rfl ?_
        refine w_iconstv (v := (-1)) mi_a37_29 (by decide) ?_
        exact w_ireturn mi_a37_30 rfl ⟨rfl, pu, tc, dv, tk, dyn, A, B, px, an, by omega, ldv, ltk, ldyn, hszd, hdv, hd, rfl⟩
    · refine mi_WC.mono (d := 50) ?_ (by decide)
      subst ehm
      refine mi_WC.of (X := mi_m76) rfl (Nat.le_of_ble_eq_true rfl) ?_
      have fin : mi_W 49 mi_m76 (30, [some (.ref 0), some (.int x), some (.int v)], [.int s, .ref 0], mh (nI N) (nI M) stt fr pl q kO vO cO tO fm to rw aw zi fB fA fX pi) (fun r' h' => r' = some (.int (-1)) ∧ mR (N, M, s, q, kO, vO, cO, tO, fm, to) h') := by
        refine w_put mi_a76_30 rfl rfl (Nat.le_of_ble_eq_true rfl) rfl ?_
        refine w_aload_n mi_a76_33 rfl ?_
        refine w_get mi_a76_34 rfl rfl rfl ?_
        refine w_if_eq mi_a76_37 42 (by decide) (fun z => ?_) (fun _ => ?_)
        · rcases hs with ⟨rfl, -⟩ | ⟨rfl, -⟩ <;> exact absurd z (by decide)
        refine w_iconstv (v := (-1)) mi_a76_40 (by decide) ?_
        exact w_ireturn mi_a76_41 rfl ⟨rfl, fr, pl, rw, aw, zi, fB, fA, fX, pi, lrw, law, lzi, lfB, lfA, lfX, lpi, rfl⟩
      refine w_aload_n mi_a76_0 rfl ?_
      refine w_iload_n mi_a76_1 rfl ?_
      rcases hs with ⟨rfl, hx⟩ | ⟨rfl, hx, rfl⟩
      · have one : mi_W 49 mi_m76 (11, [some (.ref 0), some (.int x), some (.int v)], [.ref 0], mh (nI N) (nI M) stt fr pl q kO vO cO tO fm to rw aw zi fB fA fX pi) (fun r' h' => r' = some (.int (-1)) ∧ mR (N, M, 1, q, kO, vO, cO, tO, fm, to) h') := by
          refine w_iconstv (v := 1) mi_a76_11 (by decide) ?_
          refine w_goto mi_a76_12 30 (by decide) ?_
          exact fin
        refine w_if_lt mi_a76_2 11 (by decide) (fun _ => one) (fun c2 => ?_)
        refine w_iload_n mi_a76_5 rfl ?_
        refine w_bipushv (v := 11) mi_a76_6 (by decide) ?_
        refine w_icmp_lt mi_a76_8 15 (by decide) (fun c8 => ?_) (fun _ => one)
        rw [rgb_t.mpr ⟨c2, c8⟩] at hx
        cases hx
      · obtain ⟨x1, x2⟩ := rgb_t.mp hx
        refine w_if_lt mi_a76_2 11 (by decide) (fun z => absurd z x1) (fun _ => ?_)
        refine w_iload_n mi_a76_5 rfl ?_
        refine w_bipushv (v := 11) mi_a76_6 (by decide) ?_
        refine w_icmp_lt mi_a76_8 15 (by decide) (fun _ => ?_) (fun z => absurd x2 z)
        refine w_aload_n mi_a76_15 rfl ?_
        refine w_get mi_a76_16 rfl rfl rfl ?_
        refine w_sipushv (v := 300) mi_a76_19 (by decide) ?_
        refine w_icmp_ne mi_a76_22 29 (by decide) (fun z => absurd rfl z) (fun _ => ?_)
        refine w_iconstv (v := 5) mi_a76_25 (by decide) ?_
        refine w_goto mi_a76_26 30 (by decide) ?_
        exact fin
  cases hx : rgb x 11 with
  | false => exact refuse 1 (Or.inl ⟨rfl, hx⟩)
  | true =>
    by_cases hNe : N = 300
    · exact refuse 5 (Or.inr ⟨rfl, hx, hNe⟩)
    have hN3 : N < 300 := by omega
    obtain ⟨x1, x2⟩ := rgb_t.mp hx
    obtain ⟨k, hk, rfl⟩ := rgb_at (n := 11) (by decide) hx
    have hiN : (nI N).toNatClampNeg = N := nI_clamp (by omega)
    refine ⟨nI N, (N + 1, M, 0, q, kO.set N (nI k), vO.set N v, cO, tO, fm, to), ?_, ?_, ?_⟩
    · refine ⟨by omega, hMm, hq, hq2, by rw [List.length_set]; exact lk, by rw [List.length_set]; exact lv, lc, lt, lf, lo, fun i hi => ?_, fun l hl => ?_, fun i hi hi2 => hz i (by omega) hi2⟩
      · by_cases e : i = N
        · subst e; exact ⟨k, hk, List.getElem?_set_self (by omega)⟩
        · obtain ⟨k', h1, h2⟩ := hki i (by omega)
          exact ⟨k', h1, by rw [List.getElem?_set_ne (fun z => e z.symm)]; exact h2⟩
      · obtain ⟨f, t, h1, h2, h3⟩ := hli l hl
        exact ⟨f, t, by omega, by omega, h3⟩
    · refine mi_WC.mono (d := 50) ?_ (by decide)
      subst ehx
      refine mi_WC.of (X := mi_m37) rfl (Nat.le_of_ble_eq_true rfl) ?_
      refine w_iload_n mi_a37_0 rfl ?_
      refine w_callS mi_a37_1 rfl rfl 1 ⟨rfl, rfl⟩ ⟨Nat.le_of_ble_eq_true rfl, Nat.le_of_ble_eq_true rfl⟩ (s_cKind (d := 48)) ?_
      rintro r' h' ⟨rfl, rfl⟩
      rw [hx]
      refine w_if_ne mi_a37_4 14 (by decide) (fun _ => ?_) (fun z => absurd z (by decide))
      refine w_aload_n mi_a37_14 rfl ?_
      refine w_get mi_a37_15 rfl rfl rfl ?_
      refine w_sipushv (v := 300) mi_a37_18 (by decide) ?_
      refine w_icmp_lt mi_a37_21 31 (by decide) (fun _ => ?_) (fun z => absurd (nI_lt (a := N) (b := 300) hN3 (by decide)) z)
      refine w_aload_n mi_a37_31 rfl ?_
      refine w_get mi_a37_32 rfl rfl rfl ?_
      refine w_aload_n mi_a37_35 rfl ?_
      refine w_get mi_a37_36 rfl rfl rfl ?_
      refine w_new mi_a37_39 rfl rfl ?_
      show mi_W 49 mi_m37 (39 + 3, _, .ref (dyn.length + 6) :: .int (nI N) :: .ref 4 :: [], kh (nI N) (nI M) tc (nI pu) stt q dv tk (dyn ++ [.inl (1, [.int 0, .int 0, .int 0, .int 0, .int 0, .int 0, .int 0, .int 0, .int 0, .int 0, .null, .null])])) _
      refine w_dup mi_a37_42 rfl ?_
      refine w_iload_n mi_a37_43 rfl ?_
      refine w_iload_n mi_a37_44 rfl ?_
      refine w_callI mi_a37_45 rfl rfl rfl 2 ⟨rfl, rfl⟩ ⟨Nat.le_of_ble_eq_true rfl, Nat.le_of_ble_eq_true rfl⟩ rfl (show (kh (nI N) (nI M) tc (nI pu) stt q dv tk (dyn ++ [.inl (1, [.int 0, .int 0, .int 0, .int 0, .int 0, .int 0, .int 0, .int 0, .int 0, .int 0, .null, .null])]))[dyn.length + 6]? = some (.inl (1, [.int 0, .int 0, .int 0, .int 0, .int 0, .int 0, .int 0, .int 0, .int 0, .int 0, .null, .null])) from ?_) rfl rfl (s_devInit (d := 43) (n0 := 0) hk (by simp)) ?_
      · show (dyn ++ [_])[dyn.length]? = _
        simp
      rintro r' h' ⟨rfl, rfl⟩
      have es : (dyn ++ [(.inl (1, [.int 0, .int 0, .int 0, .int 0, .int 0, .int 0, .int 0, .int 0, .int 0, .int 0, .null, .null]) : mi_C)]).set dyn.length (dvc k v 0 0 0 0 0 0 .null .null) = dyn ++ [dvc k v 0 0 0 0 0 0 .null .null] := by simp [List.set_append]
      rw [es]
      refine w_aast mi_a37_48 rfl (nI_pos (by omega)) (by rw [hiN, ldv]; omega) (show (kh (nI N) (nI M) tc (nI pu) stt q dv tk (dyn ++ [dvc k v 0 0 0 0 0 0 .null .null]))[dyn.length + 6]? = some (dvc k v 0 0 0 0 0 0 .null .null) from ?_) ?_
      · show (dyn ++ [_])[dyn.length]? = _
        simp
      rw [hiN]
      refine w_aload_n mi_a37_49 rfl ?_
      refine w_dup mi_a37_50 rfl ?_
      refine w_get mi_a37_51 rfl rfl rfl ?_
      refine w_iconstv (v := 1) mi_a37_54 (by decide) ?_
      refine w_iaddv mi_a37_55 (nI_succ N).symm ?_
      refine w_put mi_a37_56 rfl rfl (Nat.le_of_ble_eq_true rfl) rfl ?_
      refine w_aload_n mi_a37_59 rfl ?_
      refine w_iconstv (v := 0) mi_a37_60 (by decide) ?_
      refine w_put mi_a37_61 rfl rfl (Nat.le_of_ble_eq_true rfl) rfl ?_
      refine w_aload_n mi_a37_64 rfl ?_
      refine w_get mi_a37_65 rfl rfl rfl ?_
      refine w_iconstv (v := 1) mi_a37_68 (by decide) ?_
      refine w_isubv mi_a37_69 (nI_pred N) ?_
      refine w_ireturn mi_a37_70 rfl ⟨rfl, pu, tc, dv.set N (some (dyn.length + 6)), tk, dyn ++ [dvc k v 0 0 0 0 0 0 .null .null], (fun j => if j = N then dyn.length else A j), B, (fun j => if j = N then 0 else px j), (fun j => if j = N then 0 else an j), by omega, by rw [List.length_set]; exact ldv, ltk, by rw [List.length_append, ldyn, List.length_singleton]; omega, ?_, ?_, dR_new hd hk hN3 lk lv (hz N (Nat.le_refl _) hN3), rfl⟩
      · intro x hx
        rcases List.mem_append.mp hx with z | z
        · exact hszd x z
        · rw [List.mem_singleton.mp z]; exact szc_dvc _ _ _ _ _ _ _ _ _ _
      · intro i hi
        by_cases e : i = N
        · subst e
          dsimp only
          rw [List.getElem?_set_self (by omega), if_pos rfl]
        · dsimp only
          rw [List.getElem?_set_ne (fun z => e z.symm), if_neg e]
          exact hdv i (by omega)
    · refine mi_WC.mono (d := 50) ?_ (by decide)
      subst ehm
      refine mi_WC.of (X := mi_m76) rfl (Nat.le_of_ble_eq_true rfl) ?_
      refine w_aload_n mi_a76_0 rfl ?_
      refine w_iload_n mi_a76_1 rfl ?_
      refine w_if_lt mi_a76_2 11 (by decide) (fun z => absurd z x1) (fun _ => ?_)
      refine w_iload_n mi_a76_5 rfl ?_
      refine w_bipushv (v := 11) mi_a76_6 (by decide) ?_
      refine w_icmp_lt mi_a76_8 15 (by decide) (fun _ => ?_) (fun z => absurd x2 z)
      refine w_aload_n mi_a76_15 rfl ?_
      refine w_get mi_a76_16 rfl rfl rfl ?_
      refine w_sipushv (v := 300) mi_a76_19 (by decide) ?_
      refine w_icmp_ne mi_a76_22 29 (by decide) (fun _ => ?_) (fun z => absurd z (fun z => by
        have e : N = 300 := by rw [← hiN, z]; decide
        omega))
      refine w_iconstv (v := 0) mi_a76_29 (by decide) ?_
      refine w_put mi_a76_30 rfl rfl (Nat.le_of_ble_eq_true rfl) rfl ?_
      refine w_aload_n mi_a76_33 rfl ?_
      refine w_get mi_a76_34 rfl rfl rfl ?_
      refine w_if_eq mi_a76_37 42 (by decide) (fun _ => ?_) (fun z => absurd rfl z)
      refine w_aload_n mi_a76_42 rfl ?_
      refine w_get mi_a76_43 rfl rfl rfl ?_
      refine w_aload_n mi_a76_46 rfl ?_
      refine w_get mi_a76_47 rfl rfl rfl ?_
      refine w_iload_n mi_a76_50 rfl ?_
      refine w_iast mi_a76_51 rfl (nI_pos (by omega)) (by rw [hiN, lk]; omega) ?_
      rw [hiN]
      refine w_aload_n mi_a76_52 rfl ?_
      refine w_get mi_a76_53 rfl rfl rfl ?_
      refine w_aload_n mi_a76_56 rfl ?_
      refine w_get mi_a76_57 rfl rfl rfl ?_
      refine w_iload_n mi_a76_60 rfl ?_
      refine w_iast mi_a76_61 rfl (nI_pos (by omega)) (by rw [hiN, lv]; omega) ?_
      rw [hiN]
      refine w_aload_n mi_a76_62 rfl ?_
      refine w_dup mi_a76_63 rfl ?_
      refine w_get mi_a76_64 rfl rfl rfl ?_
      refine w_iconstv (v := 1) mi_a76_67 (by decide) ?_
      refine w_iaddv mi_a76_68 (nI_succ N).symm ?_
      refine w_put mi_a76_69 rfl rfl (Nat.le_of_ble_eq_true rfl) rfl ?_
      refine w_aload_n mi_a76_72 rfl ?_
      refine w_get mi_a76_73 rfl rfl rfl ?_
      refine w_iconstv (v := 1) mi_a76_76 (by decide) ?_
      refine w_isubv mi_a76_77 (nI_pred N) ?_
      exact w_ireturn mi_a76_78 rfl ⟨rfl, fr, pl, rw, aw, zi, fB, fA, fX, pi, lrw, law, lzi, lfB, lfA, lfX, lpi, rfl⟩
