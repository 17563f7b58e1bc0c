/-! state, device -/
theorem i3_le5 {x : Int32} : x ≤ 5 ↔ x < 6 := by
  rw [Int32.le_iff_toInt_le, Int32.lt_iff_toInt_lt, show (5 : Int32).toInt = 5 from rfl, show (6 : Int32).toInt = 6 from rfl]
  omega
theorem s_isProp {d : Nat} {h : mi_H} {x : Int32} : mi_WC (d + 1) 19 [.int x] h (fun r h' => r = some (.int (b01 (rgb x 6))) ∧ h' = h) := by
  refine mi_WC.of (X := mi_m19) rfl (Nat.le_of_ble_eq_true rfl) ?_
  refine w_iload_n mi_a19_0 rfl ?_
  refine w_if_lt mi_a19_1 13 (by decide) (fun c1 => ?_) (fun c1 => ?_)
  · refine w_iconstv (v := 0) mi_a19_13 (by decide) ?_
    exact w_zreturn mi_a19_14 rfl (by decide) ⟨by rw [rgb_f0 c1]; rfl, rfl⟩
  refine w_iload_n mi_a19_4 rfl ?_
  refine w_iconstv (v := 5) mi_a19_5 (by decide) ?_
  refine w_icmp_gt mi_a19_6 13 (by decide) (fun c6 => ?_) (fun c6 => ?_)
  · refine w_iconstv (v := 0) mi_a19_13 (by decide) ?_
    exact w_zreturn mi_a19_14 rfl (by decide) ⟨by rw [rgb_f1 (Int32.not_lt.mp (fun z => absurd c6 (Int32.not_lt.mpr (i3_le5.mpr z))))]; rfl, rfl⟩
  refine w_iconstv (v := 1) mi_a19_9 (by decide) ?_
  refine w_goto mi_a19_10 14 (by decide) ?_
  exact w_zreturn mi_a19_14 rfl (by decide) ⟨by rw [rgb_t.mpr ⟨c1, i3_le5.mp (Int32.not_lt.mp c6)⟩]; rfl, rfl⟩
/-- what state() tells of a device -/
def stv (k : Nat) (v c og ic t : Int32) (j : Nat) : Int32 := if j = 0 then nI k else if j = 1 then v else if j = 2 then c else if j = 3 then og else if j = 4 then ic else t
theorem s_property {d ja k j : Nat} {h : mi_H} {v c og ic t p an : Int32} {fl ll : Value} (hj : h[ja]? = some (dvc k v c og ic t p an fl ll)) (h6 : j < 6) : mi_WC (d + 1) 20 [.ref ja, .int (nI j)] h (fun r h' => r = some (.int (stv k v c og ic t j)) ∧ h' = h) := by
  refine mi_WC.of (X := mi_m20) rfl (Nat.le_of_ble_eq_true rfl) ?_
  refine w_iload_n mi_a20_0 rfl ?_
  have e : j = 0 ∨ j = 1 ∨ j = 2 ∨ j = 3 ∨ j = 4 ∨ j = 5 := by omega
  rcases e with rfl | rfl | rfl | rfl | rfl | rfl
  · refine w_tswIn (off := 39) mi_a20_1 (by decide) (by decide) 40 (by decide) ?_
    refine w_aload_n mi_a20_40 rfl ?_
    refine w_get mi_a20_41 rfl hj rfl ?_
    exact w_ireturn mi_a20_44 rfl ⟨rfl, rfl⟩
  · refine w_tswIn (off := 44) mi_a20_1 (by decide) (by decide) 45 (by decide) ?_
    refine w_aload_n mi_a20_45 rfl ?_
    refine w_get mi_a20_46 rfl hj rfl ?_
    exact w_ireturn mi_a20_49 rfl ⟨rfl, rfl⟩
  · refine w_tswIn (off := 49) mi_a20_1 (by decide) (by decide) 50 (by decide) ?_
    refine w_aload_n mi_a20_50 rfl ?_
    refine w_get mi_a20_51 rfl hj rfl ?_
    exact w_ireturn mi_a20_54 rfl ⟨rfl, rfl⟩
  · refine w_tswIn (off := 54) mi_a20_1 (by decide) (by decide) 55 (by decide) ?_
    refine w_aload_n mi_a20_55 rfl ?_
    refine w_get mi_a20_56 rfl hj rfl ?_
    exact w_ireturn mi_a20_59 rfl ⟨rfl, rfl⟩
  · refine w_tswIn (off := 59) mi_a20_1 (by decide) (by decide) 60 (by decide) ?_
    refine w_aload_n mi_a20_60 rfl ?_
    refine w_get mi_a20_61 rfl hj rfl ?_
    exact w_ireturn mi_a20_64 rfl ⟨rfl, rfl⟩
  · refine w_tswIn (off := 64) mi_a20_1 (by decide) (by decide) 65 (by decide) ?_
    refine w_aload_n mi_a20_65 rfl ?_
    refine w_get mi_a20_66 rfl hj rfl ?_
    exact w_ireturn mi_a20_69 rfl ⟨rfl, rfl⟩
theorem op_state (x w : Int32) : opk 46 86 [.int x, .int w] := by
  intro Pm S hx hm hPm hI hC hM
  obtain ⟨N, M, stt, q, kO, vO, cO, tO, fm, to⟩ := S
  obtain ⟨hN, hMm, hq, hq2, lk, lv, lc, lt, lf, lo, hki, hli, hz⟩ := id hI
  obtain ⟨pu, tc, dv, tk, dyn, A, B, px, an, hpu, ldv, ltk, ldyn, hszd, hdv, hd, ehx⟩ := id hC
  obtain ⟨fr, pl, rw, aw, zi, fB, fA, fX, pi, lrw, law, lzi, lfB, lfA, lfX, lpi, ehm⟩ := id hM
  cases hg : (rgb x (nI N) && rgb w 6) with
  | false =>
    refine ⟨0, (N, M, 1, q, kO, vO, cO, tO, fm, to), sI_st (stt := stt) hI, ?_, ?_⟩
    · refine mi_WC.mono (d := 50) ?_ (by decide)
      subst ehx
      refine mi_WC.of (X := mi_m46) rfl (Nat.le_of_ble_eq_true rfl) ?_
      have no : ∀ L : List (Option Value), L[0]? = some (some (.ref 0)) → mi_W 49 mi_m46 (17, L, [], kh (nI N) (nI M) tc (nI pu) stt q dv tk dyn) (fun r' h' => r' = some (.int 0) ∧ cR (Pm + 1) (N, M, 1, q, kO, vO, cO, tO, fm, to) h') := by
        intro L hL
        refine w_aload_n mi_a46_17 hL ?_
        refine w_iconstv (v := 1) mi_a46_18 (by decide) ?_
        refine w_put mi_a46_19 rfl rfl (Nat.le_of_ble_eq_true rfl) rfl ?_
        refine w_iconstv (v := 0) mi_a46_22 (by decide) ?_
        exact w_ireturn mi_a46_23 rfl ⟨rfl, pu, tc, dv, tk, dyn, A, B, px, an, by omega, ldv, ltk, ldyn, hszd, hdv, hd, rfl⟩
      refine w_aload_n mi_a46_0 rfl ?_
      refine w_iload_n mi_a46_1 rfl ?_
      cases hr : rgb x (nI N) with
      | false =>
        refine w_callV mi_a46_2 rfl rfl 1 ⟨rfl, rfl⟩ ⟨Nat.le_of_ble_eq_true rfl, Nat.le_of_ble_eq_true rfl⟩ rfl rfl rfl rfl (s_findN (d := 48) hr) ?_
        rintro r' h' ⟨rfl, rfl⟩
        refine w_astore_nN mi_a46_5 (Nat.le_of_ble_eq_true rfl) ?_
        refine w_aload_nN mi_a46_6 rfl ?_
        refine w_ifnullN mi_a46_7 17 (by decide) ?_
        exact no _ rfl
      | true =>
        obtain ⟨i, hi, rfl⟩ := rgb_at (n := N) (by omega) hr
        refine w_callV mi_a46_2 rfl rfl 1 ⟨rfl, rfl⟩ ⟨Nat.le_of_ble_eq_true rfl, Nat.le_of_ble_eq_true rfl⟩ rfl rfl rfl rfl ((s_find (d := 48) hN rfl hi (hdv i hi))) ?_
        rintro r' h' ⟨rfl, rfl⟩
        refine w_astore_n mi_a46_5 (Nat.le_of_ble_eq_true rfl) ?_
        refine w_aload_n mi_a46_6 rfl ?_
        refine w_ifnull mi_a46_7 ?_
        refine w_iload_n mi_a46_10 rfl ?_
        refine w_callS mi_a46_11 rfl rfl 1 ⟨rfl, rfl⟩ ⟨Nat.le_of_ble_eq_true rfl, Nat.le_of_ble_eq_true rfl⟩ (s_isProp (d := 48)) ?_
        rintro r' h' ⟨rfl, rfl⟩
        rw [hr, Bool.true_and] at hg
        rw [hg]
        refine w_if_ne mi_a46_14 24 (by decide) (fun z => absurd rfl z) (fun _ => ?_)
        exact no _ rfl
    · refine mi_WC.mono (d := 50) ?_ (by decide)
      subst ehm
      refine mi_WC.of (X := mi_m86) rfl (Nat.le_of_ble_eq_true rfl) ?_
      have no : ∀ L : List (Option Value), L[0]? = some (some (.ref 0)) → mi_W 49 mi_m86 (17, L, [], mh (nI N) (nI M) stt fr pl q kO vO cO tO fm to rw aw zi fB fA fX pi) (fun r' h' => r' = some (.int 0) ∧ mR (N, M, 1, q, kO, vO, cO, tO, fm, to) h') := by
        intro L hL
        refine w_aload_n mi_a86_17 hL ?_
        refine w_iconstv (v := 1) mi_a86_18 (by decide) ?_
        refine w_callV mi_a86_19 rfl rfl 1 ⟨rfl, rfl⟩ ⟨Nat.le_of_ble_eq_true rfl, Nat.le_of_ble_eq_true rfl⟩ rfl rfl rfl rfl (s_refused (d := 48)) ?_
        rintro r' h' ⟨rfl, rfl⟩
        exact w_ireturn mi_a86_22 rfl ⟨rfl, fr, pl, rw, aw, zi, fB, fA, fX, pi, lrw, law, lzi, lfB, lfA, lfX, lpi, rfl⟩
      refine w_aload_n mi_a86_0 rfl ?_
      refine w_iload_n mi_a86_1 rfl ?_
      refine w_callV mi_a86_2 rfl rfl 1 ⟨rfl, rfl⟩ ⟨Nat.le_of_ble_eq_true rfl, Nat.le_of_ble_eq_true rfl⟩ rfl rfl rfl rfl (s_mDev (d := 48)) ?_
      rintro r' h' ⟨rfl, rfl⟩
      refine w_if_eq mi_a86_5 17 (by decide) (fun _ => no _ rfl) (fun c5 => ?_)
      rw [(b01_ne0 _).mp c5, Bool.true_and] at hg
      refine w_iload_n mi_a86_8 rfl ?_
      refine w_if_lt mi_a86_9 17 (by decide) (fun _ => no _ rfl) (fun c9 => ?_)
      refine w_iload_n mi_a86_12 rfl ?_
      refine w_iconstv (v := 5) mi_a86_13 (by decide) ?_
      refine w_icmp_le mi_a86_14 23 (by decide) (fun z => ?_) (fun _ => no _ rfl)
      rw [rgb_t.mpr ⟨c9, i3_le5.mp z⟩] at hg
      cases hg
  | true =>
    obtain ⟨hr, hw⟩ := (Bool.and_eq_true _ _).mp hg
    obtain ⟨i, hi, rfl⟩ := rgb_at (n := N) (by omega) hr
    obtain ⟨j, hj6, rfl⟩ := rgb_at (n := 6) (by decide) hw
    obtain ⟨k, v, c, t, hk, hkO, hv, hc, ht, hp, hcell⟩ := dR_cell hd hi
    refine ⟨stv k v c (nI (cnt fm M (nI i))) (nI (cnt to M (nI i))) t j, (N, M, 0, q, kO, vO, cO, tO, fm, to), sI_st (stt := stt) hI, ?_, ?_⟩
    · refine mi_WC.mono (d := 50) ?_ (by decide)
      subst ehx
      refine mi_WC.of (X := mi_m46) rfl (Nat.le_of_ble_eq_true rfl) ?_
      refine w_aload_n mi_a46_0 rfl ?_
      refine w_iload_n mi_a46_1 rfl ?_
      refine w_callV mi_a46_2 rfl rfl 1 ⟨rfl, rfl⟩ ⟨Nat.le_of_ble_eq_true rfl, Nat.le_of_ble_eq_true rfl⟩ rfl rfl rfl rfl ((s_find (d := 48) hN rfl hi (hdv i hi))) ?_
      rintro r' h' ⟨rfl, rfl⟩
      refine w_astore_n mi_a46_5 (Nat.le_of_ble_eq_true rfl) ?_
      refine w_aload_n mi_a46_6 rfl ?_
      refine w_ifnull mi_a46_7 ?_
      refine w_iload_n mi_a46_10 rfl ?_
      refine w_callS mi_a46_11 rfl rfl 1 ⟨rfl, rfl⟩ ⟨Nat.le_of_ble_eq_true rfl, Nat.le_of_ble_eq_true rfl⟩ (s_isProp (d := 48)) ?_
      rintro r' h' ⟨rfl, rfl⟩
      rw [hw]
      refine w_if_ne mi_a46_14 24 (by decide) (fun _ => ?_) (fun z => absurd z (by decide))
      refine w_aload_n mi_a46_24 rfl ?_
      refine w_iconstv (v := 0) mi_a46_25 (by decide) ?_
      refine w_put mi_a46_26 rfl rfl (Nat.le_of_ble_eq_true rfl) rfl ?_
      refine w_aload_n mi_a46_29 rfl ?_
      refine w_iload_n mi_a46_30 rfl ?_
      refine w_callV mi_a46_31 rfl rfl 1 ⟨rfl, rfl⟩ ⟨Nat.le_of_ble_eq_true rfl, Nat.le_of_ble_eq_true rfl⟩ rfl hcell rfl rfl (s_property (d := 48) (h := kh (nI N) (nI M) tc (nI pu) 0 q dv tk dyn) hcell hj6) ?_
      rintro r' h' ⟨rfl, rfl⟩
      exact w_ireturn mi_a46_34 rfl ⟨rfl, pu, tc, dv, tk, dyn, A, B, px, an, by omega, ldv, ltk, ldyn, hszd, hdv, hd, rfl⟩
    have e : j = 0 ∨ j = 1 ∨ j = 2 ∨ j = 3 ∨ j = 4 ∨ j = 5 := by omega
    rcases e with rfl | rfl | rfl | rfl | rfl | rfl
    · refine mi_WC.mono (d := 50) ?_ (by decide)
      subst ehm
      refine mi_WC.of (X := mi_m86) rfl (Nat.le_of_ble_eq_true rfl) ?_
      refine w_aload_n mi_a86_0 rfl ?_
      refine w_iload_n mi_a86_1 rfl ?_
      refine w_callV mi_a86_2 rfl rfl 1 ⟨rfl, rfl⟩ ⟨Nat.le_of_ble_eq_true rfl, Nat.le_of_ble_eq_true rfl⟩ rfl rfl rfl rfl (s_mDev (d := 48)) ?_
      rintro r' h' ⟨rfl, rfl⟩
      refine w_if_eq mi_a86_5 17 (by decide) (fun z => absurd z (by rw [hr]; decide)) (fun _ => ?_)
      refine w_iload_n mi_a86_8 rfl ?_
      refine w_if_lt mi_a86_9 17 (by decide) (fun z => absurd z (by decide)) (fun _ => ?_)
      refine w_iload_n mi_a86_12 rfl ?_
      refine w_iconstv (v := 5) mi_a86_13 (by decide) ?_
      refine w_icmp_le mi_a86_14 23 (by decide) (fun _ => ?_) (fun z => absurd (by decide) z)
      refine w_aload_n mi_a86_23 rfl ?_
      refine w_iconstv (v := 0) mi_a86_24 (by decide) ?_
      refine w_put mi_a86_25 rfl rfl (Nat.le_of_ble_eq_true rfl) rfl ?_
      refine w_iload_n mi_a86_28 rfl ?_
      refine w_if_ne mi_a86_29 39 (by decide) (fun z => absurd rfl z) (fun _ => ?_)
      refine w_aload_n mi_a86_32 rfl ?_
      refine w_get mi_a86_33 rfl rfl rfl ?_
      refine w_iload_n mi_a86_36 rfl ?_
      refine w_iald mi_a86_37 rfl (nI_pos (by omega)) (by rw [nI_clamp (by omega)]; exact hkO) ?_
      exact w_ireturn mi_a86_38 rfl ⟨rfl, fr, pl, rw, aw, zi, fB, fA, fX, pi, lrw, law, lzi, lfB, lfA, lfX, lpi, rfl⟩
    · refine mi_WC.mono (d := 50) ?_ (by decide)
      subst ehm
      refine mi_WC.of (X := mi_m86) rfl (Nat.le_of_ble_eq_true rfl) ?_
      refine w_aload_n mi_a86_0 rfl ?_
      refine w_iload_n mi_a86_1 rfl ?_
      refine w_callV mi_a86_2 rfl rfl 1 ⟨rfl, rfl⟩ ⟨Nat.le_of_ble_eq_true rfl, Nat.le_of_ble_eq_true rfl⟩ rfl rfl rfl rfl (s_mDev (d := 48)) ?_
      rintro r' h' ⟨rfl, rfl⟩
      refine w_if_eq mi_a86_5 17 (by decide) (fun z => absurd z (by rw [hr]; decide)) (fun _ => ?_)
      refine w_iload_n mi_a86_8 rfl ?_
      refine w_if_lt mi_a86_9 17 (by decide) (fun z => absurd z (by decide)) (fun _ => ?_)
      refine w_iload_n mi_a86_12 rfl ?_
      refine w_iconstv (v := 5) mi_a86_13 (by decide) ?_
      refine w_icmp_le mi_a86_14 23 (by decide) (fun _ => ?_) (fun z => absurd (by decide) z)
      refine w_aload_n mi_a86_23 rfl ?_
      refine w_iconstv (v := 0) mi_a86_24 (by decide) ?_
      refine w_put mi_a86_25 rfl rfl (Nat.le_of_ble_eq_true rfl) rfl ?_
      refine w_iload_n mi_a86_28 rfl ?_
      refine w_if_ne mi_a86_29 39 (by decide) (fun _ => ?_) (fun z => absurd z (by decide))
      refine w_iload_n mi_a86_39 rfl ?_
      refine w_iconstv (v := 1) mi_a86_40 (by decide) ?_
      refine w_icmp_ne mi_a86_41 51 (by decide) (fun z => absurd rfl z) (fun _ => ?_)
      refine w_aload_n mi_a86_44 rfl ?_
      refine w_get mi_a86_45 rfl rfl rfl ?_
      refine w_iload_n mi_a86_48 rfl ?_
      refine w_iald mi_a86_49 rfl (nI_pos (by omega)) (by rw [nI_clamp (by omega)]; exact hv) ?_
      exact w_ireturn mi_a86_50 rfl ⟨rfl, fr, pl, rw, aw, zi, fB, fA, fX, pi, lrw, law, lzi, lfB, lfA, lfX, lpi, rfl⟩
    · refine mi_WC.mono (d := 50) ?_ (by decide)
      subst ehm
      refine mi_WC.of (X := mi_m86) rfl (Nat.le_of_ble_eq_true rfl) ?_
      refine w_aload_n mi_a86_0 rfl ?_
      refine w_iload_n mi_a86_1 rfl ?_
      refine w_callV mi_a86_2 rfl rfl 1 ⟨rfl, rfl⟩ ⟨Nat.le_of_ble_eq_true rfl, Nat.le_of_ble_eq_true rfl⟩ rfl rfl rfl rfl (s_mDev (d := 48)) ?_
      rintro r' h' ⟨rfl, rfl⟩
      refine w_if_eq mi_a86_5 17 (by decide) (fun z => absurd z (by rw [hr]; decide)) (fun _ => ?_)
      refine w_iload_n mi_a86_8 rfl ?_
      refine w_if_lt mi_a86_9 17 (by decide) (fun z => absurd z (by decide)) (fun _ => ?_)
      refine w_iload_n mi_a86_12 rfl ?_
      refine w_iconstv (v := 5) mi_a86_13 (by decide) ?_
      refine w_icmp_le mi_a86_14 23 (by decide) (fun _ => ?_) (fun z => absurd (by decide) z)
      refine w_aload_n mi_a86_23 rfl ?_
      refine w_iconstv (v := 0) mi_a86_24 (by decide) ?_
      refine w_put mi_a86_25 rfl rfl (Nat.le_of_ble_eq_true rfl) rfl ?_
      refine w_iload_n mi_a86_28 rfl ?_
      refine w_if_ne mi_a86_29 39 (by decide) (fun _ => ?_) (fun z => absurd z (by decide))
      refine w_iload_n mi_a86_39 rfl ?_
      refine w_iconstv (v := 1) mi_a86_40 (by decide) ?_
      refine w_icmp_ne mi_a86_41 51 (by decide) (fun _ => ?_) (fun z => absurd z (by decide))
      refine w_iload_n mi_a86_51 rfl ?_
      refine w_iconstv (v := 2) mi_a86_52 (by decide) ?_
      refine w_icmp_ne mi_a86_53 63 (by decide) (fun z => absurd rfl z) (fun _ => ?_)
      refine w_aload_n mi_a86_56 rfl ?_
      refine w_get mi_a86_57 rfl rfl rfl ?_
      refine w_iload_n mi_a86_60 rfl ?_
      refine w_iald mi_a86_61 rfl (nI_pos (by omega)) (by rw [nI_clamp (by omega)]; exact hc) ?_
      exact w_ireturn mi_a86_62 rfl ⟨rfl, fr, pl, rw, aw, zi, fB, fA, fX, pi, lrw, law, lzi, lfB, lfA, lfX, lpi, rfl⟩
    · refine mi_WC.mono (d := 50) ?_ (by decide)
      subst ehm
      refine mi_WC.of (X := mi_m86) rfl (Nat.le_of_ble_eq_true rfl) ?_
      refine w_aload_n mi_a86_0 rfl ?_
      refine w_iload_n mi_a86_1 rfl ?_
      refine w_callV mi_a86_2 rfl rfl 1 ⟨rfl, rfl⟩ ⟨Nat.le_of_ble_eq_true rfl, Nat.le_of_ble_eq_true rfl⟩ rfl rfl rfl rfl (s_mDev (d := 48)) ?_
      rintro r' h' ⟨rfl, rfl⟩
      refine w_if_eq mi_a86_5 17 (by decide) (fun z => absurd z (by rw [hr]; decide)) (fun _ => ?_)
      refine w_iload_n mi_a86_8 rfl ?_
      refine w_if_lt mi_a86_9 17 (by decide) (fun z => absurd z (by decide)) (fun _ => ?_)
      refine w_iload_n mi_a86_12 rfl ?_
      refine w_iconstv (v := 5) mi_a86_13 (by decide) ?_
      refine w_icmp_le mi_a86_14 23 (by decide) (fun _ => ?_) (fun z => absurd (by decide) z)
      refine w_aload_n mi_a86_23 rfl ?_
      refine w_iconstv (v := 0) mi_a86_24 (by decide) ?_
      refine w_put mi_a86_25 rfl rfl (Nat.le_of_ble_eq_true rfl) rfl ?_
      refine w_iload_n mi_a86_28 rfl ?_
      refine w_if_ne mi_a86_29 39 (by decide) (fun _ => ?_) (fun z => absurd z (by decide))
      refine w_iload_n mi_a86_39 rfl ?_
      refine w_iconstv (v := 1) mi_a86_40 (by decide) ?_
      refine w_icmp_ne mi_a86_41 51 (by decide) (fun _ => ?_) (fun z => absurd z (by decide))
      refine w_iload_n mi_a86_51 rfl ?_
      refine w_iconstv (v := 2) mi_a86_52 (by decide) ?_
      refine w_icmp_ne mi_a86_53 63 (by decide) (fun _ => ?_) (fun z => absurd z (by decide))
      refine w_iload_n mi_a86_63 rfl ?_
      refine w_iconstv (v := 5) mi_a86_64 (by decide) ?_
      refine w_icmp_ne mi_a86_65 75 (by decide) (fun _ => ?_) (fun z => absurd z (by decide))
      refine w_iconstv (v := 0) mi_a86_75 (by decide) ?_
      refine w_istore_n mi_a86_76 (Nat.le_of_ble_eq_true rfl) ?_
      refine w_iconstv (v := 0) mi_a86_77 (by decide) ?_
      refine w_istore mi_a86_78 (Nat.le_of_ble_eq_true rfl) ?_
      have loop : ∀ r l, l + r = M → mi_W 49 mi_m86 (80, [some (.ref 0), some (.int (nI i)), some (.int 3), some (.int (nI (cnt fm l (nI i)))), some (.int (nI l))], [], mh (nI N) (nI M) 0 fr pl q kO vO cO tO fm to rw aw zi fB fA fX pi) (fun r' h' => r' = some (.int (nI (cnt fm M (nI i)))) ∧ mR (N, M, 0, q, kO, vO, cO, tO, fm, to) h') := by
        intro r
        induction r with
        | zero =>
          intro l hl
          have e : l = M := by omega
          subst e
          refine w_iload mi_a86_80 rfl ?_
          refine w_aload_n mi_a86_82 rfl ?_
          refine w_get mi_a86_83 rfl rfl rfl ?_
          refine w_icmp_ge mi_a86_86 124 (by decide) (fun _ => ?_) (fun z => absurd (nI_le (Nat.le_refl l) (by omega)) z)
          refine w_iload_n mi_a86_124 rfl ?_
          exact w_ireturn mi_a86_125 rfl ⟨rfl, fr, pl, rw, aw, zi, fB, fA, fX, pi, lrw, law, lzi, lfB, lfA, lfX, lpi, rfl⟩
        | succ r ih =>
          intro l hl
          have hl2 : l < M := by omega
          obtain ⟨f, t2, hf, ht2, hfm, hto⟩ := hli l hl2
          have nxt : ∀ n2 : Nat, n2 = cnt fm (l + 1) (nI i) → mi_W 49 mi_m86 (118, [some (.ref 0), some (.int (nI i)), some (.int 3), some (.int (nI n2)), some (.int (nI l))], [], mh (nI N) (nI M) 0 fr pl q kO vO cO tO fm to rw aw zi fB fA fX pi) (fun r' h' => r' = some (.int (nI (cnt fm M (nI i)))) ∧ mR (N, M, 0, q, kO, vO, cO, tO, fm, to) h') := by
            intro n2 hn2
            subst hn2
            refine w_iincv mi_a86_118 rfl (nI_succ l).symm ?_
            refine w_goto mi_a86_121 80 (by decide) ?_
            exact ih (l + 1) (by omega)
          refine w_iload mi_a86_80 rfl ?_
          refine w_aload_n mi_a86_82 rfl ?_
          refine w_get mi_a86_83 rfl rfl rfl ?_
          refine w_icmp_ge mi_a86_86 124 (by decide) (fun z => absurd z (nI_ge hl2 (by omega))) (fun _ => ?_)
          refine w_iload_n mi_a86_89 rfl ?_
          refine w_iconstv (v := 3) mi_a86_90 (by decide) ?_
          refine w_icmp_ne mi_a86_91 104 (by decide) (fun z => absurd rfl z) (fun _ => ?_)
          refine w_aload_n mi_a86_94 rfl ?_
          refine w_get mi_a86_95 rfl rfl rfl ?_
          refine w_iload mi_a86_98 rfl ?_
          refine w_iald mi_a86_100 rfl (nI_pos (by omega)) (by rw [nI_clamp (by omega)]; exact hfm) ?_
          refine w_goto mi_a86_101 111 (by decide) ?_
          refine w_iload_n mi_a86_111 rfl ?_
          refine w_icmp_ne mi_a86_112 118 (by decide) (fun z => ?_) (fun z => ?_)
          · refine nxt _ ?_
            show _ = cnt fm l (nI i) + _
            rw [hfm, if_neg (fun w => z (Option.some.inj w))]
            omega
          · refine w_iincv mi_a86_115 rfl (nI_succ _).symm ?_
            refine nxt _ ?_
            show _ = cnt fm l (nI i) + _
            rw [hfm, if_pos (congrArg some z)]
      exact loop M 0 (by omega)
    · refine mi_WC.mono (d := 50) ?_ (by decide)
      subst ehm
      refine mi_WC.of (X := mi_m86) rfl (Nat.le_of_ble_eq_true rfl) ?_
      refine w_aload_n mi_a86_0 rfl ?_
      refine w_iload_n mi_a86_1 rfl ?_
      refine w_callV mi_a86_2 rfl rfl 1 ⟨rfl, rfl⟩ ⟨Nat.le_of_ble_eq_true rfl, Nat.le_of_ble_eq_true rfl⟩ rfl rfl rfl rfl (s_mDev (d := 48)) ?_
      rintro r' h' ⟨rfl, rfl⟩
      refine w_if_eq mi_a86_5 17 (by decide) (fun z => absurd z (by rw [hr]; decide)) (fun _ => ?_)
      refine w_iload_n mi_a86_8 rfl ?_
      refine w_if_lt mi_a86_9 17 (by decide) (fun z => absurd z (by decide)) (fun _ => ?_)
      refine w_iload_n mi_a86_12 rfl ?_
      refine w_iconstv (v := 5) mi_a86_13 (by decide) ?_
      refine w_icmp_le mi_a86_14 23 (by decide) (fun _ => ?_) (fun z => absurd (by decide) z)
      refine w_aload_n mi_a86_23 rfl ?_
      refine w_iconstv (v := 0) mi_a86_24 (by decide) ?_
      refine w_put mi_a86_25 rfl rfl (Nat.le_of_ble_eq_true rfl) rfl ?_
      refine w_iload_n mi_a86_28 rfl ?_
      refine w_if_ne mi_a86_29 39 (by decide) (fun _ => ?_) (fun z => absurd z (by decide))
      refine w_iload_n mi_a86_39 rfl ?_
      refine w_iconstv (v := 1) mi_a86_40 (by decide) ?_
      refine w_icmp_ne mi_a86_41 51 (by decide) (fun _ => ?_) (fun z => absurd z (by decide))
      refine w_iload_n mi_a86_51 rfl ?_
      refine w_iconstv (v := 2) mi_a86_52 (by decide) ?_
      refine w_icmp_ne mi_a86_53 63 (by decide) (fun _ => ?_) (fun z => absurd z (by decide))
      refine w_iload_n mi_a86_63 rfl ?_
      refine w_iconstv (v := 5) mi_a86_64 (by decide) ?_
      refine w_icmp_ne mi_a86_65 75 (by decide) (fun _ => ?_) (fun z => absurd z (by decide))
      refine w_iconstv (v := 0) mi_a86_75 (by decide) ?_
      refine w_istore_n mi_a86_76 (Nat.le_of_ble_eq_true rfl) ?_
      refine w_iconstv (v := 0) mi_a86_77 (by decide) ?_
      refine w_istore mi_a86_78 (Nat.le_of_ble_eq_true rfl) ?_
      have loop : ∀ r l, l + r = M → mi_W 49 mi_m86 (80, [some (.ref 0), some (.int (nI i)), some (.int 4), some (.int (nI (cnt to l (nI i)))), some (.int (nI l))], [], mh (nI N) (nI M) 0 fr pl q kO vO cO tO fm to rw aw zi fB fA fX pi) (fun r' h' => r' = some (.int (nI (cnt to M (nI i)))) ∧ mR (N, M, 0, q, kO, vO, cO, tO, fm, to) h') := by
        intro r
        induction r with
        | zero =>
          intro l hl
          have e : l = M := by omega
          subst e
          refine w_iload mi_a86_80 rfl ?_
          refine w_aload_n mi_a86_82 rfl ?_
          refine w_get mi_a86_83 rfl rfl rfl ?_
          refine w_icmp_ge mi_a86_86 124 (by decide) (fun _ => ?_) (fun z => absurd (nI_le (Nat.le_refl l) (by omega)) z)
          refine w_iload_n mi_a86_124 rfl ?_
          exact w_ireturn mi_a86_125 rfl ⟨rfl, fr, pl, rw, aw, zi, fB, fA, fX, pi, lrw, law, lzi, lfB, lfA, lfX, lpi, rfl⟩
        | succ r ih =>
          intro l hl
          have hl2 : l < M := by omega
          obtain ⟨f, t2, hf, ht2, hfm, hto⟩ := hli l hl2
          have nxt : ∀ n2 : Nat, n2 = cnt to (l + 1) (nI i) → mi_W 49 mi_m86 (118, [some (.ref 0), some (.int (nI i)), some (.int 4), some (.int (nI n2)), some (.int (nI l))], [], mh (nI N) (nI M) 0 fr pl q kO vO cO tO fm to rw aw zi fB fA fX pi) (fun r' h' => r' = some (.int (nI (cnt to M (nI i)))) ∧ mR (N, M, 0, q, kO, vO, cO, tO, fm, to) h') := by
            intro n2 hn2
            subst hn2
            refine w_iincv mi_a86_118 rfl (nI_succ l).symm ?_
            refine w_goto mi_a86_121 80 (by decide) ?_
            exact ih (l + 1) (by omega)
          refine w_iload mi_a86_80 rfl ?_
          refine w_aload_n mi_a86_82 rfl ?_
          refine w_get mi_a86_83 rfl rfl rfl ?_
          refine w_icmp_ge mi_a86_86 124 (by decide) (fun z => absurd z (nI_ge hl2 (by omega))) (fun _ => ?_)
          refine w_iload_n mi_a86_89 rfl ?_
          refine w_iconstv (v := 3) mi_a86_90 (by decide) ?_
          refine w_icmp_ne mi_a86_91 104 (by decide) (fun _ => ?_) (fun z => absurd z (by decide))
          refine w_aload_n mi_a86_104 rfl ?_
          refine w_get mi_a86_105 rfl rfl rfl ?_
          refine w_iload mi_a86_108 rfl ?_
          refine w_iald mi_a86_110 rfl (nI_pos (by omega)) (by rw [nI_clamp (by omega)]; exact hto) ?_
          refine w_iload_n mi_a86_111 rfl ?_
          refine w_icmp_ne mi_a86_112 118 (by decide) (fun z => ?_) (fun z => ?_)
          · refine nxt _ ?_
            show _ = cnt to l (nI i) + _
            rw [hto, if_neg (fun w => z (Option.some.inj w))]
            omega
          · refine w_iincv mi_a86_115 rfl (nI_succ _).symm ?_
            refine nxt _ ?_
            show _ = cnt to l (nI i) + _
            rw [hto, if_pos (congrArg some z)]
      exact loop M 0 (by omega)
    · refine mi_WC.mono (d := 50) ?_ (by decide)
      subst ehm
      refine mi_WC.of (X := mi_m86) rfl (Nat.le_of_ble_eq_true rfl) ?_
      refine w_aload_n mi_a86_0 rfl ?_
      refine w_iload_n mi_a86_1 rfl ?_
      refine w_callV mi_a86_2 rfl rfl 1 ⟨rfl, rfl⟩ ⟨Nat.le_of_ble_eq_true rfl, Nat.le_of_ble_eq_true rfl⟩ rfl rfl rfl rfl (s_mDev (d := 48)) ?_
      rintro r' h' ⟨rfl, rfl⟩
      refine w_if_eq mi_a86_5 17 (by decide) (fun z => absurd z (by rw [hr]; decide)) (fun _ => ?_)
      refine w_iload_n mi_a86_8 rfl ?_
      refine w_if_lt mi_a86_9 17 (by decide) (fun z => absurd z (by decide)) (fun _ => ?_)
      refine w_iload_n mi_a86_12 rfl ?_
      refine w_iconstv (v := 5) mi_a86_13 (by decide) ?_
      refine w_icmp_le mi_a86_14 23 (by decide) (fun _ => ?_) (fun z => absurd (by decide) z)
      refine w_aload_n mi_a86_23 rfl ?_
      refine w_iconstv (v := 0) mi_a86_24 (by decide) ?_
      refine w_put mi_a86_25 rfl rfl (Nat.le_of_ble_eq_true rfl) rfl ?_
      refine w_iload_n mi_a86_28 rfl ?_
      refine w_if_ne mi_a86_29 39 (by decide) (fun _ => ?_) (fun z => absurd z (by decide))
      refine w_iload_n mi_a86_39 rfl ?_
      refine w_iconstv (v := 1) mi_a86_40 (by decide) ?_
      refine w_icmp_ne mi_a86_41 51 (by decide) (fun _ => ?_) (fun z => absurd z (by decide))
      refine w_iload_n mi_a86_51 rfl ?_
      refine w_iconstv (v := 2) mi_a86_52 (by decide) ?_
      refine w_icmp_ne mi_a86_53 63 (by decide) (fun _ => ?_) (fun z => absurd z (by decide))
      refine w_iload_n mi_a86_63 rfl ?_
      refine w_iconstv (v := 5) mi_a86_64 (by decide) ?_
      refine w_icmp_ne mi_a86_65 75 (by decide) (fun z => absurd rfl z) (fun _ => ?_)
      refine w_aload_n mi_a86_68 rfl ?_
      refine w_get mi_a86_69 rfl rfl rfl ?_
      refine w_iload_n mi_a86_72 rfl ?_
      refine w_iald mi_a86_73 rfl (nI_pos (by omega)) (by rw [nI_clamp (by omega)]; exact ht) ?_
      exact w_ireturn mi_a86_74 rfl ⟨rfl, fr, pl, rw, aw, zi, fB, fA, fX, pi, lrw, law, lzi, lfB, lfA, lfX, lpi, rfl⟩
