/-! every -/
theorem wye_ok {a w : Int32} (h : wye a w = 0) : ∃ aa, aa < 12 ∧ a = nI aa ∧ rgb w 7 = true := by
  unfold wye at h
  cases ha : rgb a 12 with
  | false => rw [ha] at h; revert h; simp
  | true =>
    cases hw : rgb w 7 with
    | false => rw [ha, hw] at h; revert h; simp
    | true =>
      obtain ⟨aa, haa, rfl⟩ := rgb_at (n := 12) (by decide) ha
      exact ⟨aa, haa, rfl, rfl⟩
theorem op_every (a w x : Int32) : opk 39 78 [.int a, .int w, .int x] := by
  intro Pm S hx hm hPm hI hC hM
  obtain ⟨N, M, stt, q, kO, vO, cO, tO, fm, to⟩ := S
  obtain ⟨hN, hMm, hq, hq2, lk, lv, lc, lt, lf, lo, hki, hli, hz⟩ := id hI
  obtain ⟨pu, tc, dv, tk, dyn, A, B, px, an, hpu, ldv, ltk, ldyn, hszd, hdv, hd, ehx⟩ := id hC
  obtain ⟨fr, pl, rw, aw, zi, fB, fA, fX, pi, lrw, law, lzi, lfB, lfA, lfX, lpi, ehm⟩ := id hM
  by_cases h0 : wye a w = 0
  · obtain ⟨aa, haa, rfl, hw⟩ := wye_ok h0
    have ha12 : rgb (nI aa) 12 = true := rgb_of (n := 12) (by decide) haa
    have loop : ∀ r j, j + r = N → ∀ (q : List Int32 × Nat) (vO cO : List Int32) (sum : Int32) (dyn : mi_H), sI (N, M, 0, q, kO, vO, cO, tO, fm, to) → q.2 ≤ 200 * j → (∀ c ∈ dyn, mi_szc c ≤ 12) → dyn.length = N + M → dR N M kO vO cO tO fm to pu A B px an dyn → ∃ (res : Int32) (S' : sT), sI S' ∧ (∀ e6 : Option Value, mi_W 49 mi_m39 (31, [some (.ref 0), some (.int (nI aa)), some (.int w), some (.int x), some (.int sum), some (.int (nI j)), e6], [], kh (nI N) (nI M) tc (nI pu) 0 q dv tk dyn) (fun r' h' => r' = some (.int res) ∧ cR (Pm + 1) S' h')) ∧ (∀ (fr pl : Int32) (fB fA fX pi : List Int32), fB.length = 100 → fA.length = 100 → fX.length = 100 → pi.length = 300 → mi_W 49 mi_m78 (54, [some (.ref 0), some (.int (nI aa)), some (.int w), some (.int x), some (.int sum), some (.int (nI j))], [], mh (nI N) (nI M) 0 fr pl q kO vO cO tO fm to rw aw zi fB fA fX pi) (fun r' h' => r' = some (.int res) ∧ mR S' h')) := by
      intro r
      induction r with
      | zero =>
        intro j hj q vO cO sum dyn hI hqj hszd ldyn hd
        have e : j = N := by omega
        subst e
        refine ⟨sum, _, hI, fun e6 => ?_, fun fr pl fB fA fX pi lfB lfA lfX lpi => ?_⟩
        ·
          refine w_iload mi_a39_31 rfl ?_
          refine w_aload_n mi_a39_33 rfl ?_
          refine w_get mi_a39_34 rfl rfl rfl ?_
          refine w_icmp_ge mi_a39_37 104 (by decide) (fun _ => ?_) (fun z => absurd (nI_le (Nat.le_refl j) (by omega)) z)
          refine w_iload mi_a39_104 rfl ?_
          exact w_ireturn mi_a39_106 rfl ⟨rfl, pu, tc, dv, tk, dyn, A, B, px, an, by omega, ldv, ltk, ldyn, hszd, hdv, hd, rfl⟩
        ·
          refine w_iload mi_a78_54 rfl ?_
          refine w_aload_n mi_a78_56 rfl ?_
          refine w_get mi_a78_57 rfl rfl rfl ?_
          refine w_icmp_ge mi_a78_60 103 (by decide) (fun _ => ?_) (fun z => absurd (nI_le (Nat.le_refl j) (by omega)) z)
          refine w_iload mi_a78_103 rfl ?_
          exact w_ireturn mi_a78_105 rfl ⟨rfl, fr, pl, rw, aw, zi, fB, fA, fX, pi, lrw, law, lzi, lfB, lfA, lfX, lpi, rfl⟩
      | succ r ih =>
        intro j hj q vO cO sum dyn hI hqj hszd ldyn hd
        have hj2 : j < N := by omega
        obtain ⟨-, -, hq, hq2, -, lv, lc, -, -, -, -, -, -⟩ := id hI
        obtain ⟨k, v, c, t, hk, hkO, hv, hc, ht, hp, hcell⟩ := dR_cell hd hj2
        by_cases hab : abl k w = true ∧ isof k (nI aa) w = true
        · have hok := aok_of hk haa hw hab.1 hab.2
          have hla := acR_len hk haa hok x v c q
          obtain ⟨res, S', hS, hC2, hM2⟩ := ih (j + 1) (by omega) (ac_kp (acR k aa x v c).2.2.2 q) (vO.set j (acR k aa x v c).2.1) (cO.set j (acR k aa x v c).2.2.1) (sum + (acR k aa x v c).1) (dyn.set (A j) (dvc k (acR k aa x v c).2.1 (acR k aa x v c).2.2.1 (nI (cnt fm M (nI j))) (nI (cnt to M (nI j))) t (nI (px j)) (an j) (rfB B (nx fm M (nI j) 0)) (rfB B (lst fm M (nI j))))) (sI_act (stt := 0) (q := q) hI hj2 (hla.1.trans hq) (by have := hla.2; omega)) (by have := hla.2; omega) (szc_set hszd (szc_dvc _ _ _ _ _ _ _ _ _ _)) (by rw [List.length_set]; exact ldyn) (dR_act hd hj2 hk hkO hv hc ht hp)
          refine ⟨res, S', hS, fun e6 => ?_, fun fr pl fB fA fX pi lfB lfA lfX lpi => ?_⟩
          ·
            refine w_iload mi_a39_31 rfl ?_
            refine w_aload_n mi_a39_33 rfl ?_
            refine w_get mi_a39_34 rfl rfl rfl ?_
            refine w_icmp_ge mi_a39_37 104 (by decide) (fun z => absurd z (nI_ge hj2 (by omega))) (fun _ => ?_)
            refine w_iload mi_a39_40 rfl ?_
            refine w_sipushv (v := 300) mi_a39_42 (by decide) ?_
            refine w_icmp_ge mi_a39_45 104 (by decide) (fun z => absurd z (nI_ge (a := j) (b := 300) (by omega) (by decide))) (fun _ => ?_)
            refine w_aload_n mi_a39_48 rfl ?_
            refine w_get mi_a39_49 rfl rfl rfl ?_
            refine w_iload mi_a39_52 rfl ?_
            refine w_aald mi_a39_54 rfl (nI_pos (by omega)) (by rw [nI_clamp (by omega)]; exact hdv j hj2) ?_
            refine w_astore mi_a39_55 (Nat.le_of_ble_eq_true rfl) ?_
            refine w_aload mi_a39_57 rfl ?_
            refine w_ifnull mi_a39_59 ?_
            refine w_aload mi_a39_62 rfl ?_
            refine w_iload_n mi_a39_64 rfl ?_
            refine w_callV mi_a39_65 rfl rfl 1 ⟨rfl, rfl⟩ ⟨Nat.le_of_ble_eq_true rfl, Nat.le_of_ble_eq_true rfl⟩ rfl hcell rfl rfl (s_bears (d := 47) hcell) ?_
            rintro r' h' ⟨rfl, rfl⟩
            refine w_if_eq mi_a39_68 98 (by decide) (fun z => absurd z (by rw [hab.1]; decide)) (fun _ => ?_)
            refine w_aload mi_a39_71 rfl ?_
            refine w_iload_n mi_a39_73 rfl ?_
            refine w_iload_n mi_a39_74 rfl ?_
            refine w_callV mi_a39_75 rfl rfl 2 ⟨rfl, rfl⟩ ⟨Nat.le_of_ble_eq_true rfl, Nat.le_of_ble_eq_true rfl⟩ rfl hcell rfl rfl (s_hasAct (d := 46) hcell hw) ?_
            rintro r' h' ⟨rfl, rfl⟩
            refine w_if_eq mi_a39_78 98 (by decide) (fun z => absurd z (by rw [hab.2]; decide)) (fun _ => ?_)
            refine w_iload mi_a39_81 rfl ?_
            refine w_aload_n mi_a39_83 rfl ?_
            refine w_get mi_a39_84 rfl rfl rfl ?_
            refine w_aload mi_a39_87 rfl ?_
            refine w_iload_n mi_a39_89 rfl ?_
            refine w_iload_n mi_a39_90 rfl ?_
            refine w_iconstv (v := 0) mi_a39_91 (by decide) ?_
            refine w_callV mi_a39_92 rfl rfl 4 ⟨rfl, rfl⟩ ⟨Nat.le_of_ble_eq_true rfl, Nat.le_of_ble_eq_true rfl⟩ rfl rfl rfl rfl (c_act (D := 49) (by omega) hk haa hok hq (by omega) hcell) ?_
            rintro r' h' ⟨rfl, rfl⟩
            refine w_iadd mi_a39_95 ?_
            refine w_istore mi_a39_96 (Nat.le_of_ble_eq_true rfl) ?_
            refine w_iincv mi_a39_98 rfl (nI_succ j).symm ?_
            refine w_goto mi_a39_101 31 (by decide) ?_
            exact hC2 _
          ·
            refine w_iload mi_a78_54 rfl ?_
            refine w_aload_n mi_a78_56 rfl ?_
            refine w_get mi_a78_57 rfl rfl rfl ?_
            refine w_icmp_ge mi_a78_60 103 (by decide) (fun z => absurd z (nI_ge hj2 (by omega))) (fun _ => ?_)
            refine w_aload_n mi_a78_63 rfl ?_
            refine w_iload mi_a78_64 rfl ?_
            refine w_iload_n mi_a78_66 rfl ?_
            refine w_callV mi_a78_67 rfl rfl 2 ⟨rfl, rfl⟩ ⟨Nat.le_of_ble_eq_true rfl, Nat.le_of_ble_eq_true rfl⟩ rfl rfl rfl rfl (s_mAble (d := 47) (by omega) hk hkO hw) ?_
            rintro r' h' ⟨rfl, rfl⟩
            refine w_if_eq mi_a78_70 97 (by decide) (fun z => absurd z (by rw [hab.1]; decide)) (fun _ => ?_)
            refine w_aload_n mi_a78_73 rfl ?_
            refine w_iload_n mi_a78_74 rfl ?_
            refine w_iload_n mi_a78_75 rfl ?_
            refine w_iload mi_a78_76 rfl ?_
            refine w_callV mi_a78_78 rfl rfl 3 ⟨rfl, rfl⟩ ⟨Nat.le_of_ble_eq_true rfl, Nat.le_of_ble_eq_true rfl⟩ rfl rfl rfl rfl (s_mOf (d := 47) (by omega) hk hkO hw) ?_
            rintro r' h' ⟨rfl, rfl⟩
            refine w_if_eq mi_a78_81 97 (by decide) (fun z => absurd z (by rw [hab.2]; decide)) (fun _ => ?_)
            refine w_iload mi_a78_84 rfl ?_
            refine w_aload_n mi_a78_86 rfl ?_
            refine w_iload mi_a78_87 rfl ?_
            refine w_iload_n mi_a78_89 rfl ?_
            refine w_iload_n mi_a78_90 rfl ?_
            refine w_callV mi_a78_91 rfl rfl 3 ⟨rfl, rfl⟩ ⟨Nat.le_of_ble_eq_true rfl, Nat.le_of_ble_eq_true rfl⟩ rfl rfl rfl rfl (m_act (D := 49) (by omega) hk haa hok (by omega) hkO hv hc lfB lfA lfX lpi hq (by omega)) ?_
            rintro r' h' ⟨rfl, fB2, fA2, fX2, pi2, l1, l2, l3, l4, rfl⟩
            refine w_iadd mi_a78_94 ?_
            refine w_istore mi_a78_95 (Nat.le_of_ble_eq_true rfl) ?_
            refine w_iincv mi_a78_97 rfl (nI_succ j).symm ?_
            refine w_goto mi_a78_100 54 (by decide) ?_
            exact hM2 _ _ _ _ _ _ l1 l2 l3 l4
        · obtain ⟨res, S', hS, hC2, hM2⟩ := ih (j + 1) (by omega) q vO cO sum dyn hI (by omega) hszd ldyn hd
          refine ⟨res, S', hS, fun e6 => ?_, fun fr pl fB fA fX pi lfB lfA lfX lpi => ?_⟩
          · have nxt : ∀ e6 : Option Value, mi_W 49 mi_m39 (98, [some (.ref 0), some (.int (nI aa)), some (.int w), some (.int x), some (.int sum), some (.int (nI j)), e6], [], kh (nI N) (nI M) tc (nI pu) 0 q dv tk dyn) (fun r' h' => r' = some (.int res) ∧ cR (Pm + 1) S' h') := by
              intro e6
              refine w_iincv mi_a39_98 rfl (nI_succ j).symm ?_
              refine w_goto mi_a39_101 31 (by decide) ?_
              exact hC2 _
            refine w_iload mi_a39_31 rfl ?_
            refine w_aload_n mi_a39_33 rfl ?_
            refine w_get mi_a39_34 rfl rfl rfl ?_
            refine w_icmp_ge mi_a39_37 104 (by decide) (fun z => absurd z (nI_ge hj2 (by omega))) (fun _ => ?_)
            refine w_iload mi_a39_40 rfl ?_
            refine w_sipushv (v := 300) mi_a39_42 (by decide) ?_
            refine w_icmp_ge mi_a39_45 104 (by decide) (fun z => absurd z (nI_ge (a := j) (b := 300) (by omega) (by decide))) (fun _ => ?_)
            refine w_aload_n mi_a39_48 rfl ?_
            refine w_get mi_a39_49 rfl rfl rfl ?_
            refine w_iload mi_a39_52 rfl ?_
            refine w_aald mi_a39_54 rfl (nI_pos (by omega)) (by rw [nI_clamp (by omega)]; exact hdv j hj2) ?_
            refine w_astore mi_a39_55 (Nat.le_of_ble_eq_true rfl) ?_
            refine w_aload mi_a39_57 rfl ?_
            refine w_ifnull mi_a39_59 ?_
            refine w_aload mi_a39_62 rfl ?_
            refine w_iload_n mi_a39_64 rfl ?_
            refine w_callV mi_a39_65 rfl rfl 1 ⟨rfl, rfl⟩ ⟨Nat.le_of_ble_eq_true rfl, Nat.le_of_ble_eq_true rfl⟩ rfl hcell rfl rfl (s_bears (d := 47) hcell) ?_
            rintro r' h' ⟨rfl, rfl⟩
            refine w_if_eq mi_a39_68 98 (by decide) (fun _ => nxt _) (fun c68 => ?_)
            refine w_aload mi_a39_71 rfl ?_
            refine w_iload_n mi_a39_73 rfl ?_
            refine w_iload_n mi_a39_74 rfl ?_
            refine w_callV mi_a39_75 rfl rfl 2 ⟨rfl, rfl⟩ ⟨Nat.le_of_ble_eq_true rfl, Nat.le_of_ble_eq_true rfl⟩ rfl hcell rfl rfl (s_hasAct (d := 46) hcell hw) ?_
            rintro r' h' ⟨rfl, rfl⟩
            refine w_if_eq mi_a39_78 98 (by decide) (fun _ => nxt _) (fun c78 => ?_)
            exact absurd ⟨(b01_ne0 _).mp c68, (b01_ne0 _).mp c78⟩ hab
          · have nxt : mi_W 49 mi_m78 (97, [some (.ref 0), some (.int (nI aa)), some (.int w), some (.int x), some (.int sum), some (.int (nI j))], [], mh (nI N) (nI M) 0 fr pl q kO vO cO tO fm to rw aw zi fB fA fX pi) (fun r' h' => r' = some (.int res) ∧ mR S' h') := by
              refine w_iincv mi_a78_97 rfl (nI_succ j).symm ?_
              refine w_goto mi_a78_100 54 (by decide) ?_
              exact hM2 _ _ _ _ _ _ lfB lfA lfX lpi
            refine w_iload mi_a78_54 rfl ?_
            refine w_aload_n mi_a78_56 rfl ?_
            refine w_get mi_a78_57 rfl rfl rfl ?_
            refine w_icmp_ge mi_a78_60 103 (by decide) (fun z => absurd z (nI_ge hj2 (by omega))) (fun _ => ?_)
            refine w_aload_n mi_a78_63 rfl ?_
            refine w_iload mi_a78_64 rfl ?_
            refine w_iload_n mi_a78_66 rfl ?_
            refine w_callV mi_a78_67 rfl rfl 2 ⟨rfl, rfl⟩ ⟨Nat.le_of_ble_eq_true rfl, Nat.le_of_ble_eq_true rfl⟩ rfl rfl rfl rfl (s_mAble (d := 47) (by omega) hk hkO hw) ?_
            rintro r' h' ⟨rfl, rfl⟩
            refine w_if_eq mi_a78_70 97 (by decide) (fun _ => nxt) (fun c70 => ?_)
            refine w_aload_n mi_a78_73 rfl ?_
            refine w_iload_n mi_a78_74 rfl ?_
            refine w_iload_n mi_a78_75 rfl ?_
            refine w_iload mi_a78_76 rfl ?_
            refine w_callV mi_a78_78 rfl rfl 3 ⟨rfl, rfl⟩ ⟨Nat.le_of_ble_eq_true rfl, Nat.le_of_ble_eq_true rfl⟩ rfl rfl rfl rfl (s_mOf (d := 47) (by omega) hk hkO hw) ?_
            rintro r' h' ⟨rfl, rfl⟩
            refine w_if_eq mi_a78_81 97 (by decide) (fun _ => nxt) (fun c81 => ?_)
            exact absurd ⟨(b01_ne0 _).mp c70, (b01_ne0 _).mp c81⟩ hab
    obtain ⟨res, S', hS, hC2, hM2⟩ := loop N 0 (by omega) (q.1, 0) vO cO 0 dyn (by exact ⟨hN, hMm, hq, by show 0 < 2 ^ 20; decide, lk, lv, lc, lt, lf, lo, hki, hli, hz⟩) (Nat.le_refl _) hszd ldyn hd
    refine ⟨res, S', hS, ?_, ?_⟩
    · refine mi_WC.mono (d := 50) ?_ (by decide)
      subst ehx
      refine mi_WC.of (X := mi_m39) rfl (Nat.le_of_ble_eq_true rfl) ?_
      refine w_aload_n mi_a39_0 rfl ?_
      refine w_iload_n mi_a39_1 rfl ?_
      refine w_iload_n mi_a39_2 rfl ?_
      refine w_callS mi_a39_3 rfl rfl 2 ⟨rfl, rfl⟩ ⟨Nat.le_of_ble_eq_true rfl, Nat.le_of_ble_eq_true rfl⟩ (s_refusalE (d := 46)) ?_
      rintro r' h' ⟨rfl, rfl⟩
      rw [h0]
      refine w_put mi_a39_6 rfl rfl (Nat.le_of_ble_eq_true rfl) rfl ?_
      refine w_aload_n mi_a39_9 rfl ?_
      refine w_get mi_a39_10 rfl rfl rfl ?_
      refine w_if_eq mi_a39_13 18 (by decide) (fun _ => ?_) (fun z => absurd rfl z)
      refine w_aload_n mi_a39_18 rfl ?_
      refine w_get mi_a39_19 rfl rfl rfl ?_
      refine w_callV mi_a39_22 rfl rfl 0 ⟨rfl, rfl⟩ ⟨Nat.le_of_ble_eq_true rfl, Nat.le_of_ble_eq_true rfl⟩ rfl rfl rfl rfl (s_forget (n := nI N) (m := nI M) (tc := tc) (pu := nI pu) (stt := 0) (q := q) (dv := dv) (tk := tk) (dyn := dyn) (d := 48)) ?_
      rintro r' h' ⟨rfl, rfl⟩
      refine w_iconstv (v := 0) mi_a39_25 (by decide) ?_
      refine w_istore mi_a39_26 (Nat.le_of_ble_eq_true rfl) ?_
      refine w_iconstv (v := 0) mi_a39_28 (by decide) ?_
      refine w_istore mi_a39_29 (Nat.le_of_ble_eq_true rfl) ?_
      exact hC2 _
    · refine mi_WC.mono (d := 50) ?_ (by decide)
      subst ehm
      refine mi_WC.of (X := mi_m78) rfl (Nat.le_of_ble_eq_true rfl) ?_
      refine w_iload_n mi_a78_0 rfl ?_
      refine w_callS mi_a78_1 rfl rfl 1 ⟨rfl, rfl⟩ ⟨Nat.le_of_ble_eq_true rfl, Nat.le_of_ble_eq_true rfl⟩ (s_mAct (d := 48)) ?_
      rintro r' h' ⟨rfl, rfl⟩
      rw [ha12]
      refine w_if_eq mi_a78_4 14 (by decide) (fun z => absurd z (by decide)) (fun _ => ?_)
      refine w_iload_n mi_a78_7 rfl ?_
      refine w_callS mi_a78_8 rfl rfl 1 ⟨rfl, rfl⟩ ⟨Nat.le_of_ble_eq_true rfl, Nat.le_of_ble_eq_true rfl⟩ (s_mWay (d := 48)) ?_
      rintro r' h' ⟨rfl, rfl⟩
      rw [hw]
      refine w_if_ne mi_a78_11 20 (by decide) (fun _ => ?_) (fun z => absurd z (by decide))
      have go : mi_W 49 mi_m78 (44, [some (.ref 0), some (.int (nI aa)), some (.int w), some (.int x), none, none], [], mh (nI N) (nI M) stt fr pl q kO vO cO tO fm to rw aw zi fB fA fX pi) (fun r' h' => r' = some (.int res) ∧ mR S' h') := by
        refine w_aload_n mi_a78_44 rfl ?_
        refine w_callV mi_a78_45 rfl rfl 0 ⟨rfl, rfl⟩ ⟨Nat.le_of_ble_eq_true rfl, Nat.le_of_ble_eq_true rfl⟩ rfl rfl rfl rfl (s_mBegin (d := 48)) ?_
        rintro r' h' ⟨rfl, rfl⟩
        refine w_iconstv (v := 0) mi_a78_48 (by decide) ?_
        refine w_istore mi_a78_49 (Nat.le_of_ble_eq_true rfl) ?_
        refine w_iconstv (v := 0) mi_a78_51 (by decide) ?_
        refine w_istore mi_a78_52 (Nat.le_of_ble_eq_true rfl) ?_
        exact hM2 _ _ _ _ _ _ lfB lfA lfX lpi
      refine w_iload_n mi_a78_20 rfl ?_
      refine w_if_eq mi_a78_21 44 (by decide) (fun _ => go) (fun c21 => ?_)
      obtain ⟨j, hj7, rfl⟩ := rgb_at (n := 7) (by decide) hw
      refine w_aload_n mi_a78_24 rfl ?_
      refine w_get mi_a78_25 rfl rfl rfl ?_
      refine w_iload_n mi_a78_28 rfl ?_
      refine w_iald mi_a78_29 rfl (nI_pos (by omega)) (by rw [nI_clamp (by omega)]; exact li_at (n := 7) (by decide +kernel) hj7) ?_
      refine w_iload_n mi_a78_30 rfl ?_
      refine w_callS mi_a78_31 rfl rfl 1 ⟨rfl, rfl⟩ ⟨Nat.le_of_ble_eq_true rfl, Nat.le_of_ble_eq_true rfl⟩ (s_bit (d := 48)) ?_
      rintro r' h' ⟨rfl, rfl⟩
      refine w_iand mi_a78_34 ?_
      refine w_if_ne mi_a78_35 44 (by decide) (fun _ => go) (fun z => ?_)
      unfold wye at h0
      rw [ha12, hw, nI_clamp (n := j) (by omega)] at h0
      simp only [Bool.and_self, if_true] at h0
      rw [if_neg c21] at h0
      have : cont (mi_aw.getD j 0) (nI aa) = false := by unfold cont; rw [decide_eq_true z]; rfl
      rw [this] at h0
      exact absurd h0 (by decide)
  · refine ⟨0, (N, M, wye a w, q, kO, vO, cO, tO, fm, to), sI_st (stt := stt) hI, ?_, ?_⟩
    · refine mi_WC.mono (d := 50) ?_ (by decide)
      subst ehx
      refine mi_WC.of (X := mi_m39) rfl (Nat.le_of_ble_eq_true rfl) ?_
      refine w_aload_n mi_a39_0 rfl ?_
      refine w_iload_n mi_a39_1 rfl ?_
      refine w_iload_n mi_a39_2 rfl ?_
      refine w_callS mi_a39_3 rfl rfl 2 ⟨rfl, rfl⟩ ⟨Nat.le_of_ble_eq_true rfl, Nat.le_of_ble_eq_true rfl⟩ (s_refusalE (d := 46)) ?_
      rintro r' h' ⟨rfl, rfl⟩
      refine w_put mi_a39_6 rfl rfl (Nat.le_of_ble_eq_true rfl) rfl ?_
      refine w_aload_n mi_a39_9 rfl ?_
      refine w_get mi_a39_10 rfl rfl rfl ?_
      refine w_if_eq mi_a39_13 18 (by decide) (fun z => absurd z h0) (fun _ => ?_)
      refine w_iconstv (v := 0) mi_a39_16 (by decide) ?_
      exact w_ireturn mi_a39_17 rfl ⟨rfl, pu, tc, dv, tk, dyn, A, B, px, an, by omega, ldv, ltk, ldyn, hszd, hdv, hd, rfl⟩
    · refine mi_WC.mono (d := 50) ?_ (by decide)
      subst ehm
      refine mi_WC.of (X := mi_m78) rfl (Nat.le_of_ble_eq_true rfl) ?_
      have one : (rgb a 12 && rgb w 7) = false → mi_W 49 mi_m78 (14, [some (.ref 0), some (.int a), some (.int w), some (.int x), none, none], [], mh (nI N) (nI M) stt fr pl q kO vO cO tO fm to rw aw zi fB fA fX pi) (fun r' h' => r' = some (.int 0) ∧ mR (N, M, wye a w, q, kO, vO, cO, tO, fm, to) h') := by
        intro hf
        have e1 : wye a w = 1 := by unfold wye; rw [hf]; rfl
        rw [e1]
        refine w_aload_n mi_a78_14 rfl ?_
        refine w_iconstv (v := 1) mi_a78_15 (by decide) ?_
        refine w_callV mi_a78_16 rfl rfl 1 ⟨rfl, rfl⟩ ⟨Nat.le_of_ble_eq_true rfl, Nat.le_of_ble_eq_true rfl⟩ rfl rfl rfl rfl (s_refused (d := 48)) ?_
        rintro r' h' ⟨rfl, rfl⟩
        exact w_ireturn mi_a78_19 rfl ⟨rfl, fr, pl, rw, aw, zi, fB, fA, fX, pi, lrw, law, lzi, lfB, lfA, lfX, lpi, rfl⟩
      refine w_iload_n mi_a78_0 rfl ?_
      refine w_callS mi_a78_1 rfl rfl 1 ⟨rfl, rfl⟩ ⟨Nat.le_of_ble_eq_true rfl, Nat.le_of_ble_eq_true rfl⟩ (s_mAct (d := 48)) ?_
      rintro r' h' ⟨rfl, rfl⟩
      refine w_if_eq mi_a78_4 14 (by decide) (fun z => one (by rw [(b01_eq0 _).mp z, Bool.false_and])) (fun c4 => ?_)
      refine w_iload_n mi_a78_7 rfl ?_
      refine w_callS mi_a78_8 rfl rfl 1 ⟨rfl, rfl⟩ ⟨Nat.le_of_ble_eq_true rfl, Nat.le_of_ble_eq_true rfl⟩ (s_mWay (d := 48)) ?_
      rintro r' h' ⟨rfl, rfl⟩
      refine w_if_ne mi_a78_11 20 (by decide) (fun c11 => ?_) (fun z => one (by rw [(b01_eq0 _).mp z, Bool.and_false]))
      have ha := (b01_ne0 _).mp c4
      have hw := (b01_ne0 _).mp c11
      obtain ⟨j, hj7, rfl⟩ := rgb_at (n := 7) (by decide) hw
      have ew : wye a (nI j) = if nI j = 0 then 0 else if cont (mi_aw.getD j 0) a then 0 else 3 := by unfold wye; rw [ha, hw, nI_clamp (n := j) (by omega)]; rfl
      rw [ew] at h0 ⊢
      refine w_iload_n mi_a78_20 rfl ?_
      refine w_if_eq mi_a78_21 44 (by decide) (fun z => absurd (if_pos z) h0) (fun c21 => ?_)
      rw [if_neg c21] at h0 ⊢
      refine w_aload_n mi_a78_24 rfl ?_
      refine w_get mi_a78_25 rfl rfl rfl ?_
      refine w_iload_n mi_a78_28 rfl ?_
      refine w_iald mi_a78_29 rfl (nI_pos (by omega)) (by rw [nI_clamp (by omega)]; exact li_at (n := 7) (by decide +kernel) hj7) ?_
      refine w_iload_n mi_a78_30 rfl ?_
      refine w_callS mi_a78_31 rfl rfl 1 ⟨rfl, rfl⟩ ⟨Nat.le_of_ble_eq_true rfl, Nat.le_of_ble_eq_true rfl⟩ (s_bit (d := 48)) ?_
      rintro r' h' ⟨rfl, rfl⟩
      refine w_iand mi_a78_34 ?_
      have hcz : cont (mi_aw.getD j 0) a = false := by
        cases z : cont (mi_aw.getD j 0) a with
        | false => rfl
        | true => rw [z] at h0; exact absurd rfl h0
      rw [hcz]
      refine w_if_ne mi_a78_35 44 (by decide) (fun z => ?_) (fun _ => ?_)
      · unfold cont at hcz
        rw [decide_eq_false z] at hcz
        cases hcz
      refine w_aload_n mi_a78_38 rfl ?_
      refine w_iconstv (v := 3) mi_a78_39 (by decide) ?_
      refine w_callV mi_a78_40 rfl rfl 1 ⟨rfl, rfl⟩ ⟨Nat.le_of_ble_eq_true rfl, Nat.le_of_ble_eq_true rfl⟩ rfl rfl rfl rfl (s_refused (d := 48)) ?_
      rintro r' h' ⟨rfl, rfl⟩
      exact w_ireturn mi_a78_43 rfl ⟨rfl, fr, pl, rw, aw, zi, fB, fA, fX, pi, lrw, law, lzi, lfB, lfA, lfX, lpi, rfl⟩
