/-! feed -/
theorem bt_and (b : BitVec 32) (s : Nat) (hs : s ≤ 24) : (b >>> s) &&& 255#32 = (b.sshiftRight s) &&& 255#32 := by
  apply BitVec.eq_of_getLsbD_eq
  intro i hi
  simp only [BitVec.getLsbD_and, BitVec.getLsbD_ushiftRight, BitVec.getLsbD_sshiftRight]
  by_cases h : i < 8
  · have h2 : s + i < 32 := by omega
    simp [h2, hi, show ¬ 32 ≤ i by omega]
  · have h3 : (255#32).getLsbD i = false := by
      have : ∀ j : Fin 32, 8 ≤ j.val → (255#32).getLsbD j.val = false := by decide +kernel
      exact this ⟨i, hi⟩ (by show 8 ≤ i; omega)
    rw [h3, Bool.and_false, Bool.and_false]
def fsh : Nat → Int32
  | 0 => -8
  | 1 => 0
  | 2 => 8
  | 3 => 16
  | _ => 24
theorem fsh_ok : ∀ r, r < 4 → ¬ fsh (r + 1) < 0 ∧ fsh (r + 1) + (-8) = fsh r ∧ ∀ b : Int32, (b.toUInt32 >>> ((fsh (r + 1)).toUInt32 &&& Int32.toUInt32 31)).toInt32 &&& 255 = (b >>> (fsh (r + 1) &&& 31)) &&& 255
  | 0, _ => ⟨by decide, by decide, fun b => Int32.toBitVec_inj.mp (bt_and b.toBitVec 0 (by decide))⟩
  | 1, _ => ⟨by decide, by decide, fun b => Int32.toBitVec_inj.mp (bt_and b.toBitVec 8 (by decide))⟩
  | 2, _ => ⟨by decide, by decide, fun b => Int32.toBitVec_inj.mp (bt_and b.toBitVec 16 (by decide))⟩
  | 3, _ => ⟨by decide, by decide, fun b => Int32.toBitVec_inj.mp (bt_and b.toBitVec 24 (by decide))⟩
  | n + 4, h => absurd h (by omega)
theorem tld (X : Int32) : ∃ t, t < 256 ∧ X &&& 255 = nI t := by
  refine ⟨(X &&& 255).toBitVec.toNat, ?_, ?_⟩
  · have : (X &&& 255).toBitVec.toNat = X.toBitVec.toNat &&& 255 := by
      rw [Int32.toBitVec_and, BitVec.toNat_and]
      rfl
    rw [this]
    exact Nat.lt_succ_of_le Nat.and_le_right
  · apply Int32.toBitVec_inj.mp
    show (X &&& 255).toBitVec = BitVec.ofNat 32 _
    simp
theorem tld_tab : ((List.range 256).all fun t => decide (((nI t).toUInt32 >>> ((4 : Int32).toUInt32 &&& Int32.toUInt32 31)).toInt32 &&& 7 = ((nI t) >>> ((4 : Int32) &&& 31)) &&& 7) && (decide (nI t &&& 128 = 0) == decide (nI t ≤ 127))) = true := by decide +kernel
theorem tld_ok {t : Nat} (h : t < 256) : ((nI t).toUInt32 >>> ((4 : Int32).toUInt32 &&& Int32.toUInt32 31)).toInt32 &&& 7 = ((nI t) >>> ((4 : Int32) &&& 31)) &&& 7 ∧ (nI t &&& 128 = 0 ↔ nI t ≤ 127) := by
  have z := List.all_eq_true.mp tld_tab t (List.mem_range.mpr h)
  rw [Bool.and_eq_true] at z
  obtain ⟨z1, z2⟩ := z
  exact ⟨of_decide_eq_true z1, decide_eq_decide.mp (eq_of_beq z2)⟩
theorem s_byte {N M i k t : Nat} {x v c og ic tt p an : Int32} {fl ll : Value} {tc stt : Int32} {pu : Nat} {q : List Int32 × Nat} {dv tk : List (Option Nat)} {dyn : mi_H} {Q : Option Value → mi_H → Prop} (ht : t < 256) (hcell : dyn[i]? = some (dvc k v c og ic tt p an fl ll))
  (h : mi_W 48 mi_m52 (39, [some (.ref 0), some (.ref (i + 6)), some (.int (nI t)), some (.int x), some (.int (nI t &&& 15)), some (.int (((nI t) >>> ((4 : Int32) &&& 31)) &&& 7)), some (.int (if nI t ≤ 127 then x else -x))], [.int (if rgb (nI t &&& 15) 12 && rgb (((nI t) >>> ((4 : Int32) &&& 31)) &&& 7) 7 then wyk k (nI t &&& 15) (((nI t) >>> ((4 : Int32) &&& 31)) &&& 7) else 1)], kh (nI N) (nI M) tc (nI pu) stt q dv tk dyn) Q) : mi_WC 49 52 [.ref 0, .ref (i + 6), .int (nI t), .int x] (kh (nI N) (nI M) tc (nI pu) stt q dv tk dyn) Q := by
  obtain ⟨h1, h2⟩ := tld_ok ht
  refine mi_WC.of (X := mi_m52) rfl (Nat.le_of_ble_eq_true rfl) ?_
  refine w_iload_n mi_a52_0 rfl ?_
  refine w_bipushv (v := 15) mi_a52_1 (by decide) ?_
  refine w_iand mi_a52_3 ?_
  refine w_istore mi_a52_4 (Nat.le_of_ble_eq_true rfl) ?_
  refine w_iload_n mi_a52_6 rfl ?_
  refine w_iconstv (v := 4) mi_a52_7 (by decide) ?_
  refine w_iushr mi_a52_8 ?_
  refine w_bipushv (v := 7) mi_a52_9 (by decide) ?_
  refine w_iand mi_a52_11 ?_
  rw [h1]
  refine w_istore mi_a52_12 (Nat.le_of_ble_eq_true rfl) ?_
  refine w_iload_n mi_a52_14 rfl ?_
  refine w_sipushv (v := 128) mi_a52_15 (by decide) ?_
  refine w_iand mi_a52_18 ?_
  have fin : ∀ (y : Int32), y = (if nI t ≤ 127 then x else -x) → ∀ e6 : Option Value, mi_W 48 mi_m52 (29, [some (.ref 0), some (.ref (i + 6)), some (.int (nI t)), some (.int x), some (.int (nI t &&& 15)), some (.int (((nI t) >>> ((4 : Int32) &&& 31)) &&& 7)), e6], [.int y], kh (nI N) (nI M) tc (nI pu) stt q dv tk dyn) Q := by
    intro y hy e6
    subst hy
    refine w_istore mi_a52_29 (Nat.le_of_ble_eq_true rfl) ?_
    refine w_aload_n mi_a52_31 rfl ?_
    refine w_iload mi_a52_32 rfl ?_
    refine w_iload mi_a52_34 rfl ?_
    refine w_callS mi_a52_36 rfl rfl 3 ⟨rfl, rfl⟩ ⟨Nat.le_of_ble_eq_true rfl, Nat.le_of_ble_eq_true rfl⟩ (s_refusal (d := 44) hcell) ?_
    rintro r' h' ⟨rfl, rfl⟩
    exact h
  refine w_if_ne mi_a52_19 26 (by decide) (fun z => ?_) (fun z => ?_)
  ·
    refine w_iconstv (v := 0) mi_a52_26 (by decide) ?_
    refine w_iload_n mi_a52_27 rfl ?_
    refine w_isub mi_a52_28 ?_
    exact fin _ (by rw [if_neg (fun e => z (h2.mpr e)), Int32.zero_sub]) _
  ·
    refine w_iload_n mi_a52_22 rfl ?_
    refine w_goto mi_a52_23 29 (by decide) ?_
    exact fin _ (by rw [if_pos (h2.mp z)]) _
theorem op_feed (x y : Int32) : opk 40 79 [.int x, .int y] := by
  intro Pm S hx hm hPm hI hC hM
  obtain ⟨N, M, stt, q, kO, vO, cO, tO, fm, to⟩ := S
  obtain ⟨hN, hMm, hq, hq2, lk, lv, lc, lt, lf, lo, hki, hli, hz⟩ := id hI
  obtain ⟨pu, tc, dv, tk, dyn, A, B, px, an, hpu, ldv, ltk, ldyn, hszd, hdv, hd, ehx⟩ := id hC
  obtain ⟨fr, pl, rw, aw, zi, fB, fA, fX, pi, lrw, law, lzi, lfB, lfA, lfX, lpi, ehm⟩ := id hM
  cases hr : rgb x (nI N) with
  | false =>
    refine ⟨0, (N, M, 1, q, kO, vO, cO, tO, fm, to), sI_st (stt := stt) hI, ?_, ?_⟩
    · refine mi_WC.mono (d := 50) ?_ (by decide)
      subst ehx
      refine mi_WC.of (X := mi_m40) rfl (Nat.le_of_ble_eq_true rfl) ?_
      refine w_aload_n mi_a40_0 rfl ?_
      refine w_iload_n mi_a40_1 rfl ?_
      refine w_callV mi_a40_2 rfl rfl 1 ⟨rfl, rfl⟩ ⟨Nat.le_of_ble_eq_true rfl, Nat.le_of_ble_eq_true rfl⟩ rfl rfl rfl rfl (s_findN (d := 48) hr) ?_
      rintro r' h' ⟨rfl, rfl⟩
      refine w_astore_nN mi_a40_5 (Nat.le_of_ble_eq_true rfl) ?_
      refine w_aload_nN mi_a40_6 rfl ?_
      refine w_ifnonnullN mi_a40_7 ?_
      refine w_aload_n mi_a40_10 rfl ?_
      refine w_iconstv (v := 1) mi_a40_11 (by decide) ?_
      refine w_put mi_a40_12 rfl rfl (Nat.le_of_ble_eq_true rfl) rfl ?_
      refine w_iconstv (v := 0) mi_a40_15 (by decide) ?_
      exact w_ireturn mi_a40_16 rfl ⟨rfl, pu, tc, dv, tk, dyn, A, B, px, an, by omega, ldv, ltk, ldyn, hszd, hdv, hd, rfl⟩
    · refine mi_WC.mono (d := 50) ?_ (by decide)
      subst ehm
      refine mi_WC.of (X := mi_m79) rfl (Nat.le_of_ble_eq_true rfl) ?_
      refine w_aload_n mi_a79_0 rfl ?_
      refine w_iload_n mi_a79_1 rfl ?_
      refine w_callV mi_a79_2 rfl rfl 1 ⟨rfl, rfl⟩ ⟨Nat.le_of_ble_eq_true rfl, Nat.le_of_ble_eq_true rfl⟩ rfl rfl rfl rfl (s_mDev (d := 48)) ?_
      rintro r' h' ⟨rfl, rfl⟩
      rw [hr]
      refine w_if_ne mi_a79_5 14 (by decide) (fun z => absurd rfl z) (fun _ => ?_)
      refine w_aload_n mi_a79_8 rfl ?_
      refine w_iconstv (v := 1) mi_a79_9 (by decide) ?_
      refine w_callV mi_a79_10 rfl rfl 1 ⟨rfl, rfl⟩ ⟨Nat.le_of_ble_eq_true rfl, Nat.le_of_ble_eq_true rfl⟩ rfl rfl rfl rfl (s_refused (d := 48)) ?_
      rintro r' h' ⟨rfl, rfl⟩
      exact w_ireturn mi_a79_13 rfl ⟨rfl, fr, pl, rw, aw, zi, fB, fA, fX, pi, lrw, law, lzi, lfB, lfA, lfX, lpi, rfl⟩
  | true =>
    obtain ⟨i, hi, rfl⟩ := rgb_at (n := N) (by omega) hr
    have loop : ∀ r, r ≤ 4 → ∀ (q : List Int32 × Nat) (vO cO : List Int32) (sum : Int32) (dyn : mi_H), sI (N, M, 0, q, kO, vO, cO, tO, fm, to) → q.2 ≤ 200 * (4 - r) → (∀ c ∈ dyn, mi_szc c ≤ 12) → dyn.length = N + M → dR N M kO vO cO tO fm to pu A B px an dyn → ∃ (res : Int32) (S' : sT), sI S' ∧ mi_W 49 mi_m40 (36, [some (.ref 0), some (.int (nI i)), some (.int y), some (.ref (A i + 6)), some (.int sum), some (.int (fsh r))], [], kh (nI N) (nI M) tc (nI pu) 0 q dv tk dyn) (fun r' h' => r' = some (.int res) ∧ cR (Pm + 1) S' h') ∧ (∀ (fr pl : Int32) (fB fA fX pi : List Int32) (e6 : Option Value), fB.length = 100 → fA.length = 100 → fX.length = 100 → pi.length = 300 → mi_W 49 mi_m79 (24, [some (.ref 0), some (.int (nI i)), some (.int y), some (.int sum), some (.int (fsh r)), e6], [], mh (nI N) (nI M) 0 fr pl q kO vO cO tO fm to rw aw zi fB fA fX pi) (fun r' h' => r' = some (.int res) ∧ mR S' h')) := by
      intro r
      induction r with
      | zero =>
        intro hr q vO cO sum dyn hI hqj hszd ldyn hd
        refine ⟨sum, _, hI, ?_, fun fr pl fB fA fX pi e6 lfB lfA lfX lpi => ?_⟩
        ·
          refine w_iload mi_a40_36 rfl ?_
          refine w_if_lt mi_a40_38 67 (by decide) (fun _ => ?_) (fun z => absurd (by decide) z)
          refine w_iload mi_a40_67 rfl ?_
          exact w_ireturn mi_a40_69 rfl ⟨rfl, pu, tc, dv, tk, dyn, A, B, px, an, by omega, ldv, ltk, ldyn, hszd, hdv, hd, rfl⟩
        ·
          refine w_iload mi_a79_24 rfl ?_
          refine w_if_lt mi_a79_26 91 (by decide) (fun _ => ?_) (fun z => absurd (by decide) z)
          refine w_iload_n mi_a79_91 rfl ?_
          exact w_ireturn mi_a79_92 rfl ⟨rfl, fr, pl, rw, aw, zi, fB, fA, fX, pi, lrw, law, lzi, lfB, lfA, lfX, lpi, rfl⟩
      | succ r ih =>
        intro hr q vO cO sum dyn hI hqj hszd ldyn hd
        obtain ⟨f1, f2, f3⟩ := fsh_ok r (by omega)
        obtain ⟨-, -, hq, hq2, -, lv, lc, -, -, -, -, -, -⟩ := id hI
        obtain ⟨k, v, c, t, hk, hkO, hv, hc, ht, hp, hcell⟩ := dR_cell hd hi
        obtain ⟨told, htd, etd⟩ := tld (y >>> (fsh (r + 1) &&& 31))
        have hB2 := fun (Q : Option Value → mi_H → Prop) => s_byte (N := N) (M := M) (tc := tc) (stt := 0) (pu := pu) (q := q) (dv := dv) (tk := tk) (dyn := dyn) (x := sum) (Q := Q) htd hcell
        have ewy := wyf_at (a := nI told &&& 15) (w := ((nI told) >>> ((4 : Int32) &&& 31)) &&& 7) hN hi hk hkO
        by_cases h0 : wyf (nI N) kO (nI i) (nI told &&& 15) (((nI told) >>> ((4 : Int32) &&& 31)) &&& 7) = 0
        · obtain ⟨i', k', aa, hi', ei, hk', hkO', haa, ea, hw, hok⟩ := wyf_ok hN hki h0
          obtain rfl := nI_inj (by omega) (by omega) ei
          obtain rfl : k' = k := nI_inj (by omega) (by omega) (Option.some.inj (hkO'.symm.trans hkO))
          have hla := acR_len hk haa hok (if nI told ≤ 127 then sum else -sum) v c q
          obtain ⟨res, S', hS, hC2, hM2⟩ := ih (by omega) (ac_kp (acR k' aa (if nI told ≤ 127 then sum else -sum) v c).2.2.2 q) (vO.set i (acR k' aa (if nI told ≤ 127 then sum else -sum) v c).2.1) (cO.set i (acR k' aa (if nI told ≤ 127 then sum else -sum) v c).2.2.1) (sum + (acR k' aa (if nI told ≤ 127 then sum else -sum) v c).1) (dyn.set (A i) (dvc k' (acR k' aa (if nI told ≤ 127 then sum else -sum) v c).2.1 (acR k' aa (if nI told ≤ 127 then sum else -sum) v c).2.2.1 (nI (cnt fm M (nI i))) (nI (cnt to M (nI i))) t (nI (px i)) (an i) (rfB B (nx fm M (nI i) 0)) (rfB B (lst fm M (nI i))))) (sI_act (stt := 0) (q := q) hI hi (hla.1.trans hq) (by have := hla.2; omega)) (by have := hla.2; omega) (szc_set hszd (szc_dvc _ _ _ _ _ _ _ _ _ _)) (by rw [List.length_set]; exact ldyn) (dR_act hd hi hk hkO hv hc ht hp)
          refine ⟨res, S', hS, ?_, fun fr pl fB fA fX pi e6 lfB lfA lfX lpi => ?_⟩
          ·
            refine w_iload mi_a40_36 rfl ?_
            refine w_if_lt mi_a40_38 67 (by decide) (fun z => absurd z f1) (fun _ => ?_)
            refine w_iload mi_a40_41 rfl ?_
            refine w_aload_n mi_a40_43 rfl ?_
            refine w_aload_n mi_a40_44 rfl ?_
            refine w_iload_n mi_a40_45 rfl ?_
            refine w_iload mi_a40_46 rfl ?_
            refine w_iushr mi_a40_48 ?_
            refine w_sipushv (v := 255) mi_a40_49 (by decide) ?_
            refine w_iand mi_a40_52 ?_
            rw [f3, etd]
            refine w_iload mi_a40_53 rfl ?_
            refine w_callV mi_a40_55 rfl rfl 3 ⟨rfl, rfl⟩ ⟨Nat.le_of_ble_eq_true rfl, Nat.le_of_ble_eq_true rfl⟩ rfl rfl rfl rfl (hB2 (fun r' h' => r' = some (.int (acR k' aa (if nI told ≤ 127 then sum else -sum) v c).1) ∧ h' = kh (nI N) (nI M) tc (nI pu) 0 (ac_kp (acR k' aa (if nI told ≤ 127 then sum else -sum) v c).2.2.2 q) dv tk (dyn.set (A i) (dvc k' (acR k' aa (if nI told ≤ 127 then sum else -sum) v c).2.1 (acR k' aa (if nI told ≤ 127 then sum else -sum) v c).2.2.1 (nI (cnt fm M (nI i))) (nI (cnt to M (nI i))) t (nI (px i)) (an i) (rfB B (nx fm M (nI i) 0)) (rfB B (lst fm M (nI i)))))) ?_) ?_
            · rw [← ewy, h0]
              refine w_if_ne mi_a52_39 58 (by decide) (fun z => absurd rfl z) (fun _ => ?_)
              rw [ea]
              refine w_aload_n mi_a52_42 rfl ?_
              refine w_get mi_a52_43 rfl rfl rfl ?_
              refine w_aload_n mi_a52_46 rfl ?_
              refine w_iload mi_a52_47 rfl ?_
              refine w_iload mi_a52_49 rfl ?_
              refine w_iconstv (v := 0) mi_a52_51 (by decide) ?_
              refine w_callV mi_a52_52 rfl rfl 4 ⟨rfl, rfl⟩ ⟨Nat.le_of_ble_eq_true rfl, Nat.le_of_ble_eq_true rfl⟩ rfl rfl rfl rfl (c_act (D := 48) (by omega) hk haa hok hq (by omega) hcell) ?_
              rintro r' h' ⟨rfl, rfl⟩
              refine w_goto mi_a52_55 59 (by decide) ?_
              exact w_ireturn mi_a52_59 rfl ⟨rfl, rfl⟩
            rintro r' h' ⟨rfl, rfl⟩
            refine w_iadd mi_a40_58 ?_
            refine w_istore mi_a40_59 (Nat.le_of_ble_eq_true rfl) ?_
            refine w_iincv mi_a40_61 rfl f2 ?_
            refine w_goto mi_a40_64 36 (by decide) ?_
            exact hC2
          ·
            refine w_iload mi_a79_24 rfl ?_
            refine w_if_lt mi_a79_26 91 (by decide) (fun z => absurd z f1) (fun _ => ?_)
            refine w_iload_n mi_a79_29 rfl ?_
            refine w_iload mi_a79_30 rfl ?_
            refine w_ishr mi_a79_32 ?_
            refine w_sipushv (v := 255) mi_a79_33 (by decide) ?_
            refine w_iand mi_a79_36 ?_
            rw [etd]
            refine w_istore mi_a79_37 (Nat.le_of_ble_eq_true rfl) ?_
            refine w_aload_n mi_a79_39 rfl ?_
            refine w_iload_n mi_a79_40 rfl ?_
            refine w_iload mi_a79_41 rfl ?_
            refine w_bipushv (v := 15) mi_a79_43 (by decide) ?_
            refine w_iand mi_a79_45 ?_
            refine w_iload mi_a79_46 rfl ?_
            refine w_iconstv (v := 4) mi_a79_48 (by decide) ?_
            refine w_ishr mi_a79_49 ?_
            refine w_bipushv (v := 7) mi_a79_50 (by decide) ?_
            refine w_iand mi_a79_52 ?_
            refine w_callV mi_a79_53 rfl rfl 3 ⟨rfl, rfl⟩ ⟨Nat.le_of_ble_eq_true rfl, Nat.le_of_ble_eq_true rfl⟩ rfl rfl rfl rfl (s_why (d := 46) hN hki rfl) ?_
            rintro r' h' ⟨rfl, rfl⟩
            rw [h0]
            refine w_if_ne mi_a79_56 85 (by decide) (fun z => absurd rfl z) (fun _ => ?_)
            refine w_iload_n mi_a79_59 rfl ?_
            refine w_aload_n mi_a79_60 rfl ?_
            refine w_iload_n mi_a79_61 rfl ?_
            refine w_iload mi_a79_62 rfl ?_
            refine w_bipushv (v := 15) mi_a79_64 (by decide) ?_
            refine w_iand mi_a79_66 ?_
            rw [ea]
            have go : ∀ y2 : Int32, y2 = (if nI told ≤ 127 then sum else -sum) → mi_W 49 mi_m79 (80, [some (.ref 0), some (.int (nI i)), some (.int y), some (.int sum), some (.int (fsh (r + 1))), some (.int (nI told))], [.int y2, .int (nI aa), .int (nI i), .ref 0, .int sum], mh (nI N) (nI M) 0 fr pl q kO vO cO tO fm to rw aw zi fB fA fX pi) (fun r' h' => r' = some (.int res) ∧ mR S' h') := by
              intro y2 hy2
              subst hy2
              refine w_callV mi_a79_80 rfl rfl 3 ⟨rfl, rfl⟩ ⟨Nat.le_of_ble_eq_true rfl, Nat.le_of_ble_eq_true rfl⟩ rfl rfl rfl rfl (m_act (D := 49) (by omega) hk haa hok (by omega) hkO hv hc lfB lfA lfX lpi hq (by omega)) ?_
              rintro r' h' ⟨rfl, fB2, fA2, fX2, pi2, l1, l2, l3, l4, rfl⟩
              refine w_iadd mi_a79_83 ?_
              refine w_istore_n mi_a79_84 (Nat.le_of_ble_eq_true rfl) ?_
              refine w_iincv mi_a79_85 rfl f2 ?_
              refine w_goto mi_a79_88 24 (by decide) ?_
              exact hM2 _ _ _ _ _ _ _ l1 l2 l3 l4
            refine w_iload mi_a79_67 rfl ?_
            refine w_bipushv (v := 127) mi_a79_69 (by decide) ?_
            refine w_icmp_le mi_a79_71 79 (by decide) (fun z => ?_) (fun z => ?_)
            ·
              refine w_iload_n mi_a79_79 rfl ?_
              exact go _ (by rw [if_pos z])
            ·
              refine w_iload_n mi_a79_74 rfl ?_
              refine w_ineg mi_a79_75 ?_
              refine w_goto mi_a79_76 80 (by decide) ?_
              exact go _ (by rw [if_neg z])
        · obtain ⟨res, S', hS, hC2, hM2⟩ := ih (by omega) q vO cO sum dyn hI (by omega) hszd ldyn hd
          refine ⟨res, S', hS, ?_, fun fr pl fB fA fX pi e6 lfB lfA lfX lpi => ?_⟩
          ·
            refine w_iload mi_a40_36 rfl ?_
            refine w_if_lt mi_a40_38 67 (by decide) (fun z => absurd z f1) (fun _ => ?_)
            refine w_iload mi_a40_41 rfl ?_
            refine w_aload_n mi_a40_43 rfl ?_
            refine w_aload_n mi_a40_44 rfl ?_
            refine w_iload_n mi_a40_45 rfl ?_
            refine w_iload mi_a40_46 rfl ?_
            refine w_iushr mi_a40_48 ?_
            refine w_sipushv (v := 255) mi_a40_49 (by decide) ?_
            refine w_iand mi_a40_52 ?_
            rw [f3, etd]
            refine w_iload mi_a40_53 rfl ?_
            refine w_callV mi_a40_55 rfl rfl 3 ⟨rfl, rfl⟩ ⟨Nat.le_of_ble_eq_true rfl, Nat.le_of_ble_eq_true rfl⟩ rfl rfl rfl rfl (hB2 (fun r' h' => r' = some (.int 0) ∧ h' = kh (nI N) (nI M) tc (nI pu) 0 q dv tk dyn) ?_) ?_
            · rw [← ewy]
              refine w_if_ne mi_a52_39 58 (by decide) (fun _ => ?_) (fun z => absurd z h0)
              refine w_iconstv (v := 0) mi_a52_58 (by decide) ?_
              exact w_ireturn mi_a52_59 rfl ⟨rfl, rfl⟩
            rintro r' h' ⟨rfl, rfl⟩
            refine w_iadd mi_a40_58 ?_
            rw [Int32.add_zero]
            refine w_istore mi_a40_59 (Nat.le_of_ble_eq_true rfl) ?_
            refine w_iincv mi_a40_61 rfl f2 ?_
            refine w_goto mi_a40_64 36 (by decide) ?_
            exact hC2
          ·
            refine w_iload mi_a79_24 rfl ?_
            refine w_if_lt mi_a79_26 91 (by decide) (fun z => absurd z f1) (fun _ => ?_)
            refine w_iload_n mi_a79_29 rfl ?_
            refine w_iload mi_a79_30 rfl ?_
            refine w_ishr mi_a79_32 ?_
            refine w_sipushv (v := 255) mi_a79_33 (by decide) ?_
            refine w_iand mi_a79_36 ?_
            rw [etd]
            refine w_istore mi_a79_37 (Nat.le_of_ble_eq_true rfl) ?_
            refine w_aload_n mi_a79_39 rfl ?_
            refine w_iload_n mi_a79_40 rfl ?_
            refine w_iload mi_a79_41 rfl ?_
            refine w_bipushv (v := 15) mi_a79_43 (by decide) ?_
            refine w_iand mi_a79_45 ?_
            refine w_iload mi_a79_46 rfl ?_
            refine w_iconstv (v := 4) mi_a79_48 (by decide) ?_
            refine w_ishr mi_a79_49 ?_
            refine w_bipushv (v := 7) mi_a79_50 (by decide) ?_
            refine w_iand mi_a79_52 ?_
            refine w_callV mi_a79_53 rfl rfl 3 ⟨rfl, rfl⟩ ⟨Nat.le_of_ble_eq_true rfl, Nat.le_of_ble_eq_true rfl⟩ rfl rfl rfl rfl (s_why (d := 46) hN hki rfl) ?_
            rintro r' h' ⟨rfl, rfl⟩
            refine w_if_ne mi_a79_56 85 (by decide) (fun _ => ?_) (fun z => absurd z h0)
            refine w_iincv mi_a79_85 rfl f2 ?_
            refine w_goto mi_a79_88 24 (by decide) ?_
            exact hM2 _ _ _ _ _ _ _ lfB lfA lfX lpi
    obtain ⟨res, S', hS, hC2, hM2⟩ := loop 4 (Nat.le_refl _) (q.1, 0) vO cO 0 dyn (by exact ⟨hN, hMm, hq, by show 0 < 2 ^ 20; decide, lk, lv, lc, lt, lf, lo, hki, hli, hz⟩) (Nat.le_refl _) hszd ldyn hd
    refine ⟨res, S', hS, ?_, ?_⟩
    · refine mi_WC.mono (d := 50) ?_ (by decide)
      subst ehx
      refine mi_WC.of (X := mi_m40) rfl (Nat.le_of_ble_eq_true rfl) ?_
      refine w_aload_n mi_a40_0 rfl ?_
      refine w_iload_n mi_a40_1 rfl ?_
      refine w_callV mi_a40_2 rfl rfl 1 ⟨rfl, rfl⟩ ⟨Nat.le_of_ble_eq_true rfl, Nat.le_of_ble_eq_true rfl⟩ rfl rfl rfl rfl ((s_find (d := 48) hN rfl hi (hdv i hi))) ?_
      rintro r' h' ⟨rfl, rfl⟩
      refine w_astore_n mi_a40_5 (Nat.le_of_ble_eq_true rfl) ?_
      refine w_aload_n mi_a40_6 rfl ?_
      refine w_ifnonnull mi_a40_7 17 (by decide) ?_
      refine w_aload_n mi_a40_17 rfl ?_
      refine w_iconstv (v := 0) mi_a40_18 (by decide) ?_
      refine w_put mi_a40_19 rfl rfl (Nat.le_of_ble_eq_true rfl) rfl ?_
      refine w_aload_n mi_a40_22 rfl ?_
      refine w_get mi_a40_23 rfl rfl rfl ?_
      refine w_callV mi_a40_26 rfl rfl 0 ⟨rfl, rfl⟩ ⟨Nat.le_of_ble_eq_true rfl, Nat.le_of_ble_eq_true rfl⟩ rfl rfl rfl rfl (s_forget (n := nI N) (m := nI M) (tc := tc) (pu := nI pu) (stt := 0) (q := q) (dv := dv) (tk := tk) (dyn := dyn) (d := 48)) ?_
      rintro r' h' ⟨rfl, rfl⟩
      refine w_iconstv (v := 0) mi_a40_29 (by decide) ?_
      refine w_istore mi_a40_30 (Nat.le_of_ble_eq_true rfl) ?_
      refine w_bipushv (v := 24) mi_a40_32 (by decide) ?_
      refine w_istore mi_a40_34 (Nat.le_of_ble_eq_true rfl) ?_
      exact hC2
    · refine mi_WC.mono (d := 50) ?_ (by decide)
      subst ehm
      refine mi_WC.of (X := mi_m79) rfl (Nat.le_of_ble_eq_true rfl) ?_
      refine w_aload_n mi_a79_0 rfl ?_
      refine w_iload_n mi_a79_1 rfl ?_
      refine w_callV mi_a79_2 rfl rfl 1 ⟨rfl, rfl⟩ ⟨Nat.le_of_ble_eq_true rfl, Nat.le_of_ble_eq_true rfl⟩ rfl rfl rfl rfl (s_mDev (d := 48)) ?_
      rintro r' h' ⟨rfl, rfl⟩
      rw [hr]
      refine w_if_ne mi_a79_5 14 (by decide) (fun _ => ?_) (fun z => absurd z (by decide))
      refine w_aload_n mi_a79_14 rfl ?_
      refine w_callV mi_a79_15 rfl rfl 0 ⟨rfl, rfl⟩ ⟨Nat.le_of_ble_eq_true rfl, Nat.le_of_ble_eq_true rfl⟩ rfl rfl rfl rfl (s_mBegin (d := 48)) ?_
      rintro r' h' ⟨rfl, rfl⟩
      refine w_iconstv (v := 0) mi_a79_18 (by decide) ?_
      refine w_istore_n mi_a79_19 (Nat.le_of_ble_eq_true rfl) ?_
      refine w_bipushv (v := 24) mi_a79_20 (by decide) ?_
      refine w_istore mi_a79_22 (Nat.le_of_ble_eq_true rfl) ?_
      exact hM2 _ _ _ _ _ _ _ lfB lfA lfX lpi
