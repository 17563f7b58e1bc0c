/-! pass: the links of a giver -/
theorem p_next {n m tc pu stt : Int32} {q : List Int32 × Nat} {dv tk : List (Option Nat)} {dyn : mi_H} {a b : Nat} {B : Nat → Nat} {o : Option Nat} {g0 g1 g3 : Option Value} {Q : Option Value → mi_H → Prop} (hlink : dyn[b]? = some (lkc a (rfB B o))) (k : mi_W 48 mi_m54 (10, [g0, g1, some (rfB B o), g3], [], kh n m tc pu stt q dv tk dyn) Q) : mi_W 48 mi_m54 (43, [g0, g1, some (.ref (b + 6)), g3], [], kh n m tc pu stt q dv tk dyn) Q := by
  cases o with
  | none =>
    refine w_aload_n mi_a54_43 rfl ?_
    refine w_get mi_a54_44 rfl hlink rfl ?_
    refine w_astore_nN mi_a54_47 (Nat.le_of_ble_eq_true rfl) ?_
    refine w_goto mi_a54_48 10 (by decide) ?_
    exact k
  | some l =>
    refine w_aload_n mi_a54_43 rfl ?_
    refine w_get mi_a54_44 rfl hlink rfl ?_
    refine w_astore_n mi_a54_47 (Nat.le_of_ble_eq_true rfl) ?_
    refine w_goto mi_a54_48 10 (by decide) ?_
    exact k
theorem p_first {n m tc pu stt : Int32} {q : List Int32 × Nat} {dv tk : List (Option Nat)} {dyn : mi_H} {a k : Nat} {v c og ic t p an : Int32} {ll : Value} {B : Nat → Nat} {o : Option Nat} {g0 g2 g3 : Option Value} {Q : Option Value → mi_H → Prop} (hcell : dyn[a]? = some (dvc k v c og ic t p an (rfB B o) ll)) (k : mi_W 48 mi_m54 (10, [g0, some (.ref (a + 6)), some (rfB B o), g3], [], kh n m tc pu stt q dv tk dyn) Q) : mi_W 48 mi_m54 (0, [g0, some (.ref (a + 6)), g2, g3], [], kh n m tc pu stt q dv tk dyn) Q := by
  cases o with
  | none =>
    refine w_aload_n mi_a54_0 rfl ?_
    refine w_ifnonnull mi_a54_1 5 (by decide) ?_
    refine w_aload_n mi_a54_5 rfl ?_
    refine w_get mi_a54_6 rfl hcell rfl ?_
    refine w_astore_nN mi_a54_9 (Nat.le_of_ble_eq_true rfl) ?_
    exact k
  | some l =>
    refine w_aload_n mi_a54_0 rfl ?_
    refine w_ifnonnull mi_a54_1 5 (by decide) ?_
    refine w_aload_n mi_a54_5 rfl ?_
    refine w_get mi_a54_6 rfl hcell rfl ?_
    refine w_astore_n mi_a54_9 (Nat.le_of_ble_eq_true rfl) ?_
    exact k
theorem p_hand {N M : Nat} {kO fm to : List Int32} {pu : Nat} {A B : Nat → Nat} {dv : List (Option Nat)} (hN : N ≤ 300) (hMm : M ≤ 400) (hpu : pu < 2 ^ 31) {f kk : Nat} {d0 x : Int32} (hkk : kk < 300) : ∀ r l, l + r = M → ∀ (q : List Int32 × Nat) (vO cO tO : List Int32) (R : List Nat) (tk : List (Option Nat)) (px : Nat → Nat) (an : Nat → Int32) (dyn : mi_H) (rw aw zi : List Int32), pI N M kO fm to pu A B q vO cO tO R tk px an dyn rw aw zi → R[kk]? = some f → ∃ (q2 : List Int32 × Nat) (vO2 cO2 tO2 : List Int32) (R2 : List Nat) (tk2 : List (Option Nat)) (px2 : Nat → Nat) (an2 : Nat → Int32) (dyn2 : mi_H) (rw2 aw2 zi2 : List Int32), pI N M kO fm to pu A B q2 vO2 cO2 tO2 R2 tk2 px2 an2 dyn2 rw2 aw2 zi2 ∧ (∀ p j : Nat, R[p]? = some j → R2[p]? = some j) ∧ (∀ g3 : Option Value, mi_W 48 mi_m54 (10, [some (.ref 0), some (.ref (A f + 6)), some (rfB B (nx fm M (nI f) l)), g3], [], kh (nI N) (nI M) (nI R.length) (nI pu) 0 q dv tk dyn) (fun r' h' => r' = none ∧ h' = kh (nI N) (nI M) (nI R2.length) (nI pu) 0 q2 dv tk2 dyn2)) ∧ ∀ (Q : Option Value → mi_H → Prop) (fr pl : Int32) (fB fA fX pi : List Int32), fB.length = 100 → fA.length = 100 → fX.length = 100 → pi.length = 300 → (∀ (fr pl : Int32) (fB fA fX pi : List Int32), fB.length = 100 → fA.length = 100 → fX.length = 100 → pi.length = 300 → mi_W 49 mi_m82 (184, [some (.ref 0), some (.int d0), some (.int x), some (.int (nI R2.length)), some (.int (nI kk)), some (.int (nI M))], [], mh (nI N) (nI M) 0 fr pl q2 kO vO2 cO2 tO2 fm to rw2 aw2 zi2 fB fA fX pi) Q) → mi_W 49 mi_m82 (81, [some (.ref 0), some (.int d0), some (.int x), some (.int (nI R.length)), some (.int (nI kk)), some (.int (nI l))], [], mh (nI N) (nI M) 0 fr pl q kO vO cO tO fm to rw aw zi fB fA fX pi) Q := by
  intro r
  induction r with
  | zero =>
    intro l hl q vO cO tO R tk px an dyn rw aw zi hT hR
    obtain rfl : l = M := by omega
    refine ⟨q, vO, cO, tO, R, tk, px, an, dyn, rw, aw, zi, hT, fun _ _ z => z, ?_, fun Q fr pl fB fA fX pi lfB lfA lfX lpi hQ => ?_⟩
    · intro g3
      rw [nx_end]
      refine w_aload_nN mi_a54_10 rfl ?_
      refine w_ifnullN mi_a54_11 51 (by decide) ?_
      exact w_vreturn mi_a54_51 rfl ⟨rfl, rfl⟩
    ·
      refine w_iload mi_a82_81 rfl ?_
      refine w_aload_n mi_a82_83 rfl ?_
      refine w_get mi_a82_84 rfl rfl rfl ?_
      refine w_icmp_ge mi_a82_87 184 (by decide) (fun _ => ?_) (fun z => absurd (nI_le (Nat.le_refl l) (by omega)) z)
      exact hQ _ _ _ _ _ _ lfB lfA lfX lpi
  | succ r ih =>
    intro l hl q vO cO tO R tk px an dyn rw aw zi hT hR
    have hlM : l < M := by omega
    have hlen := pI_len hT
    obtain ⟨hq, hq2, lv, lc, lt, ltk, lrw, law, lzi, hnd, hRN, hrow, hpx, hd, hszd, ldyn, hz⟩ := id hT
    obtain ⟨f', t', hf', ht', ef, et, hlink⟩ := hd.2.2.2 l hlM
    have hf : f < N := hRN f (List.mem_of_getElem? hR)
    obtain ⟨w1, w2, w3⟩ := hrow kk f hR
    obtain ⟨zt1, zt2⟩ := hpx t' ht'
    by_cases ff : f' = f
    · subst ff
      rw [nx_hit hlM ef]
      obtain ⟨kT, vT, cT, tT, -, -, -, -, -, hpT, hcT⟩ := dR_cell hd ht'
      obtain ⟨kF, vF, cF, tF, -, -, -, -, -, -, hcF⟩ := dR_cell hd hf
      by_cases hin : t' ∈ R
      · have ep : px t' = pu := zt1.mpr hin
        rw [decide_eq_true hin] at zt2
        obtain ⟨q2, vO2, cO2, tO2, R2, tk2, px2, an2, dyn2, rw2, aw2, zi2, h1, h2, h3, h4⟩ := ih (l + 1) (by omega) q vO cO tO R tk px an dyn rw aw zi hT hR
        refine ⟨q2, vO2, cO2, tO2, R2, tk2, px2, an2, dyn2, rw2, aw2, zi2, h1, h2, ?_, fun Q fr pl fB fA fX pi lfB lfA lfX lpi hQ => ?_⟩
        · intro g3
          show mi_W 48 mi_m54 (10, [some (.ref 0), some (.ref (A f' + 6)), some (.ref (B l + 6)), g3], [], _) _
          refine w_aload_n mi_a54_10 rfl ?_
          refine w_ifnull mi_a54_11 ?_
          refine w_aload_n mi_a54_14 rfl ?_
          refine w_get mi_a54_15 rfl hlink rfl ?_
          refine w_astore_n mi_a54_18 (Nat.le_of_ble_eq_true rfl) ?_
          refine w_aload_n mi_a54_19 rfl ?_
          refine w_ifnull mi_a54_20 ?_
          refine w_aload_n mi_a54_23 rfl ?_
          refine w_get mi_a54_24 rfl hcT rfl ?_
          refine w_aload_n mi_a54_27 rfl ?_
          refine w_get mi_a54_28 rfl rfl rfl ?_
          refine w_icmp_eq mi_a54_31 43 (by decide) (fun _ => ?_) (fun z => absurd (congrArg nI ep) z)
          exact p_next hlink (h3 _)
        ·
          refine w_iload mi_a82_81 rfl ?_
          refine w_aload_n mi_a82_83 rfl ?_
          refine w_get mi_a82_84 rfl rfl rfl ?_
          refine w_icmp_ge mi_a82_87 184 (by decide) (fun z => absurd z (nI_ge hlM (by omega))) (fun _ => ?_)
          refine w_aload_n mi_a82_90 rfl ?_
          refine w_get mi_a82_91 rfl rfl rfl ?_
          refine w_iload mi_a82_94 rfl ?_
          refine w_iald mi_a82_96 rfl (nI_pos (by omega)) (by rw [nI_clamp (by omega)]; exact ef) ?_
          refine w_aload_n mi_a82_97 rfl ?_
          refine w_get mi_a82_98 rfl rfl rfl ?_
          refine w_iload mi_a82_101 rfl ?_
          refine w_iald mi_a82_103 rfl (nI_pos (by omega)) (by rw [nI_clamp (by omega)]; exact w2) ?_
          refine w_icmp_ne mi_a82_104 178 (by decide) (fun z => absurd rfl z) (fun _ => ?_)
          refine w_aload_n mi_a82_107 rfl ?_
          refine w_get mi_a82_108 rfl rfl rfl ?_
          refine w_aload_n mi_a82_111 rfl ?_
          refine w_get mi_a82_112 rfl rfl rfl ?_
          refine w_iload mi_a82_115 rfl ?_
          refine w_iald mi_a82_117 rfl (nI_pos (by omega)) (by rw [nI_clamp (by omega)]; exact et) ?_
          refine w_bald mi_a82_118 rfl (nI_pos (by omega)) (by rw [nI_clamp (by omega)]; exact zt2) ?_
          refine w_if_eq mi_a82_119 125 (by decide) (fun z => absurd z (by decide)) (fun _ => ?_)
          refine w_goto mi_a82_122 178 (by decide) ?_
          refine w_iincv mi_a82_178 rfl (nI_succ l).symm ?_
          refine w_goto mi_a82_181 81 (by decide) ?_
          exact h4 Q _ _ _ _ _ _ lfB lfA lfX lpi hQ
      · have ep : px t' ≠ pu := fun z => hin (zt1.mp z)
        rw [decide_eq_false hin] at zt2
        have eL : (R ++ [t']).length = R.length + 1 := by rw [List.length_append]; rfl
        obtain ⟨q1, vO1, cO1, tO1, px1, an1, dyn1, y, i1, i2, i3⟩ := p_take (dv := dv) hN hT ht' hin (an f')
        have hR1 : (R ++ [t'])[kk]? = some f' := by rw [List.getElem?_append_left (List.getElem?_eq_some_iff.mp hR).1]; exact hR
        have hlen1 := pI_len i1
        rw [eL] at hlen1
        obtain ⟨q2, vO2, cO2, tO2, R2, tk2, px2, an2, dyn2, rw2, aw2, zi2, h1, h2, h3, h4⟩ := ih (l + 1) (by omega) q1 vO1 cO1 tO1 _ _ px1 an1 dyn1 _ _ _ i1 hR1
        have hd1 := i1.2.2.2.2.2.2.2.2.2.2.2.2.2.1
        obtain ⟨f1, t1, -, -, ef1, et1, hlink1⟩ := hd1.2.2.2 l hlM
        have e1 : nI f1 = nI f' := Option.some.inj (ef1.symm.trans ef)
        rw [e1] at hlink1
        refine ⟨q2, vO2, cO2, tO2, R2, tk2, px2, an2, dyn2, rw2, aw2, zi2, h1, fun p j z => h2 p j (by rw [List.getElem?_append_left (List.getElem?_eq_some_iff.mp z).1]; exact z), ?_, fun Q fr pl fB fA fX pi lfB lfA lfX lpi hQ => ?_⟩
        · intro g3
          show mi_W 48 mi_m54 (10, [some (.ref 0), some (.ref (A f' + 6)), some (.ref (B l + 6)), g3], [], _) _
          refine w_aload_n mi_a54_10 rfl ?_
          refine w_ifnull mi_a54_11 ?_
          refine w_aload_n mi_a54_14 rfl ?_
          refine w_get mi_a54_15 rfl hlink rfl ?_
          refine w_astore_n mi_a54_18 (Nat.le_of_ble_eq_true rfl) ?_
          refine w_aload_n mi_a54_19 rfl ?_
          refine w_ifnull mi_a54_20 ?_
          refine w_aload_n mi_a54_23 rfl ?_
          refine w_get mi_a54_24 rfl hcT rfl ?_
          refine w_aload_n mi_a54_27 rfl ?_
          refine w_get mi_a54_28 rfl rfl rfl ?_
          refine w_icmp_eq mi_a54_31 43 (by decide) (fun z => absurd (nI_inj (by omega) (by omega) z) ep) (fun _ => ?_)
          refine w_aload_n mi_a54_34 rfl ?_
          refine w_aload_n mi_a54_35 rfl ?_
          refine w_aload_n mi_a54_36 rfl ?_
          refine w_get mi_a54_37 rfl hcF rfl ?_
          refine w_callV mi_a54_40 rfl rfl 2 ⟨rfl, rfl⟩ ⟨Nat.le_of_ble_eq_true rfl, Nat.le_of_ble_eq_true rfl⟩ rfl rfl rfl rfl i2 ?_
          rintro r' h' ⟨rfl, rfl⟩
          rw [← eL]
          exact p_next hlink1 (h3 _)
        ·
          refine w_iload mi_a82_81 rfl ?_
          refine w_aload_n mi_a82_83 rfl ?_
          refine w_get mi_a82_84 rfl rfl rfl ?_
          refine w_icmp_ge mi_a82_87 184 (by decide) (fun z => absurd z (nI_ge hlM (by omega))) (fun _ => ?_)
          refine w_aload_n mi_a82_90 rfl ?_
          refine w_get mi_a82_91 rfl rfl rfl ?_
          refine w_iload mi_a82_94 rfl ?_
          refine w_iald mi_a82_96 rfl (nI_pos (by omega)) (by rw [nI_clamp (by omega)]; exact ef) ?_
          refine w_aload_n mi_a82_97 rfl ?_
          refine w_get mi_a82_98 rfl rfl rfl ?_
          refine w_iload mi_a82_101 rfl ?_
          refine w_iald mi_a82_103 rfl (nI_pos (by omega)) (by rw [nI_clamp (by omega)]; exact w2) ?_
          refine w_icmp_ne mi_a82_104 178 (by decide) (fun z => absurd rfl z) (fun _ => ?_)
          refine w_aload_n mi_a82_107 rfl ?_
          refine w_get mi_a82_108 rfl rfl rfl ?_
          refine w_aload_n mi_a82_111 rfl ?_
          refine w_get mi_a82_112 rfl rfl rfl ?_
          refine w_iload mi_a82_115 rfl ?_
          refine w_iald mi_a82_117 rfl (nI_pos (by omega)) (by rw [nI_clamp (by omega)]; exact et) ?_
          refine w_bald mi_a82_118 rfl (nI_pos (by omega)) (by rw [nI_clamp (by omega)]; exact zt2) ?_
          refine w_if_eq mi_a82_119 125 (by decide) (fun _ => ?_) (fun z => absurd (by decide) z)
          refine w_aload_n mi_a82_125 rfl ?_
          refine w_get mi_a82_126 rfl rfl rfl ?_
          refine w_aload_n mi_a82_129 rfl ?_
          refine w_get mi_a82_130 rfl rfl rfl ?_
          refine w_iload mi_a82_133 rfl ?_
          refine w_iald mi_a82_135 rfl (nI_pos (by omega)) (by rw [nI_clamp (by omega)]; exact et) ?_
          refine w_iconstv (v := 1) mi_a82_136 (by decide) ?_
          refine w_bast mi_a82_137 rfl (nI_pos (by omega)) (by rw [nI_clamp (by omega), lzi]; omega) ?_
          rw [nI_clamp (by omega), show (1 : Int32) &&& 1 = 1 from by decide]
          refine w_aload_n mi_a82_138 rfl ?_
          refine w_get mi_a82_139 rfl rfl rfl ?_
          refine w_iload_n mi_a82_142 rfl ?_
          refine w_aload_n mi_a82_143 rfl ?_
          refine w_get mi_a82_144 rfl rfl rfl ?_
          refine w_iload mi_a82_147 rfl ?_
          refine w_iald mi_a82_149 rfl (nI_pos (by omega)) (by rw [nI_clamp (by omega)]; exact et) ?_
          refine w_iast mi_a82_150 rfl (nI_pos (by omega)) (by rw [nI_clamp (by omega), lrw]; omega) ?_
          rw [nI_clamp (n := R.length) (by omega)]
          show mi_W 49 mi_m82 (151, _, _, mh (nI N) (nI M) 0 fr pl q kO vO cO tO fm to (rw.set R.length (nI t')) aw (zi.set t' 1) fB fA fX pi) _
          refine w_aload_n mi_a82_151 rfl ?_
          refine w_get mi_a82_152 rfl rfl rfl ?_
          refine w_iload_n mi_a82_155 rfl ?_
          refine w_aload_n mi_a82_156 rfl ?_
          refine w_aload_n mi_a82_157 rfl ?_
          refine w_get mi_a82_158 rfl rfl rfl ?_
          refine w_iload mi_a82_161 rfl ?_
          refine w_iald mi_a82_163 rfl (nI_pos (by omega)) (by rw [nI_clamp (by omega)]; exact et) ?_
          refine w_aload_n mi_a82_164 rfl ?_
          refine w_get mi_a82_165 rfl rfl rfl ?_
          refine w_iload mi_a82_168 rfl ?_
          refine w_iald mi_a82_170 rfl (nI_pos (by omega)) (by rw [nI_clamp (by omega)]; exact w3) ?_
          refine w_callV mi_a82_171 rfl rfl 2 ⟨rfl, rfl⟩ ⟨Nat.le_of_ble_eq_true rfl, Nat.le_of_ble_eq_true rfl⟩ rfl rfl rfl rfl (i3 fr pl _ _ _ _ _ _ _ lfB lfA lfX lpi) ?_
          rintro r' h' ⟨rfl, fr2, pl2, fB2, fA2, fX2, pi2, l1, l2, l3, l4, rfl⟩
          refine w_iast mi_a82_174 rfl (nI_pos (by omega)) (by rw [nI_clamp (by omega), law]; omega) ?_
          rw [nI_clamp (n := R.length) (by omega)]
          refine w_iincv (v := nI (R ++ [t']).length) mi_a82_175 rfl (by rw [eL]; exact (nI_succ _).symm) ?_
          refine w_iincv mi_a82_178 rfl (nI_succ l).symm ?_
          refine w_goto mi_a82_181 81 (by decide) ?_
          exact h4 Q _ _ _ _ _ _ l1 l2 l3 l4 hQ
    · have ef2 : fm[l]? ≠ some (nI f) := fun z => ff (nI_inj (by omega) (by omega) (Option.some.inj (ef.symm.trans z)))
      rw [nx_miss ef2]
      obtain ⟨q2, vO2, cO2, tO2, R2, tk2, px2, an2, dyn2, rw2, aw2, zi2, h1, h2, h3, h4⟩ := ih (l + 1) (by omega) q vO cO tO R tk px an dyn rw aw zi hT hR
      refine ⟨q2, vO2, cO2, tO2, R2, tk2, px2, an2, dyn2, rw2, aw2, zi2, h1, h2, h3, fun Q fr pl fB fA fX pi lfB lfA lfX lpi hQ => ?_⟩
      refine w_iload mi_a82_81 rfl ?_
      refine w_aload_n mi_a82_83 rfl ?_
      refine w_get mi_a82_84 rfl rfl rfl ?_
      refine w_icmp_ge mi_a82_87 184 (by decide) (fun z => absurd z (nI_ge hlM (by omega))) (fun _ => ?_)
      refine w_aload_n mi_a82_90 rfl ?_
      refine w_get mi_a82_91 rfl rfl rfl ?_
      refine w_iload mi_a82_94 rfl ?_
      refine w_iald mi_a82_96 rfl (nI_pos (by omega)) (by rw [nI_clamp (by omega)]; exact ef) ?_
      refine w_aload_n mi_a82_97 rfl ?_
      refine w_get mi_a82_98 rfl rfl rfl ?_
      refine w_iload mi_a82_101 rfl ?_
      refine w_iald mi_a82_103 rfl (nI_pos (by omega)) (by rw [nI_clamp (by omega)]; exact w2) ?_
      refine w_icmp_ne mi_a82_104 178 (by decide) (fun _ => ?_) (fun z => absurd (nI_inj (by omega) (by omega) z) ff)
      refine w_iincv mi_a82_178 rfl (nI_succ l).symm ?_
      refine w_goto mi_a82_181 81 (by decide) ?_
      exact h4 Q _ _ _ _ _ _ lfB lfA lfX lpi hQ
